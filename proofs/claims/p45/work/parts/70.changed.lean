/-! CHANGED: by marks changed as told it comes home -/
theorem cu_0 : ∀ v, v < 16 → ∀ m, m < 16 → ∀ k, k < 5 → pcf 32 (v ^^^ m) = 0 → cuN v m k = v := by decide +kernel
theorem xor_self0 : ∀ v, v < 16 → pcf 32 (v ^^^ v) = 0 := by decide +kernel
def csL_changed : xCs := [(mL_cell, sL_cell), (mX10_marks, sX10_marks), (mX10_asked, sX10_asked), (mL_at, sL_at), (mL_size, sL_size), (mX10_smear, sX10_smear), (mX10_where, sX10_where), (mX10_on, sX10_on), (mL_hash, sL_hash)]
theorem okL_changed : xOkM mL_changed csL_changed := ⟨dL_changed, by decide +kernel, by decide +kernel, ⟨wdL_21, wdL_21, wdL_166, wdL_81, wdL_140, wdL_159, wdL_166, wdL_140, wdL_159, wdL_59, wdL_140, wdL_166, wdL_140, wdL_148, wdL_140, wdL_129, wdL_99, trivial⟩⟩
theorem hhL_changed : ∀ q ∈ csL_changed, xHd q.1 := xall1 hL_cell (xall1 hX10_marks (xall1 hX10_asked (xall1 hL_at (xall1 hL_size (xall1 hX10_smear (xall1 hX10_where (xall1 hX10_on (xall1 hL_hash (xall0)))))))))
theorem kkL_changed : ∀ q ∈ csL_changed, ∀ l, xCon l q.1 q.2 := xall1 kL_cell (xall1 kX10_marks (xall1 kX10_asked (xall1 kL_at (xall1 kL_size (xall1 kX10_smear (xall1 kX10_where (xall1 kX10_on (xall1 kL_hash (xall0)))))))))
def sL_changed : xSpec := xRg7 fun as I L Q => ∃ (S : ST), as = [.ref 1, .ref 0, .ref 27, .long (hsh S)] ∧ Lq S I L ∧ wok S I ∧ 0 < S.d.nA ∧ 0 < S.d.nL ∧ S.kp 2 = S.D ∧ S.D.z ≤ 20 ∧ ∀ I' L', frC I L I' L' → Lq S I' L' → Q (some (.int (nI 1))) I' L'
set_option maxHeartbeats 3000000 in
set_option maxRecDepth 100000 in
theorem kL_changed : ∀ l, xCon l mL_changed sL_changed := by
  refine xcon_of okL_changed hL_changed rfl hhL_changed kkL_changed ?_
  rintro as n0 I L P Q ⟨hn9, rfl, S, rfl, hC, hw, hA, hL, hkp, hz, hQ⟩
  obtain ⟨e9, rfl⟩ := xe7 hn9
  refine ⟨Nat.le_of_ble_eq_true rfl, ?_⟩
  have hd : S.d.ok := hC.ok.d
  have h4 : S.d.nA ≤ 4 := hd.a4
  have h5 : S.d.nL ≤ 5 := hd.l5
  have hz0 : 0 < S.D.z := hC.ok.z
  have nzL : ¬ nI S.d.nL = 0 := by
    have e : nI S.d.nL = 0 ↔ S.d.nL = 0 := nI_eq (b := 0) (by omega) (by decide)
    rw [e]; omega
  refine xrun okL_changed hhL_changed [(100, [true, true, true, true, false, true, true, true, true, true, true, true, false])] 60 ?_
  refine ⟨rfl, rfl, 14, rfl, by decide, fun x hx => ?_⟩
  have w1' : I 27 (nI 1).toNatClampNeg = nI S.d.nL := by rw [nI_clamp (by decide)]; exact hw.2
  refine ⟨in_nI (by omega) (by decide), ?_⟩
  rw [w1']
  refine ⟨nzL, ?_⟩
  rw [pk_rem hx hL (by omega)]
  have hl : x % S.d.nL < S.d.nL := Nat.mod_lt _ hL
  generalize x % S.d.nL = l at hl
  refine ⟨rfl, rfl, 14, rfl, by decide, fun y hy => ?_⟩
  refine ⟨by decide, ?_⟩
  rw [shr_n (k := 3) hy (by decide), pk_rem (by omega) (by decide) (by decide)]
  have hn : y / 2 ^ 3 % 21 < 21 := Nat.mod_lt _ (by decide)
  generalize y / 2 ^ 3 % 21 = n at hn
  have hmk := mkN_16 S.D.X l
  -- behind the days looked at
  have h292 : ∀ (b : Bool) (fw to now : Int32) (c : Option Value) (D : DD) I' L', (b = true → ∃ p, p < 10 ∧ fw = nI p) → (b = false → fw = -(nI 9)) → Lq (S.wD D) I' L' → frC I L I' L' → xGo mL_changed csL_changed 292 Q [some (.ref 1), some (.ref 0), some (.ref 27), some (.long (hsh S)), none, some (.int (nI l)), some (.int (nI n)), some (.int fw), some (.int to), some (.int now), some (.int (nI 1)), some (.int (bI b)), c] [] 0 (e9 + 27) I' L' xP0 := by
    rintro b fw to now c D I1 L1 hb1 hb2 ⟨v1, hC1⟩ hf1
    have fin : ∀ (S2 : ST) (o : Int32) I2 L2, onR ((S.wD D).wT v1) (nI 2) o S2 → frC I1 L1 I2 L2 → Cls S2 I2 L2 → o = nI (S.D.z - 1) ∧ Lq S I2 L2 ∧ frC I L I2 L2 := by
      intro S2 o I2 L2 hr hf hc
      have hkz : ((S.wD D).wT v1).kp 2 = S.D := hkp
      have := onR_v (S := (S.wD D).wT v1) hr (by decide) (by rw [hkz]; exact hz0)
      rw [hkz] at this
      obtain ⟨q1, q2⟩ := this
      subst q2
      exact ⟨q1, ⟨v1, hc⟩, frC_t hf1 hf⟩
    refine xrun okL_changed hhL_changed [] 80 ?_
    (first | (refine xbr_f ?_ ?_; (focus ((simp (disch := omega) only [ix_lt, ix_le, ix_eq, ix_0, nI_clamp, nI_toInt, ng_T, nI_add, nI_mul, nI_sub', Int.neg_zero, not_false_eq_true, not_true_eq_false] <;> omega); done))) | (refine xbr_t ?_ ?_; (focus ((simp (disch := omega) only [ix_lt, ix_le, ix_eq, ix_0, nI_clamp, nI_toInt, ng_T, nI_add, nI_mul, nI_sub', Int.neg_zero, not_false_eq_true, not_true_eq_false] <;> omega); done))) | refine ⟨Or.inl rfl, ?_⟩ | refine ⟨Or.inr rfl, ?_⟩ | (refine ⟨?_, ?_⟩; (focus (exact in_nI (by omega) (by omega)))))
    cases b
    · rw [hb2 rfl]
      (first | (refine xbr_f ?_ ?_; (focus ((simp (disch := omega) only [ix_lt, ix_le, ix_eq, ix_0, nI_clamp, nI_toInt, ng_T, nI_add, nI_mul, nI_sub', Int.neg_zero, not_false_eq_true, not_true_eq_false] <;> omega); done))) | (refine xbr_t ?_ ?_; (focus ((simp (disch := omega) only [ix_lt, ix_le, ix_eq, ix_0, nI_clamp, nI_toInt, ng_T, nI_add, nI_mul, nI_sub', Int.neg_zero, not_false_eq_true, not_true_eq_false] <;> omega); done))) | refine ⟨Or.inl rfl, ?_⟩ | refine ⟨Or.inr rfl, ?_⟩ | (refine ⟨?_, ?_⟩; (focus (exact in_nI (by omega) (by omega)))))
      refine xbr_t rfl ?_
      refine ⟨rfl, rfl, _, _, rfl, hC1, fun o S2 I2 L2 hr2 hf2 hC2 => ?_⟩
      obtain ⟨q1, q2, q3⟩ := fin S2 o I2 L2 hr2 hf2 hC2
      subst q1
      (first | (refine xbr_f ?_ ?_; (focus ((simp (disch := omega) only [ix_lt, ix_le, ix_eq, ix_0, nI_clamp, nI_toInt, ng_T, nI_add, nI_mul, nI_sub', Int.neg_zero, not_false_eq_true, not_true_eq_false] <;> omega); done))) | (refine xbr_t ?_ ?_; (focus ((simp (disch := omega) only [ix_lt, ix_le, ix_eq, ix_0, nI_clamp, nI_toInt, ng_T, nI_add, nI_mul, nI_sub', Int.neg_zero, not_false_eq_true, not_true_eq_false] <;> omega); done))) | refine ⟨Or.inl rfl, ?_⟩ | refine ⟨Or.inr rfl, ?_⟩ | (refine ⟨?_, ?_⟩; (focus (exact in_nI (by omega) (by omega)))))
      refine ⟨rfl, rfl, S, rfl, q2, ⟨by rw [f27 q3]; exact hw.1, by rw [f27 q3]; exact hw.2⟩, fun I3 L3 hf3 hC3 => ?_⟩
      refine xbr_t (lcmp_0 _) ?_
      refine ⟨Or.inr rfl, ?_⟩
      exact hQ I3 L3 (frC_t q3 hf3) hC3
    · obtain ⟨p, hp, rfl⟩ := hb1 rfl
      (first | (refine xbr_f ?_ ?_; (focus ((simp (disch := omega) only [ix_lt, ix_le, ix_eq, ix_0, nI_clamp, nI_toInt, ng_T, nI_add, nI_mul, nI_sub', Int.neg_zero, not_false_eq_true, not_true_eq_false] <;> omega); done))) | (refine xbr_t ?_ ?_; (focus ((simp (disch := omega) only [ix_lt, ix_le, ix_eq, ix_0, nI_clamp, nI_toInt, ng_T, nI_add, nI_mul, nI_sub', Int.neg_zero, not_false_eq_true, not_true_eq_false] <;> omega); done))) | refine ⟨Or.inl rfl, ?_⟩ | refine ⟨Or.inr rfl, ?_⟩ | (refine ⟨?_, ?_⟩; (focus (exact in_nI (by omega) (by omega)))))
      refine xbr_t rfl ?_
      refine ⟨rfl, rfl, _, _, rfl, hC1, fun o S2 I2 L2 hr2 hf2 hC2 => ?_⟩
      obtain ⟨q1, q2, q3⟩ := fin S2 o I2 L2 hr2 hf2 hC2
      subst q1
      (first | (refine xbr_f ?_ ?_; (focus ((simp (disch := omega) only [ix_lt, ix_le, ix_eq, ix_0, nI_clamp, nI_toInt, ng_T, nI_add, nI_mul, nI_sub', Int.neg_zero, not_false_eq_true, not_true_eq_false] <;> omega); done))) | (refine xbr_t ?_ ?_; (focus ((simp (disch := omega) only [ix_lt, ix_le, ix_eq, ix_0, nI_clamp, nI_toInt, ng_T, nI_add, nI_mul, nI_sub', Int.neg_zero, not_false_eq_true, not_true_eq_false] <;> omega); done))) | refine ⟨Or.inl rfl, ?_⟩ | refine ⟨Or.inr rfl, ?_⟩ | (refine ⟨?_, ?_⟩; (focus (exact in_nI (by omega) (by omega)))))
      refine ⟨rfl, rfl, S, rfl, q2, ⟨by rw [f27 q3]; exact hw.1, by rw [f27 q3]; exact hw.2⟩, fun I3 L3 hf3 hC3 => ?_⟩
      refine xbr_t (lcmp_0 _) ?_
      refine ⟨Or.inr rfl, ?_⟩
      exact hQ I3 L3 (frC_t q3 hf3) hC3
  -- it comes, as told
  have h218 : ∀ (b : Bool) (fw to now : Int32) (c k : Option Value) (D : DD) I' L', (b = true → ∃ p, p < 10 ∧ fw = nI p) → (b = false → fw = -(nI 9)) → hmB S.d (dyN S.d D.X n) l = b → Lq (S.wD D) I' L' → frC I L I' L' → xGo mL_changed csL_changed 218 Q [some (.ref 1), some (.ref 0), some (.ref 27), some (.long (hsh S)), none, some (.int (nI l)), some (.int (nI n)), some (.int fw), some (.int to), some (.int now), some (.int (nI 1)), c, k] [] 0 (e9 + 27) I' L' xP0 := by
    intro b fw to now c0 k0 D I1 L1 hb1 hb2 hb hC1 hf1
    have loop : ∀ (j m : Nat) I' L', j + m = n → Lq (S.wD D) I' L' → frC I L I' L' → xGo mL_changed csL_changed 244 Q [some (.ref 1), some (.ref 0), some (.ref 27), some (.long (hsh S)), none, some (.int (nI l)), some (.int (nI n)), some (.int fw), some (.int to), some (.int now), some (.int (nI 1)), some (.int (bI (hmB S.d (dyN S.d D.X m) l))), some (.int (nI (m + 1)))] [] 0 (e9 + 27) I' L' xP0 := by
      intro j
      induction j with
      | zero =>
        intro m I2 L2 hm hC2 hf2
        obtain rfl : m = n := by omega
        refine xrun okL_changed hhL_changed [(292, [true, true, true, true, false, true, true, true, true, true, true, true, true])] 80 ?_
        (first | (refine xbr_f ?_ ?_; (focus ((simp (disch := omega) only [ix_lt, ix_le, ix_eq, ix_0, nI_clamp, nI_toInt, ng_T, nI_add, nI_mul, nI_sub', Int.neg_zero, not_false_eq_true, not_true_eq_false] <;> omega); done))) | (refine xbr_t ?_ ?_; (focus ((simp (disch := omega) only [ix_lt, ix_le, ix_eq, ix_0, nI_clamp, nI_toInt, ng_T, nI_add, nI_mul, nI_sub', Int.neg_zero, not_false_eq_true, not_true_eq_false] <;> omega); done))) | refine ⟨Or.inl rfl, ?_⟩ | refine ⟨Or.inr rfl, ?_⟩ | (refine ⟨?_, ?_⟩; (focus (exact in_nI (by omega) (by omega)))))
        rw [hb]
        exact h292 b fw to now _ D I2 L2 hb1 hb2 hC2 hf2
      | succ j ih =>
        intro m I2 L2 hm hC2 hf2
        refine xrun okL_changed hhL_changed [(244, [true, true, true, true, false, true, true, true, true, true, true, true, true]), (292, [true, true, true, true, false, true, true, true, true, true, true, true, true])] 80 ?_
        (first | (refine xbr_f ?_ ?_; (focus ((simp (disch := omega) only [ix_lt, ix_le, ix_eq, ix_0, nI_clamp, nI_toInt, ng_T, nI_add, nI_mul, nI_sub', Int.neg_zero, not_false_eq_true, not_true_eq_false] <;> omega); done))) | (refine xbr_t ?_ ?_; (focus ((simp (disch := omega) only [ix_lt, ix_le, ix_eq, ix_0, nI_clamp, nI_toInt, ng_T, nI_add, nI_mul, nI_sub', Int.neg_zero, not_false_eq_true, not_true_eq_false] <;> omega); done))) | refine ⟨Or.inl rfl, ?_⟩ | refine ⟨Or.inr rfl, ?_⟩ | (refine ⟨?_, ?_⟩; (focus (exact in_nI (by omega) (by omega)))))
        (first | (refine xbr_f ?_ ?_; (focus ((simp (disch := omega) only [ix_lt, ix_le, ix_eq, ix_0, nI_clamp, nI_toInt, ng_T, nI_add, nI_mul, nI_sub', Int.neg_zero, not_false_eq_true, not_true_eq_false] <;> omega); done))) | (refine xbr_t ?_ ?_; (focus ((simp (disch := omega) only [ix_lt, ix_le, ix_eq, ix_0, nI_clamp, nI_toInt, ng_T, nI_add, nI_mul, nI_sub', Int.neg_zero, not_false_eq_true, not_true_eq_false] <;> omega); done))) | refine ⟨Or.inl rfl, ?_⟩ | refine ⟨Or.inr rfl, ?_⟩ | (refine ⟨?_, ?_⟩; (focus (exact in_nI (by omega) (by omega)))))
        cases hh : hmB S.d (dyN S.d D.X m) l
        · (first | refine xbr_t (by decide) ?_ | refine xbr_f (by decide) ?_)
          obtain ⟨v2, hC2⟩ := hC2
          refine ⟨rfl, rfl, (S.wD D).wT v2, _, _, rfl, hC2, fun o S3 I3 L3 hr3 hf3 hC3 => ?_⟩
          have hz9 := whereR_v hr3 hd hl (by omega)
          simp only [wT_d, wT_D, wT_kp, wT_rz, wT_rv, wR_d, wR_D, wR_kp, wR_rz, wR_rv, wC_d, wC_D, wC_kp, wC_rz, wC_rv, wD_d, wD_D, wD_kp, wD_rz, wD_rv] at hz9
          obtain ⟨q1, q2⟩ : o = nI (plN (dyN S.d D.X (m + 1)) l) ∧ S3 = (S.wD D).wT v2 := hz9
          subst q1
          subst q2
          refine ⟨rfl, rfl, S.wD D, l, 2, rfl, hl, by decide, ⟨v2, hC3⟩, fun I4 L4 hf4 hC4 => ?_⟩
          have o2 : olI (S.wD D).d (S.wD D).D.X l 2 = nI (hmN S.d l) := rfl
          have b1 := plN_8 (dyN S.d D.X (m + 1)) l
          have b2 := hmN_8 S.d l
          have go := ih (m + 1) I4 L4 (by omega) hC4 (frC_t hf2 (frC_t hf3 hf4))
          cases hh2 : hmB S.d (dyN S.d D.X (m + 1)) l
          · have hne : ¬ plN (dyN S.d D.X (m + 1)) l = hmN S.d l := of_decide_eq_false hh2
            (first | (refine xbr_f ?_ ?_; (focus ((simp (disch := omega) only [ix_lt, ix_le, ix_eq, ix_0, nI_clamp, nI_toInt, ng_T, nI_add, nI_mul, nI_sub', Int.neg_zero, not_false_eq_true, not_true_eq_false, o2] <;> omega); done))) | (refine xbr_t ?_ ?_; (focus ((simp (disch := omega) only [ix_lt, ix_le, ix_eq, ix_0, nI_clamp, nI_toInt, ng_T, nI_add, nI_mul, nI_sub', Int.neg_zero, not_false_eq_true, not_true_eq_false, o2] <;> omega); done))) | refine ⟨Or.inl rfl, ?_⟩ | refine ⟨Or.inr rfl, ?_⟩ | (refine ⟨?_, ?_⟩; (focus ((try simp (disch := omega) only [o2, nI_mul, nI_add, nI_sub']); exact in_nI (by omega) (by omega)))))
            refine xgo_eq go ?_ rfl rfl
            ((repeat' (first | (with_reducible rfl) | exact xv_nil | refine xv_cons ?_ ?_ | refine xv_i ?_ | refine xv_l ?_)) <;> (simp (disch := omega) only [↓reduceIte, Bool.false_eq_true, Nat.one_mul, Nat.zero_mul, Nat.or_zero, Nat.add_zero, Nat.zero_add, Bool.toNat_true, Bool.toNat_false, shl_n, shr_n, fa_and, fa_or, nx_xor, nI_add, nI_mul, nI_sub', and_1, and_7, and_3', and_15, hh2, bI_f]))
          · have heq : plN (dyN S.d D.X (m + 1)) l = hmN S.d l := of_decide_eq_true hh2
            (first | (refine xbr_f ?_ ?_; (focus ((simp (disch := omega) only [ix_lt, ix_le, ix_eq, ix_0, nI_clamp, nI_toInt, ng_T, nI_add, nI_mul, nI_sub', Int.neg_zero, not_false_eq_true, not_true_eq_false, o2] <;> omega); done))) | (refine xbr_t ?_ ?_; (focus ((simp (disch := omega) only [ix_lt, ix_le, ix_eq, ix_0, nI_clamp, nI_toInt, ng_T, nI_add, nI_mul, nI_sub', Int.neg_zero, not_false_eq_true, not_true_eq_false, o2] <;> omega); done))) | refine ⟨Or.inl rfl, ?_⟩ | refine ⟨Or.inr rfl, ?_⟩ | (refine ⟨?_, ?_⟩; (focus ((try simp (disch := omega) only [o2, nI_mul, nI_add, nI_sub']); exact in_nI (by omega) (by omega)))))
            refine xgo_eq go ?_ rfl rfl
            ((repeat' (first | (with_reducible rfl) | exact xv_nil | refine xv_cons ?_ ?_ | refine xv_i ?_ | refine xv_l ?_)) <;> (simp (disch := omega) only [↓reduceIte, Bool.false_eq_true, Nat.one_mul, Nat.zero_mul, Nat.or_zero, Nat.add_zero, Nat.zero_add, Bool.toNat_true, Bool.toNat_false, shl_n, shr_n, fa_and, fa_or, nx_xor, nI_add, nI_mul, nI_sub', and_1, and_7, and_3', and_15, hh2, bI_t]))
        · have e : b = true := by rw [← hb]; exact hm_dy hd (show m ≤ n by omega) hh
          (first | refine xbr_t (by decide) ?_ | refine xbr_f (by decide) ?_)
          have go := h292 b fw to now (some (.int (nI (m + 1)))) D I2 L2 hb1 hb2 hC2 hf2
          rw [e] at go
          exact go
    refine xrun okL_changed hhL_changed [(244, [true, true, true, true, false, true, true, true, true, true, true, true, true])] 80 ?_
    (first | (refine xbr_f ?_ ?_; (focus ((simp (disch := omega) only [ix_lt, ix_le, ix_eq, ix_0, nI_clamp, nI_toInt, ng_T, nI_add, nI_mul, nI_sub', Int.neg_zero, not_false_eq_true, not_true_eq_false] <;> omega); done))) | (refine xbr_t ?_ ?_; (focus ((simp (disch := omega) only [ix_lt, ix_le, ix_eq, ix_0, nI_clamp, nI_toInt, ng_T, nI_add, nI_mul, nI_sub', Int.neg_zero, not_false_eq_true, not_true_eq_false] <;> omega); done))) | refine ⟨Or.inl rfl, ?_⟩ | refine ⟨Or.inr rfl, ?_⟩ | (refine ⟨?_, ?_⟩; (focus (exact in_nI (by omega) (by omega)))))
    refine ⟨rfl, rfl, S.wD D, l, 3, rfl, hl, by decide, hC1, fun I2 L2 hf2 hC2 => ?_⟩
    have o3 : olI (S.wD D).d (S.wD D).D.X l 3 = bI (hmB S.d D.X l) := rfl
    have go := loop n 0 I2 L2 (by omega) hC2 (frC_t hf1 hf2)
    have go : xGo mL_changed csL_changed 244 Q [some (.ref 1), some (.ref 0), some (.ref 27), some (.long (hsh S)), none, some (.int (nI l)), some (.int (nI n)), some (.int fw), some (.int to), some (.int now), some (.int (nI 1)), some (.int (bI (hmB S.d D.X l))), some (.int (nI 1))] [] 0 (e9 + 27) I2 L2 xP0 := go
    rw [o3]
    cases hh : hmB S.d D.X l
    · rw [hh] at go
      (first | refine xbr_t (by decide) ?_ | refine xbr_f (by decide) ?_)
      exact go
    · rw [hh] at go
      (first | refine xbr_t (by decide) ?_ | refine xbr_f (by decide) ?_)
      exact go
  obtain ⟨v0, hC0⟩ := hC
  refine ⟨rfl, rfl, S.wT v0, _, _, rfl, hC0, fun o S1 I1 L1 hr1 hf1 hC1 => ?_⟩
  have hz9 := marksR_v hr1 hd hl hn
  simp only [wT_d, wT_D, wT_kp, wT_rz, wT_rv, wR_d, wR_D, wR_kp, wR_rz, wR_rv, wC_d, wC_D, wC_kp, wC_rz, wC_rv, wD_d, wD_D, wD_kp, wD_rz, wD_rv] at hz9
  have hmr : ((mhN S.d S.D.X l n 16).1 = 0 ∧ o = -(nI 9) ∧ S1 = S.wT v0) ∨ (∃ v, (mhN S.d S.D.X l n 16).1 = v + 1 ∧ o = nI (pcf 32 (v ^^^ mkN S.D.X l)) ∧ S1 = S.wT (nI v)) := hz9
  have o0 : olI S.d S.D.X l 0 = nI (mkN S.D.X l) := rfl
  rcases hmr with ⟨q1, rfl, rfl⟩ | ⟨v, q1, rfl, rfl⟩
  · have hno : hmB S.d (dyN S.d S.D.X n) l = false := by
      rcases mh_sp S.d S.D.X l n 16 (Nat.le_refl 16) with ⟨_, _, h⟩ | ⟨v, h1, _⟩
      · rw [← mc_mk]
        exact h _ hmk
      · omega
    (first | (refine xbr_f ?_ ?_; (focus ((simp (disch := omega) only [ix_lt, ix_le, ix_eq, ix_0, nI_clamp, nI_toInt, ng_T, nI_add, nI_mul, nI_sub', Int.neg_zero, not_false_eq_true, not_true_eq_false] <;> omega); done))) | (refine xbr_t ?_ ?_; (focus ((simp (disch := omega) only [ix_lt, ix_le, ix_eq, ix_0, nI_clamp, nI_toInt, ng_T, nI_add, nI_mul, nI_sub', Int.neg_zero, not_false_eq_true, not_true_eq_false] <;> omega); done))) | refine ⟨Or.inl rfl, ?_⟩ | refine ⟨Or.inr rfl, ?_⟩ | (refine ⟨?_, ?_⟩; (focus (exact in_nI (by omega) (by omega)))))
    refine ⟨rfl, rfl, S, l, 0, rfl, hl, by decide, ⟨v0, hC1⟩, fun I2 L2 hf2 hC2 => ?_⟩
    rw [o0]
    (first | (refine xbr_f ?_ ?_; (focus ((simp (disch := omega) only [ix_lt, ix_le, ix_eq, ix_0, nI_clamp, nI_toInt, ng_T, nI_add, nI_mul, nI_sub', Int.neg_zero, not_false_eq_true, not_true_eq_false] <;> omega); done))) | (refine xbr_t ?_ ?_; (focus ((simp (disch := omega) only [ix_lt, ix_le, ix_eq, ix_0, nI_clamp, nI_toInt, ng_T, nI_add, nI_mul, nI_sub', Int.neg_zero, not_false_eq_true, not_true_eq_false] <;> omega); done))) | refine ⟨Or.inl rfl, ?_⟩ | refine ⟨Or.inr rfl, ?_⟩ | (refine ⟨?_, ?_⟩; (focus (exact in_nI (by omega) (by omega)))))
    refine xrun okL_changed hhL_changed [(218, [true, true, true, true, false, true, true, true, true, true, true, true, true])] 80 ?_
    (first | (refine xbr_f ?_ ?_; (focus ((simp (disch := omega) only [ix_lt, ix_le, ix_eq, ix_0, nI_clamp, nI_toInt, ng_T, nI_add, nI_mul, nI_sub', Int.neg_zero, not_false_eq_true, not_true_eq_false] <;> omega); done))) | (refine xbr_t ?_ ?_; (focus ((simp (disch := omega) only [ix_lt, ix_le, ix_eq, ix_0, nI_clamp, nI_toInt, ng_T, nI_add, nI_mul, nI_sub', Int.neg_zero, not_false_eq_true, not_true_eq_false] <;> omega); done))) | refine ⟨Or.inl rfl, ?_⟩ | refine ⟨Or.inr rfl, ?_⟩ | (refine ⟨?_, ?_⟩; (focus (exact in_nI (by omega) (by omega)))))
    (first | (refine xbr_f ?_ ?_; (focus ((simp (disch := omega) only [ix_lt, ix_le, ix_eq, ix_0, nI_clamp, nI_toInt, ng_T, nI_add, nI_mul, nI_sub', Int.neg_zero, not_false_eq_true, not_true_eq_false] <;> omega); done))) | (refine xbr_t ?_ ?_; (focus ((simp (disch := omega) only [ix_lt, ix_le, ix_eq, ix_0, nI_clamp, nI_toInt, ng_T, nI_add, nI_mul, nI_sub', Int.neg_zero, not_false_eq_true, not_true_eq_false] <;> omega); done))) | refine ⟨Or.inl rfl, ?_⟩ | refine ⟨Or.inr rfl, ?_⟩ | (refine ⟨?_, ?_⟩; (focus (exact in_nI (by omega) (by omega)))))
    (first | (refine xbr_f ?_ ?_; (focus ((simp (disch := omega) only [ix_lt, ix_le, ix_eq, ix_0, nI_clamp, nI_toInt, ng_T, nI_add, nI_mul, nI_sub', Int.neg_zero, not_false_eq_true, not_true_eq_false] <;> omega); done))) | (refine xbr_t ?_ ?_; (focus ((simp (disch := omega) only [ix_lt, ix_le, ix_eq, ix_0, nI_clamp, nI_toInt, ng_T, nI_add, nI_mul, nI_sub', Int.neg_zero, not_false_eq_true, not_true_eq_false] <;> omega); done))) | refine ⟨Or.inl rfl, ?_⟩ | refine ⟨Or.inr rfl, ?_⟩ | (refine ⟨?_, ?_⟩; (focus (exact in_nI (by omega) (by omega)))))
    (first | (refine xbr_f ?_ ?_; (focus ((simp (disch := omega) only [ix_lt, ix_le, ix_eq, ix_0, nI_clamp, nI_toInt, ng_T, nI_add, nI_mul, nI_sub', Int.neg_zero, not_false_eq_true, not_true_eq_false] <;> omega); done))) | (refine xbr_t ?_ ?_; (focus ((simp (disch := omega) only [ix_lt, ix_le, ix_eq, ix_0, nI_clamp, nI_toInt, ng_T, nI_add, nI_mul, nI_sub', Int.neg_zero, not_false_eq_true, not_true_eq_false] <;> omega); done))) | refine ⟨Or.inl rfl, ?_⟩ | refine ⟨Or.inr rfl, ?_⟩ | (refine ⟨?_, ?_⟩; (focus (exact in_nI (by omega) (by omega)))))
    (first | (refine xbr_f ?_ ?_; (focus ((simp (disch := omega) only [ix_lt, ix_le, ix_eq, ix_0, nI_clamp, nI_toInt, ng_T, nI_add, nI_mul, nI_sub', Int.neg_zero, not_false_eq_true, not_true_eq_false] <;> omega); done))) | (refine xbr_t ?_ ?_; (focus ((simp (disch := omega) only [ix_lt, ix_le, ix_eq, ix_0, nI_clamp, nI_toInt, ng_T, nI_add, nI_mul, nI_sub', Int.neg_zero, not_false_eq_true, not_true_eq_false] <;> omega); done))) | refine ⟨Or.inl rfl, ?_⟩ | refine ⟨Or.inr rfl, ?_⟩ | (refine ⟨?_, ?_⟩; (focus (exact in_nI (by omega) (by omega)))))
    exact h218 false _ _ _ _ _ S.D I2 L2 (fun q => Bool.noConfusion q) (fun _ => rfl) hno hC2 (frC_t hf1 hf2)
  · obtain ⟨hv, hmc, hmin⟩ : v < 16 ∧ mcB S.d S.D.X l n v = true ∧ ∀ m, m < 16 → mcB S.d S.D.X l n m = true → pcf 32 (v ^^^ mkN S.D.X l) ≤ pcf 32 (m ^^^ mkN S.D.X l) := by
      rcases mh_sp S.d S.D.X l n 16 (Nat.le_refl 16) with ⟨h, _⟩ | ⟨u, h1, h2, h3, h4, h5⟩
      · omega
      · obtain rfl : u = v := by omega
        exact ⟨h2, h3, h5⟩
    have hpc : pcf 32 (v ^^^ mkN S.D.X l) ≤ 4 := pc_4 _ (xor_16 hv hmk)
    -- the marks being changed
    have h178 : ∀ (k : Option Value) (D : DD) I' L', D.X = seMk S.D.X l v → Lq (S.wD D) I' L' → frC I L I' L' → xGo mL_changed csL_changed 178 Q [some (.ref 1), some (.ref 0), some (.ref 27), some (.long (hsh S)), none, some (.int (nI l)), some (.int (nI n)), some (.int (nI (pcf 32 (v ^^^ mkN S.D.X l)))), some (.int (nI v)), some (.int (nI (mkN S.D.X l))), some (.int (nI 1)), k, none] [] 0 (e9 + 27) I' L' xP0 := by
      intro k0 D I2 L2 hDX hC2 hf2
      obtain ⟨u, hu1, hu2, hu3⟩ := mh_cur (c := v) hv hv hmc hmin (by rw [xor_self0 v hv, Nat.zero_add])
      rw [xor_self0 v hv] at hu3
      have emk : mkN D.X l = v := by rw [hDX, mk_mk hv, if_pos rfl]
      have o0' : olI (S.wD D).d (S.wD D).D.X l 0 = nI v := by
        show nI (mkN D.X l) = _
        rw [emk]
      refine xrun okL_changed hhL_changed [(218, [true, true, true, true, false, true, true, true, true, true, true, true, true])] 80 ?_
      (first | (refine xbr_f ?_ ?_; (focus ((simp (disch := omega) only [ix_lt, ix_le, ix_eq, ix_0, nI_clamp, nI_toInt, ng_T, nI_add, nI_mul, nI_sub', Int.neg_zero, not_false_eq_true, not_true_eq_false] <;> omega); done))) | (refine xbr_t ?_ ?_; (focus ((simp (disch := omega) only [ix_lt, ix_le, ix_eq, ix_0, nI_clamp, nI_toInt, ng_T, nI_add, nI_mul, nI_sub', Int.neg_zero, not_false_eq_true, not_true_eq_false] <;> omega); done))) | refine ⟨Or.inl rfl, ?_⟩ | refine ⟨Or.inr rfl, ?_⟩ | (refine ⟨?_, ?_⟩; (focus (exact in_nI (by omega) (by omega)))))
      (first | (refine xbr_f ?_ ?_; (focus ((simp (disch := omega) only [ix_lt, ix_le, ix_eq, ix_0, nI_clamp, nI_toInt, ng_T, nI_add, nI_mul, nI_sub', Int.neg_zero, not_false_eq_true, not_true_eq_false] <;> omega); done))) | (refine xbr_t ?_ ?_; (focus ((simp (disch := omega) only [ix_lt, ix_le, ix_eq, ix_0, nI_clamp, nI_toInt, ng_T, nI_add, nI_mul, nI_sub', Int.neg_zero, not_false_eq_true, not_true_eq_false] <;> omega); done))) | refine ⟨Or.inl rfl, ?_⟩ | refine ⟨Or.inr rfl, ?_⟩ | (refine ⟨?_, ?_⟩; (focus (exact in_nI (by omega) (by omega)))))
      refine ⟨rfl, rfl, S.wD D, l, 0, rfl, hl, by decide, hC2, fun I3 L3 hf3 hC3 => ?_⟩
      rw [o0']
      refine xbr_t rfl ?_
      obtain ⟨v3, hC3⟩ := hC3
      refine ⟨rfl, rfl, (S.wD D).wT v3, _, _, rfl, hC3, fun o S4 I4 L4 hr4 hf4 hC4 => ?_⟩
      have hz9 := marksR_v hr4 hd hl hn
      simp only [wT_d, wT_D, wT_kp, wT_rz, wT_rv, wR_d, wR_D, wR_kp, wR_rz, wR_rv, wC_d, wC_D, wC_kp, wC_rz, wC_rv, wD_d, wD_D, wD_kp, wD_rz, wD_rv] at hz9
      have hmr : ((mhN S.d D.X l n 16).1 = 0 ∧ o = -(nI 9) ∧ S4 = (S.wD D).wT v3) ∨ (∃ v, (mhN S.d D.X l n 16).1 = v + 1 ∧ o = nI (pcf 32 (v ^^^ mkN D.X l)) ∧ S4 = (S.wD D).wT (nI v)) := hz9
      rw [hDX] at hmr
      rcases hmr with ⟨p1, _⟩ | ⟨u', p1, p2, rfl⟩
      · omega
      · obtain rfl : u' = u := by omega
        rw [← hDX, emk, hu3] at p2
        subst p2
        refine xbr_t rfl ?_
        have hb : hmB S.d (dyN S.d D.X n) l = true := by rw [hDX]; exact hmc
        exact h218 true _ _ _ _ _ D I4 L4 (fun _ => ⟨_, by omega, rfl⟩) (fun q => Bool.noConfusion q) hb ⟨_, hC4⟩ (frC_t hf2 (frC_t hf3 hf4))
    (first | (refine xbr_f ?_ ?_; (focus ((simp (disch := omega) only [ix_lt, ix_le, ix_eq, ix_0, nI_clamp, nI_toInt, ng_T, nI_add, nI_mul, nI_sub', Int.neg_zero, not_false_eq_true, not_true_eq_false] <;> omega); done))) | (refine xbr_t ?_ ?_; (focus ((simp (disch := omega) only [ix_lt, ix_le, ix_eq, ix_0, nI_clamp, nI_toInt, ng_T, nI_add, nI_mul, nI_sub', Int.neg_zero, not_false_eq_true, not_true_eq_false] <;> omega); done))) | refine ⟨Or.inl rfl, ?_⟩ | refine ⟨Or.inr rfl, ?_⟩ | (refine ⟨?_, ?_⟩; (focus (exact in_nI (by omega) (by omega)))))
    refine ⟨rfl, rfl, _, rfl, hC1, ?_⟩
    refine ⟨rfl, rfl, S, l, 0, rfl, hl, by decide, ⟨nI v, hC1⟩, fun I2 L2 hf2 hC2 => ?_⟩
    rw [o0]
    have eto : (S.wT (nI v)).to = nI v := rfl
    rw [eto]
    have ex : nI v ^^^ nI (mkN S.D.X l) = nI (v ^^^ mkN S.D.X l) := nx_xor _ _
    (first | (refine xbr_f ?_ ?_; (focus ((simp (disch := omega) only [ix_lt, ix_le, ix_eq, ix_0, nI_clamp, nI_toInt, ng_T, nI_add, nI_mul, nI_sub', Int.neg_zero, not_false_eq_true, not_true_eq_false] <;> omega); done))) | (refine xbr_t ?_ ?_; (focus ((simp (disch := omega) only [ix_lt, ix_le, ix_eq, ix_0, nI_clamp, nI_toInt, ng_T, nI_add, nI_mul, nI_sub', Int.neg_zero, not_false_eq_true, not_true_eq_false] <;> omega); done))) | refine ⟨Or.inl rfl, ?_⟩ | refine ⟨Or.inr rfl, ?_⟩ | (refine ⟨?_, ?_⟩; (focus (exact in_nI (by omega) (by omega)))))
    (first | (refine xbr_f ?_ ?_; (focus ((simp (disch := omega) only [ix_lt, ix_le, ix_eq, ix_0, nI_clamp, nI_toInt, ng_T, nI_add, nI_mul, nI_sub', Int.neg_zero, not_false_eq_true, not_true_eq_false] <;> omega); done))) | (refine xbr_t ?_ ?_; (focus ((simp (disch := omega) only [ix_lt, ix_le, ix_eq, ix_0, nI_clamp, nI_toInt, ng_T, nI_add, nI_mul, nI_sub', Int.neg_zero, not_false_eq_true, not_true_eq_false] <;> omega); done))) | refine ⟨Or.inl rfl, ?_⟩ | refine ⟨Or.inr rfl, ?_⟩ | (refine ⟨?_, ?_⟩; (focus (exact in_nI (by omega) (by omega)))))
    (first | (refine xbr_f ?_ ?_; (focus ((simp (disch := omega) only [ix_lt, ix_le, ix_eq, ix_0, nI_clamp, nI_toInt, ng_T, nI_add, nI_mul, nI_sub', Int.neg_zero, not_false_eq_true, not_true_eq_false] <;> omega); done))) | (refine xbr_t ?_ ?_; (focus ((simp (disch := omega) only [ix_lt, ix_le, ix_eq, ix_0, nI_clamp, nI_toInt, ng_T, nI_add, nI_mul, nI_sub', Int.neg_zero, not_false_eq_true, not_true_eq_false] <;> omega); done))) | refine ⟨Or.inl rfl, ?_⟩ | refine ⟨Or.inr rfl, ?_⟩ | (refine ⟨?_, ?_⟩; (focus (exact in_nI (by omega) (by omega)))))
    refine ⟨rfl, rfl, v ^^^ mkN S.D.X l, by rw [ex], by have := xor_16 hv hmk; omega, ?_⟩
    rw [cn_pc16 _ (xor_16 hv hmk)]
    refine xbr_t rfl ?_
    refine xgo_eq (xlpW (M := mL_changed) (cs := csL_changed) (pc := 100) 4 (fun k => [some (.ref 1), some (.ref 0), some (.ref 27), some (.long (hsh S)), none, some (.int (nI l)), some (.int (nI n)), some (.int (nI (pcf 32 (v ^^^ mkN S.D.X l)))), some (.int (nI v)), some (.int (nI (mkN S.D.X l))), some (.int (nI 1)), some (.int (nI k)), none]) (fun k I' L' => ∃ D, D.X = seMk S.D.X l (cuN v (mkN S.D.X l) k) ∧ D.z ≤ S.D.z + k ∧ Lq (S.wD D) I' L' ∧ frC I L I' L') ?_ ?_ ⟨S.D, by rw [(cu_4 v hv _ hmk).2, se_mk], Nat.le_refl _, hC2, frC_t hf1 hf2⟩) rfl rfl rfl
    · rintro k hk I3 L3 ⟨D, hDX, hDz, hC3, hf3⟩ ih
      obtain ⟨hc16, hcs⟩ := cu_f v hv _ hmk k (by omega)
      have hcS := cu_s v hv _ hmk k hk
      by_cases h0 : pcf 32 (v ^^^ mkN S.D.X l) = 0
      · have e := cu_0 v hv _ hmk k (by omega) h0
        have go := h178 (some (.int (nI k))) D I3 L3 (by rw [hDX, e]) hC3 hf3
        refine xrun okL_changed hhL_changed [(178, [true, true, true, true, false, true, true, true, true, true, true, true, false])] 80 ?_
        (first | (refine xbr_f ?_ ?_; (focus ((simp (disch := omega) only [ix_lt, ix_le, ix_eq, ix_0, nI_clamp, nI_toInt, ng_T, nI_add, nI_mul, nI_sub', Int.neg_zero, not_false_eq_true, not_true_eq_false] <;> omega); done))) | (refine xbr_t ?_ ?_; (focus ((simp (disch := omega) only [ix_lt, ix_le, ix_eq, ix_0, nI_clamp, nI_toInt, ng_T, nI_add, nI_mul, nI_sub', Int.neg_zero, not_false_eq_true, not_true_eq_false] <;> omega); done))) | refine ⟨Or.inl rfl, ?_⟩ | refine ⟨Or.inr rfl, ?_⟩ | (refine ⟨?_, ?_⟩; (focus (exact in_nI (by omega) (by omega)))))
        (first | (refine xbr_f ?_ ?_; (focus ((simp (disch := omega) only [ix_lt, ix_le, ix_eq, ix_0, nI_clamp, nI_toInt, ng_T, nI_add, nI_mul, nI_sub', Int.neg_zero, not_false_eq_true, not_true_eq_false] <;> omega); done))) | (refine xbr_t ?_ ?_; (focus ((simp (disch := omega) only [ix_lt, ix_le, ix_eq, ix_0, nI_clamp, nI_toInt, ng_T, nI_add, nI_mul, nI_sub', Int.neg_zero, not_false_eq_true, not_true_eq_false] <;> omega); done))) | refine ⟨Or.inl rfl, ?_⟩ | refine ⟨Or.inr rfl, ?_⟩ | (refine ⟨?_, ?_⟩; (focus (exact in_nI (by omega) (by omega)))))
        (first | (refine xbr_f ?_ ?_; (focus ((simp (disch := omega) only [ix_lt, ix_le, ix_eq, ix_0, nI_clamp, nI_toInt, ng_T, nI_add, nI_mul, nI_sub', Int.neg_zero, not_false_eq_true, not_true_eq_false] <;> omega); done))) | (refine xbr_t ?_ ?_; (focus ((simp (disch := omega) only [ix_lt, ix_le, ix_eq, ix_0, nI_clamp, nI_toInt, ng_T, nI_add, nI_mul, nI_sub', Int.neg_zero, not_false_eq_true, not_true_eq_false] <;> omega); done))) | refine ⟨Or.inl rfl, ?_⟩ | refine ⟨Or.inr rfl, ?_⟩ | (refine ⟨?_, ?_⟩; (focus (exact in_nI (by omega) (by omega)))))
        exact go
      · refine xrun okL_changed hhL_changed [(100, [true, true, true, true, false, true, true, true, true, true, true, true, false])] 80 ?_
        (first | (refine xbr_f ?_ ?_; (focus ((simp (disch := omega) only [ix_lt, ix_le, ix_eq, ix_0, nI_clamp, nI_toInt, ng_T, nI_add, nI_mul, nI_sub', Int.neg_zero, not_false_eq_true, not_true_eq_false] <;> omega); done))) | (refine xbr_t ?_ ?_; (focus ((simp (disch := omega) only [ix_lt, ix_le, ix_eq, ix_0, nI_clamp, nI_toInt, ng_T, nI_add, nI_mul, nI_sub', Int.neg_zero, not_false_eq_true, not_true_eq_false] <;> omega); done))) | refine ⟨Or.inl rfl, ?_⟩ | refine ⟨Or.inr rfl, ?_⟩ | (refine ⟨?_, ?_⟩; (focus (exact in_nI (by omega) (by omega)))))
        (first | (refine xbr_f ?_ ?_; (focus ((simp (disch := omega) only [ix_lt, ix_le, ix_eq, ix_0, nI_clamp, nI_toInt, ng_T, nI_add, nI_mul, nI_sub', Int.neg_zero, not_false_eq_true, not_true_eq_false] <;> omega); done))) | (refine xbr_t ?_ ?_; (focus ((simp (disch := omega) only [ix_lt, ix_le, ix_eq, ix_0, nI_clamp, nI_toInt, ng_T, nI_add, nI_mul, nI_sub', Int.neg_zero, not_false_eq_true, not_true_eq_false] <;> omega); done))) | refine ⟨Or.inl rfl, ?_⟩ | refine ⟨Or.inr rfl, ?_⟩ | (refine ⟨?_, ?_⟩; (focus (exact in_nI (by omega) (by omega)))))
        (first | (refine xbr_f ?_ ?_; (focus ((simp (disch := omega) only [ix_lt, ix_le, ix_eq, ix_0, nI_clamp, nI_toInt, ng_T, nI_add, nI_mul, nI_sub', Int.neg_zero, not_false_eq_true, not_true_eq_false] <;> omega); done))) | (refine xbr_t ?_ ?_; (focus ((simp (disch := omega) only [ix_lt, ix_le, ix_eq, ix_0, nI_clamp, nI_toInt, ng_T, nI_add, nI_mul, nI_sub', Int.neg_zero, not_false_eq_true, not_true_eq_false] <;> omega); done))) | refine ⟨Or.inl rfl, ?_⟩ | refine ⟨Or.inr rfl, ?_⟩ | (refine ⟨?_, ?_⟩; (focus (exact in_nI (by omega) (by omega)))))
        have eb : ((nI v ^^^ nI (mkN S.D.X l)) >>> (nI k &&& 31)) &&& nI 1 = bI (tbB (v ^^^ mkN S.D.X l) k) := by
          rw [ex]
          exact bit_i (by have := xor_16 hv hmk; omega) (by omega)
        cases hb : tbB (v ^^^ mkN S.D.X l) k
        · rw [hb] at eb hcS
          have eb2 : ¬ ((nI v ^^^ nI (mkN S.D.X l)) >>> (nI k &&& 31)) &&& nI 1 = nI 1 := by rw [eb]; decide
          (first | refine xbr_t eb2 ?_ | refine xbr_f eb2 ?_)
          refine xgo_eq (ih _ _ ⟨D, by rw [hDX, hcS]; rfl, by omega, hC3, hf3⟩) ?_ rfl rfl
          ((repeat' (first | (with_reducible rfl) | exact xv_nil | refine xv_cons ?_ ?_ | refine xv_i ?_ | refine xv_l ?_)) <;> (simp (disch := omega) only [↓reduceIte, Bool.false_eq_true, Nat.one_mul, Nat.zero_mul, Nat.or_zero, Nat.add_zero, Nat.zero_add, Bool.toNat_true, Bool.toNat_false, shl_n, shr_n, fa_and, fa_or, nx_xor, nI_add, nI_mul, nI_sub', and_1, and_7, and_3', and_15]))
        · rw [hb] at eb hcS
          have hcS : cuN v (mkN S.D.X l) (k + 1) = cuN v (mkN S.D.X l) k ^^^ 2 ^ k := hcS
          refine xbr_t eb ?_
          have emk : mkN D.X l = cuN v (mkN S.D.X l) k := by rw [hDX, mk_mk hc16, if_pos rfl]
          have o0' : olI (S.wD D).d (S.wD D).D.X l 0 = nI (cuN v (mkN S.D.X l) k) := by
            show nI (mkN D.X l) = _
            rw [emk]
          obtain ⟨u, hu1, hu2, hu3⟩ := mh_cur (c := cuN v (mkN S.D.X l) k) hv hc16 hmc hmin hcs
          obtain ⟨v3, hC3⟩ := hC3
          refine ⟨rfl, rfl, (S.wD D).wT v3, _, _, rfl, hC3, fun o S4 I4 L4 hr4 hf4 hC4 => ?_⟩
          have hz9 := marksR_v hr4 hd hl hn
          simp only [wT_d, wT_D, wT_kp, wT_rz, wT_rv, wR_d, wR_D, wR_kp, wR_rz, wR_rv, wC_d, wC_D, wC_kp, wC_rz, wC_rv, wD_d, wD_D, wD_kp, wD_rz, wD_rv] at hz9
          have hmr : ((mhN S.d D.X l n 16).1 = 0 ∧ o = -(nI 9) ∧ S4 = (S.wD D).wT v3) ∨ (∃ v, (mhN S.d D.X l n 16).1 = v + 1 ∧ o = nI (pcf 32 (v ^^^ mkN D.X l)) ∧ S4 = (S.wD D).wT (nI v)) := hz9
          rw [hDX] at hmr
          rcases hmr with ⟨p1, _⟩ | ⟨u', p1, p2, rfl⟩
          · omega
          · obtain rfl : u' = u := by omega
            rw [← hDX, emk, hu3] at p2
            subst p2
            refine ⟨rfl, rfl, S.wD D, l, 0, rfl, hl, by decide, ⟨_, hC4⟩, fun I5 L5 hf5 hC5 => ?_⟩
            rw [o0']
            refine ⟨rfl, rfl, v ^^^ cuN v (mkN S.D.X l) k, by rw [nx_xor], by have := xor_16 hv hc16; omega, ?_⟩
            rw [cn_pc16 _ (xor_16 hv hc16)]
            refine xbr_t rfl ?_
            obtain ⟨v5, hC5⟩ := hC5
            refine ⟨rfl, rfl, (S.wD D).wT v5, _, _, rfl, hC5, fun o S6 I6 L6 hr6 hf6 hC6 => ?_⟩
            have hz9 := smearR_v hr6 hd hl hk (by show D.z < 41; omega)
            simp only [wT_d, wT_D, wT_kp, wT_rz, wT_rv, wR_d, wR_D, wR_kp, wR_rz, wR_rv, wC_d, wC_D, wC_kp, wC_rz, wC_rv, wD_d, wD_D, wD_kp, wD_rz, wD_rv] at hz9
            obtain ⟨p3, p4⟩ : o = nI (mkN D.X l ^^^ 2 ^ k) ∧ S6 = smS ((S.wD D).wT v5) l k := hz9
            have h2k : 2 ^ k < 16 := Nat.pow_lt_pow_right (n := 4) (by decide) hk
            have hx16 := xor_16 hc16 h2k
            rw [emk] at p3
            subst p3
            subst p4
            (first | (refine xbr_f ?_ ?_; (focus ((simp (disch := omega) only [ix_lt, ix_le, ix_eq, ix_0, nI_clamp, nI_toInt, ng_T, nI_add, nI_mul, nI_sub', Int.neg_zero, not_false_eq_true, not_true_eq_false] <;> omega); done))) | (refine xbr_t ?_ ?_; (focus ((simp (disch := omega) only [ix_lt, ix_le, ix_eq, ix_0, nI_clamp, nI_toInt, ng_T, nI_add, nI_mul, nI_sub', Int.neg_zero, not_false_eq_true, not_true_eq_false] <;> omega); done))) | refine ⟨Or.inl rfl, ?_⟩ | refine ⟨Or.inr rfl, ?_⟩ | (refine ⟨?_, ?_⟩; (focus (exact in_nI (by omega) (by omega)))))
            refine xgo_eq (ih _ _ ⟨adD D (seMk D.X l (mkN D.X l ^^^ 2 ^ k)) false, ?_, by show D.z + 1 ≤ _; omega, ⟨v5, hC6⟩, frC_t hf3 (frC_t hf4 (frC_t hf5 hf6))⟩) ?_ rfl rfl
            · show seMk D.X l (mkN D.X l ^^^ 2 ^ k) = _
              rw [emk, hDX, se_se hc16 hx16, hcS]
            · ((repeat' (first | (with_reducible rfl) | exact xv_nil | refine xv_cons ?_ ?_ | refine xv_i ?_ | refine xv_l ?_)) <;> (simp (disch := omega) only [↓reduceIte, Bool.false_eq_true, Nat.one_mul, Nat.zero_mul, Nat.or_zero, Nat.add_zero, Nat.zero_add, Bool.toNat_true, Bool.toNat_false, shl_n, shr_n, fa_and, fa_or, nx_xor, nI_add, nI_mul, nI_sub', and_1, and_7, and_3', and_15]))
    · rintro I3 L3 ⟨D, hDX, hDz, hC3, hf3⟩
      rw [(cu_4 v hv _ hmk).1] at hDX
      have go := h178 (some (.int (nI 4))) D I3 L3 hDX hC3 hf3
      refine xrun okL_changed hhL_changed [(178, [true, true, true, true, false, true, true, true, true, true, true, true, false])] 80 ?_
      (first | (refine xbr_f ?_ ?_; (focus ((simp (disch := omega) only [ix_lt, ix_le, ix_eq, ix_0, nI_clamp, nI_toInt, ng_T, nI_add, nI_mul, nI_sub', Int.neg_zero, not_false_eq_true, not_true_eq_false] <;> omega); done))) | (refine xbr_t ?_ ?_; (focus ((simp (disch := omega) only [ix_lt, ix_le, ix_eq, ix_0, nI_clamp, nI_toInt, ng_T, nI_add, nI_mul, nI_sub', Int.neg_zero, not_false_eq_true, not_true_eq_false] <;> omega); done))) | refine ⟨Or.inl rfl, ?_⟩ | refine ⟨Or.inr rfl, ?_⟩ | (refine ⟨?_, ?_⟩; (focus (exact in_nI (by omega) (by omega)))))
      exact go
