/-! THE REFERENCE, 13: what is told; lots -/
def csX11_sortsLike : xCs := [(mX11_isA, sX11_isA)]
theorem okX11_sortsLike : xOkM mX11_sortsLike csX11_sortsLike := ⟨dX11_sortsLike, by decide +kernel, by decide +kernel, ⟨wdX11_118, wdX11_31, wdX11_219, trivial⟩⟩
theorem hhX11_sortsLike : ∀ q ∈ csX11_sortsLike, xHd q.1 := xall1 hX11_isA (xall0)
theorem kkX11_sortsLike : ∀ q ∈ csX11_sortsLike, ∀ l, xCon l q.1 q.2 := xall1 kX11_isA (xall0)
def sX11_sortsLike : xSpec := xReg fun as I L Q => ∃ (d : PD) (w : Nat), as = [.ref 27, .int (nI w)] ∧ pdR d I ∧ w < 8 ∧ 0 < w ∧ Q (some (.int (nI (cnN (fun i => isN (kdN d i) w) d.nA)))) I L
set_option maxRecDepth 100000 in
theorem kX11_sortsLike : ∀ l, xCon l mX11_sortsLike sX11_sortsLike := by
  refine xcon_of okX11_sortsLike hX11_sortsLike rfl (by decide) hhX11_sortsLike kkX11_sortsLike ?_
  rintro as n0 I L P Q ⟨rfl, rfl, d, w, rfl, hP, hw, h0, hQ⟩
  refine ⟨Nat.le_of_ble_eq_true rfl, ?_⟩
  have ha := hP.a
  have h4 := hP.ok.a4
  refine xrun okX11_sortsLike hhX11_sortsLike [(4, [true, true, true, true])] 20 ?_
  refine xlp (M := mX11_sortsLike) (cs := csX11_sortsLike) (pc := 4) d.nA (fun i => [some (.ref 27), some (.int (nI w)), some (.int (nI (cnN (fun i => isN (kdN d i) w) i))), some (.int (nI i))]) (fun _ => I) (fun _ => L) ?_ ?_
  · intro i hi ih
    refine xrun okX11_sortsLike hhX11_sortsLike [(4, [true, true, true, true])] 60 ?_
    (first | (refine xbr_f ?_ ?_; (focus ((simp (disch := omega) only [ix_lt, ix_le, ix_eq, ix_0, nI_clamp, nI_toInt, ng_T, nI_add, nI_mul, nI_sub', Int.neg_zero, not_false_eq_true, not_true_eq_false, ha] <;> omega); done))) | (refine xbr_t ?_ ?_; (focus ((simp (disch := omega) only [ix_lt, ix_le, ix_eq, ix_0, nI_clamp, nI_toInt, ng_T, nI_add, nI_mul, nI_sub', Int.neg_zero, not_false_eq_true, not_true_eq_false, ha] <;> omega); done))) | refine ⟨Or.inl rfl, ?_⟩ | refine ⟨Or.inr rfl, ?_⟩ | (refine ⟨?_, ?_⟩; (focus ((try simp (disch := omega) only [ha, nI_mul, nI_add, nI_sub']); exact in_nI (by omega) (by omega)))))
    (first | (refine xbr_f ?_ ?_; (focus ((simp (disch := omega) only [ix_lt, ix_le, ix_eq, ix_0, nI_clamp, nI_toInt, ng_T, nI_add, nI_mul, nI_sub', Int.neg_zero, not_false_eq_true, not_true_eq_false, nI_add] <;> omega); done))) | (refine xbr_t ?_ ?_; (focus ((simp (disch := omega) only [ix_lt, ix_le, ix_eq, ix_0, nI_clamp, nI_toInt, ng_T, nI_add, nI_mul, nI_sub', Int.neg_zero, not_false_eq_true, not_true_eq_false, nI_add] <;> omega); done))) | refine ⟨Or.inl rfl, ?_⟩ | refine ⟨Or.inr rfl, ?_⟩ | (refine ⟨?_, ?_⟩; (focus ((try simp (disch := omega) only [nI_add, nI_mul, nI_add, nI_sub']); exact in_nI (by omega) (by omega)))))
    refine ⟨rfl, rfl, kdN d i, w, ?_, kdN_8 _ _, hw, h0, ?_⟩
    · simp (disch := omega) only [hP.k i hi, nI_mul, nI_add, nI_clamp, nI_sub']
    cases hb : isN (kdN d i) w <;> (
      (first | refine xbr_t (by decide) ?_ | refine xbr_f (by decide) ?_)
      refine xgo_eq ih ?_ rfl rfl
      ((repeat' (first | (with_reducible rfl) | exact xv_nil | refine xv_cons ?_ ?_ | refine xv_i ?_ | refine xv_l ?_)) <;> (simp (disch := omega) only [↓reduceIte, Bool.false_eq_true, Nat.one_mul, Nat.zero_mul, Nat.or_zero, Nat.add_zero, Nat.zero_add, Bool.toNat_true, Bool.toNat_false, shl_n, shr_n, fa_and, fa_or, nx_xor, nI_add, nI_mul, nI_sub', and_1, and_7, and_3', and_15, cnN, hb])))
  · refine xrun okX11_sortsLike hhX11_sortsLike [] 60 ?_
    (first | (refine xbr_f ?_ ?_; (focus ((simp (disch := omega) only [ix_lt, ix_le, ix_eq, ix_0, nI_clamp, nI_toInt, ng_T, nI_add, nI_mul, nI_sub', Int.neg_zero, not_false_eq_true, not_true_eq_false, ha] <;> omega); done))) | (refine xbr_t ?_ ?_; (focus ((simp (disch := omega) only [ix_lt, ix_le, ix_eq, ix_0, nI_clamp, nI_toInt, ng_T, nI_add, nI_mul, nI_sub', Int.neg_zero, not_false_eq_true, not_true_eq_false, ha] <;> omega); done))) | refine ⟨Or.inl rfl, ?_⟩ | refine ⟨Or.inr rfl, ?_⟩ | (refine ⟨?_, ?_⟩; (focus ((try simp (disch := omega) only [ha, nI_mul, nI_add, nI_sub']); exact in_nI (by omega) (by omega)))))
    exact hQ
def csX11_roadsNow : xCs := []
theorem okX11_roadsNow : xOkM mX11_roadsNow csX11_roadsNow := ⟨dX11_roadsNow, by decide +kernel, by decide +kernel, ⟨wdX11_28, trivial⟩⟩
theorem hhX11_roadsNow : ∀ q ∈ csX11_roadsNow, xHd q.1 := xall0
theorem kkX11_roadsNow : ∀ q ∈ csX11_roadsNow, ∀ l, xCon l q.1 q.2 := xall0
def sX11_roadsNow : xSpec := xReg fun as I L Q => ∃ (d : PD), as = [.ref 27] ∧ pdR d I ∧ Q (some (.int (nI (roN d 5)))) I L
set_option maxRecDepth 100000 in
theorem kX11_roadsNow : ∀ l, xCon l mX11_roadsNow sX11_roadsNow := by
  refine xcon_of okX11_roadsNow hX11_roadsNow rfl (by decide) hhX11_roadsNow kkX11_roadsNow ?_
  rintro as n0 I L P Q ⟨rfl, rfl, d, rfl, hP, hQ⟩
  refine ⟨Nat.le_of_ble_eq_true rfl, ?_⟩
  refine xrun okX11_roadsNow hhX11_roadsNow [(4, [true, true, true])] 20 ?_
  refine xlp (M := mX11_roadsNow) (cs := csX11_roadsNow) (pc := 4) 5 (fun k => [some (.ref 27), some (.int (nI (roN d k))), some (.int (nI k))]) (fun _ => I) (fun _ => L) ?_ ?_
  · intro k hk ih
    refine xrun okX11_roadsNow hhX11_roadsNow [(4, [true, true, true])] 60 ?_
    (first | (refine xbr_f ?_ ?_; (focus ((simp (disch := omega) only [ix_lt, ix_le, ix_eq, ix_0, nI_clamp, nI_toInt, ng_T, nI_add, nI_mul, nI_sub', Int.neg_zero, not_false_eq_true, not_true_eq_false] <;> omega); done))) | (refine xbr_t ?_ ?_; (focus ((simp (disch := omega) only [ix_lt, ix_le, ix_eq, ix_0, nI_clamp, nI_toInt, ng_T, nI_add, nI_mul, nI_sub', Int.neg_zero, not_false_eq_true, not_true_eq_false] <;> omega); done))) | refine ⟨Or.inl rfl, ?_⟩ | refine ⟨Or.inr rfl, ?_⟩ | (refine ⟨?_, ?_⟩; (focus (exact in_nI (by omega) (by omega)))))
    (first | (refine xbr_f ?_ ?_; (focus ((simp (disch := omega) only [ix_lt, ix_le, ix_eq, ix_0, nI_clamp, nI_toInt, ng_T, nI_add, nI_mul, nI_sub', Int.neg_zero, not_false_eq_true, not_true_eq_false, nI_add] <;> omega); done))) | (refine xbr_t ?_ ?_; (focus ((simp (disch := omega) only [ix_lt, ix_le, ix_eq, ix_0, nI_clamp, nI_toInt, ng_T, nI_add, nI_mul, nI_sub', Int.neg_zero, not_false_eq_true, not_true_eq_false, nI_add] <;> omega); done))) | refine ⟨Or.inl rfl, ?_⟩ | refine ⟨Or.inr rfl, ?_⟩ | (refine ⟨?_, ?_⟩; (focus ((try simp (disch := omega) only [nI_add, nI_mul, nI_add, nI_sub']); exact in_nI (by omega) (by omega)))))
    have e := hP.r k hk
    have e2 : (nI k).toNatClampNeg = k := nI_clamp (by omega)
    refine xgo_eq ih ?_ rfl rfl
    ((repeat' (first | (with_reducible rfl) | exact xv_nil | refine xv_cons ?_ ?_ | refine xv_i ?_ | refine xv_l ?_)) <;> (simp (disch := omega) only [↓reduceIte, Bool.false_eq_true, Nat.one_mul, Nat.zero_mul, Nat.or_zero, Nat.add_zero, Nat.zero_add, Bool.toNat_true, Bool.toNat_false, shl_n, shr_n, fa_and, fa_or, nx_xor, nI_add, nI_mul, nI_sub', and_1, and_7, and_3', and_15, roN, e2, e]))
  · refine xrun okX11_roadsNow hhX11_roadsNow [] 60 ?_
    (first | (refine xbr_f ?_ ?_; (focus ((simp (disch := omega) only [ix_lt, ix_le, ix_eq, ix_0, nI_clamp, nI_toInt, ng_T, nI_add, nI_mul, nI_sub', Int.neg_zero, not_false_eq_true, not_true_eq_false] <;> omega); done))) | (refine xbr_t ?_ ?_; (focus ((simp (disch := omega) only [ix_lt, ix_le, ix_eq, ix_0, nI_clamp, nI_toInt, ng_T, nI_add, nI_mul, nI_sub', Int.neg_zero, not_false_eq_true, not_true_eq_false] <;> omega); done))) | refine ⟨Or.inl rfl, ?_⟩ | refine ⟨Or.inr rfl, ?_⟩ | (refine ⟨?_, ?_⟩; (focus (exact in_nI (by omega) (by omega)))))
    exact hQ
def csX11_there : xCs := []
theorem okX11_there : xOkM mX11_there csX11_there := ⟨dX11_there, by decide +kernel, by decide +kernel, ⟨wdX11_13, wdX11_19, wdX11_49, trivial⟩⟩
theorem hhX11_there : ∀ q ∈ csX11_there, xHd q.1 := xall0
theorem kkX11_there : ∀ q ∈ csX11_there, ∀ l, xCon l q.1 q.2 := xall0
def sX11_there : xSpec := xReg fun as I L Q => ∃ (S : ST) (w : Nat), as = [.ref 27, .int (nI w)] ∧ Ref S I L ∧ 8 ≤ w ∧ w < 11 ∧ Q (some (.int (cntI S w))) I L
set_option maxRecDepth 100000 in
theorem kX11_there : ∀ l, xCon l mX11_there sX11_there := by
  refine xcon_of okX11_there hX11_there rfl (by decide) hhX11_there kkX11_there ?_
  rintro as n0 I L P Q ⟨rfl, rfl, S, w, rfl, hC, hw8, hw, hQ⟩
  refine ⟨Nat.le_of_ble_eq_true rfl, ?_⟩
  rcases (by omega : w = 8 ∨ w = 9 ∨ w = 10) with rfl | rfl | rfl
  · refine xrun okX11_there hhX11_there [(4, [true, true, true, true])] 20 ?_
    refine xlp (M := mX11_there) (cs := csX11_there) (pc := 4) 6 (fun k => [some (.ref 27), some (.int (nI 8)), some (.int (nI (cnN (thB S.rz) k))), some (.int (nI k))]) (fun _ => I) (fun _ => L) ?_ ?_
    · intro k hk ih
      refine xrun okX11_there hhX11_there [(4, [true, true, true, true])] 60 ?_
      have hz := hC.rz hk
      have hz41 := hC.ok.rz k hk
      have hcl := cnN_le (thB S.rz) k
      have e : thB S.rz k = decide (¬ S.rz k = 0) := rfl
      by_cases h0 : S.rz k = 0
      · rw [decide_eq_false (fun q => q h0)] at e
        rw [h0, szI_0] at hz
        repeat (first | (refine xbr_f ?_ ?_; (focus ((simp (disch := omega) only [ix_lt, ix_le, ix_eq, ix_0, nI_clamp, nI_toInt, ng_T, nI_add, nI_mul, nI_sub', Int.neg_zero, not_false_eq_true, not_true_eq_false, hz] <;> omega); done))) | (refine xbr_t ?_ ?_; (focus ((simp (disch := omega) only [ix_lt, ix_le, ix_eq, ix_0, nI_clamp, nI_toInt, ng_T, nI_add, nI_mul, nI_sub', Int.neg_zero, not_false_eq_true, not_true_eq_false, hz] <;> omega); done))) | refine ⟨Or.inl rfl, ?_⟩ | refine ⟨Or.inr rfl, ?_⟩ | (refine ⟨?_, ?_⟩; (focus ((try simp (disch := omega) only [hz, nI_mul, nI_add, nI_sub']); exact in_nI (by omega) (by omega)))))
        refine xgo_eq ih ?_ rfl rfl
        ((repeat' (first | (with_reducible rfl) | exact xv_nil | refine xv_cons ?_ ?_ | refine xv_i ?_ | refine xv_l ?_)) <;> (simp (disch := omega) only [↓reduceIte, Bool.false_eq_true, Nat.one_mul, Nat.zero_mul, Nat.or_zero, Nat.add_zero, Nat.zero_add, Bool.toNat_true, Bool.toNat_false, shl_n, shr_n, fa_and, fa_or, nx_xor, nI_add, nI_mul, nI_sub', and_1, and_7, and_3', and_15, cnN, e]))
      · rw [decide_eq_true h0] at e
        obtain ⟨s, hs⟩ : ∃ s, S.rz k = s + 1 := ⟨S.rz k - 1, by omega⟩
        rw [hs, szI_s] at hz
        repeat (first | (refine xbr_f ?_ ?_; (focus ((simp (disch := omega) only [ix_lt, ix_le, ix_eq, ix_0, nI_clamp, nI_toInt, ng_T, nI_add, nI_mul, nI_sub', Int.neg_zero, not_false_eq_true, not_true_eq_false, hz] <;> omega); done))) | (refine xbr_t ?_ ?_; (focus ((simp (disch := omega) only [ix_lt, ix_le, ix_eq, ix_0, nI_clamp, nI_toInt, ng_T, nI_add, nI_mul, nI_sub', Int.neg_zero, not_false_eq_true, not_true_eq_false, hz] <;> omega); done))) | refine ⟨Or.inl rfl, ?_⟩ | refine ⟨Or.inr rfl, ?_⟩ | (refine ⟨?_, ?_⟩; (focus ((try simp (disch := omega) only [hz, nI_mul, nI_add, nI_sub']); exact in_nI (by omega) (by omega)))))
        refine xgo_eq ih ?_ rfl rfl
        ((repeat' (first | (with_reducible rfl) | exact xv_nil | refine xv_cons ?_ ?_ | refine xv_i ?_ | refine xv_l ?_)) <;> (simp (disch := omega) only [↓reduceIte, Bool.false_eq_true, Nat.one_mul, Nat.zero_mul, Nat.or_zero, Nat.add_zero, Nat.zero_add, Bool.toNat_true, Bool.toNat_false, shl_n, shr_n, fa_and, fa_or, nx_xor, nI_add, nI_mul, nI_sub', and_1, and_7, and_3', and_15, cnN, e]))
    · refine xrun okX11_there hhX11_there [] 60 ?_
      repeat (first | (refine xbr_f ?_ ?_; (focus ((simp (disch := omega) only [ix_lt, ix_le, ix_eq, ix_0, nI_clamp, nI_toInt, ng_T, nI_add, nI_mul, nI_sub', Int.neg_zero, not_false_eq_true, not_true_eq_false] <;> omega); done))) | (refine xbr_t ?_ ?_; (focus ((simp (disch := omega) only [ix_lt, ix_le, ix_eq, ix_0, nI_clamp, nI_toInt, ng_T, nI_add, nI_mul, nI_sub', Int.neg_zero, not_false_eq_true, not_true_eq_false] <;> omega); done))) | refine ⟨Or.inl rfl, ?_⟩ | refine ⟨Or.inr rfl, ?_⟩ | (refine ⟨?_, ?_⟩; (focus (exact in_nI (by omega) (by omega)))))
      exact hQ
  · refine xrun okX11_there hhX11_there [(41, [true, true, true, true])] 60 ?_
    repeat (first | (refine xbr_f ?_ ?_; (focus ((simp (disch := omega) only [ix_lt, ix_le, ix_eq, ix_0, nI_clamp, nI_toInt, ng_T, nI_add, nI_mul, nI_sub', Int.neg_zero, not_false_eq_true, not_true_eq_false] <;> omega); done))) | (refine xbr_t ?_ ?_; (focus ((simp (disch := omega) only [ix_lt, ix_le, ix_eq, ix_0, nI_clamp, nI_toInt, ng_T, nI_add, nI_mul, nI_sub', Int.neg_zero, not_false_eq_true, not_true_eq_false] <;> omega); done))) | refine ⟨Or.inl rfl, ?_⟩ | refine ⟨Or.inr rfl, ?_⟩ | (refine ⟨?_, ?_⟩; (focus (exact in_nI (by omega) (by omega)))))
    refine xlp (M := mX11_there) (cs := csX11_there) (pc := 41) 4 (fun k => [some (.ref 27), some (.int (nI 9)), some (.int (nI (cnN (thB S.tz) k))), some (.int (nI k))]) (fun _ => I) (fun _ => L) ?_ ?_
    · intro k hk ih
      refine xrun okX11_there hhX11_there [(41, [true, true, true, true])] 60 ?_
      have hz := hC.tz hk
      have hz41 := hC.ok.tz k hk
      have hcl := cnN_le (thB S.tz) k
      have e : thB S.tz k = decide (¬ S.tz k = 0) := rfl
      by_cases h0 : S.tz k = 0
      · rw [decide_eq_false (fun q => q h0)] at e
        rw [h0, szI_0] at hz
        repeat (first | (refine xbr_f ?_ ?_; (focus ((simp (disch := omega) only [ix_lt, ix_le, ix_eq, ix_0, nI_clamp, nI_toInt, ng_T, nI_add, nI_mul, nI_sub', Int.neg_zero, not_false_eq_true, not_true_eq_false, hz] <;> omega); done))) | (refine xbr_t ?_ ?_; (focus ((simp (disch := omega) only [ix_lt, ix_le, ix_eq, ix_0, nI_clamp, nI_toInt, ng_T, nI_add, nI_mul, nI_sub', Int.neg_zero, not_false_eq_true, not_true_eq_false, hz] <;> omega); done))) | refine ⟨Or.inl rfl, ?_⟩ | refine ⟨Or.inr rfl, ?_⟩ | (refine ⟨?_, ?_⟩; (focus ((try simp (disch := omega) only [hz, nI_mul, nI_add, nI_sub']); exact in_nI (by omega) (by omega)))))
        refine xgo_eq ih ?_ rfl rfl
        ((repeat' (first | (with_reducible rfl) | exact xv_nil | refine xv_cons ?_ ?_ | refine xv_i ?_ | refine xv_l ?_)) <;> (simp (disch := omega) only [↓reduceIte, Bool.false_eq_true, Nat.one_mul, Nat.zero_mul, Nat.or_zero, Nat.add_zero, Nat.zero_add, Bool.toNat_true, Bool.toNat_false, shl_n, shr_n, fa_and, fa_or, nx_xor, nI_add, nI_mul, nI_sub', and_1, and_7, and_3', and_15, cnN, e]))
      · rw [decide_eq_true h0] at e
        obtain ⟨s, hs⟩ : ∃ s, S.tz k = s + 1 := ⟨S.tz k - 1, by omega⟩
        rw [hs, szI_s] at hz
        repeat (first | (refine xbr_f ?_ ?_; (focus ((simp (disch := omega) only [ix_lt, ix_le, ix_eq, ix_0, nI_clamp, nI_toInt, ng_T, nI_add, nI_mul, nI_sub', Int.neg_zero, not_false_eq_true, not_true_eq_false, hz] <;> omega); done))) | (refine xbr_t ?_ ?_; (focus ((simp (disch := omega) only [ix_lt, ix_le, ix_eq, ix_0, nI_clamp, nI_toInt, ng_T, nI_add, nI_mul, nI_sub', Int.neg_zero, not_false_eq_true, not_true_eq_false, hz] <;> omega); done))) | refine ⟨Or.inl rfl, ?_⟩ | refine ⟨Or.inr rfl, ?_⟩ | (refine ⟨?_, ?_⟩; (focus ((try simp (disch := omega) only [hz, nI_mul, nI_add, nI_sub']); exact in_nI (by omega) (by omega)))))
        refine xgo_eq ih ?_ rfl rfl
        ((repeat' (first | (with_reducible rfl) | exact xv_nil | refine xv_cons ?_ ?_ | refine xv_i ?_ | refine xv_l ?_)) <;> (simp (disch := omega) only [↓reduceIte, Bool.false_eq_true, Nat.one_mul, Nat.zero_mul, Nat.or_zero, Nat.add_zero, Nat.zero_add, Bool.toNat_true, Bool.toNat_false, shl_n, shr_n, fa_and, fa_or, nx_xor, nI_add, nI_mul, nI_sub', and_1, and_7, and_3', and_15, cnN, e]))
    · refine xrun okX11_there hhX11_there [] 60 ?_
      repeat (first | (refine xbr_f ?_ ?_; (focus ((simp (disch := omega) only [ix_lt, ix_le, ix_eq, ix_0, nI_clamp, nI_toInt, ng_T, nI_add, nI_mul, nI_sub', Int.neg_zero, not_false_eq_true, not_true_eq_false] <;> omega); done))) | (refine xbr_t ?_ ?_; (focus ((simp (disch := omega) only [ix_lt, ix_le, ix_eq, ix_0, nI_clamp, nI_toInt, ng_T, nI_add, nI_mul, nI_sub', Int.neg_zero, not_false_eq_true, not_true_eq_false] <;> omega); done))) | refine ⟨Or.inl rfl, ?_⟩ | refine ⟨Or.inr rfl, ?_⟩ | (refine ⟨?_, ?_⟩; (focus (exact in_nI (by omega) (by omega)))))
      exact hQ
  · refine xrun okX11_there hhX11_there [(77, [true, true, true, true])] 60 ?_
    repeat (first | (refine xbr_f ?_ ?_; (focus ((simp (disch := omega) only [ix_lt, ix_le, ix_eq, ix_0, nI_clamp, nI_toInt, ng_T, nI_add, nI_mul, nI_sub', Int.neg_zero, not_false_eq_true, not_true_eq_false] <;> omega); done))) | (refine xbr_t ?_ ?_; (focus ((simp (disch := omega) only [ix_lt, ix_le, ix_eq, ix_0, nI_clamp, nI_toInt, ng_T, nI_add, nI_mul, nI_sub', Int.neg_zero, not_false_eq_true, not_true_eq_false] <;> omega); done))) | refine ⟨Or.inl rfl, ?_⟩ | refine ⟨Or.inr rfl, ?_⟩ | (refine ⟨?_, ?_⟩; (focus (exact in_nI (by omega) (by omega)))))
    refine xlp (M := mX11_there) (cs := csX11_there) (pc := 77) 3 (fun k => [some (.ref 27), some (.int (nI 10)), some (.int (nI (cnN (thB (kzN S)) k))), some (.int (nI k))]) (fun _ => I) (fun _ => L) ?_ ?_
    · intro k hk ih
      refine xrun okX11_there hhX11_there [(77, [true, true, true, true])] 60 ?_
      have hz := (hC.kp k hk).1
      have hz41 := (hC.ok.kp k hk).1
      have hcl := cnN_le (thB (kzN S)) k
      have e : thB (kzN S) k = decide (¬ (S.kp k).z = 0) := rfl
      by_cases h0 : (S.kp k).z = 0
      · rw [decide_eq_false (fun q => q h0)] at e
        rw [h0, szI_0] at hz
        repeat (first | (refine xbr_f ?_ ?_; (focus ((simp (disch := omega) only [ix_lt, ix_le, ix_eq, ix_0, nI_clamp, nI_toInt, ng_T, nI_add, nI_mul, nI_sub', Int.neg_zero, not_false_eq_true, not_true_eq_false, hz] <;> omega); done))) | (refine xbr_t ?_ ?_; (focus ((simp (disch := omega) only [ix_lt, ix_le, ix_eq, ix_0, nI_clamp, nI_toInt, ng_T, nI_add, nI_mul, nI_sub', Int.neg_zero, not_false_eq_true, not_true_eq_false, hz] <;> omega); done))) | refine ⟨Or.inl rfl, ?_⟩ | refine ⟨Or.inr rfl, ?_⟩ | (refine ⟨?_, ?_⟩; (focus ((try simp (disch := omega) only [hz, nI_mul, nI_add, nI_sub']); exact in_nI (by omega) (by omega)))))
        refine xgo_eq ih ?_ rfl rfl
        ((repeat' (first | (with_reducible rfl) | exact xv_nil | refine xv_cons ?_ ?_ | refine xv_i ?_ | refine xv_l ?_)) <;> (simp (disch := omega) only [↓reduceIte, Bool.false_eq_true, Nat.one_mul, Nat.zero_mul, Nat.or_zero, Nat.add_zero, Nat.zero_add, Bool.toNat_true, Bool.toNat_false, shl_n, shr_n, fa_and, fa_or, nx_xor, nI_add, nI_mul, nI_sub', and_1, and_7, and_3', and_15, cnN, e]))
      · rw [decide_eq_true h0] at e
        obtain ⟨s, hs⟩ : ∃ s, (S.kp k).z = s + 1 := ⟨(S.kp k).z - 1, by omega⟩
        rw [hs, szI_s] at hz
        repeat (first | (refine xbr_f ?_ ?_; (focus ((simp (disch := omega) only [ix_lt, ix_le, ix_eq, ix_0, nI_clamp, nI_toInt, ng_T, nI_add, nI_mul, nI_sub', Int.neg_zero, not_false_eq_true, not_true_eq_false, hz] <;> omega); done))) | (refine xbr_t ?_ ?_; (focus ((simp (disch := omega) only [ix_lt, ix_le, ix_eq, ix_0, nI_clamp, nI_toInt, ng_T, nI_add, nI_mul, nI_sub', Int.neg_zero, not_false_eq_true, not_true_eq_false, hz] <;> omega); done))) | refine ⟨Or.inl rfl, ?_⟩ | refine ⟨Or.inr rfl, ?_⟩ | (refine ⟨?_, ?_⟩; (focus ((try simp (disch := omega) only [hz, nI_mul, nI_add, nI_sub']); exact in_nI (by omega) (by omega)))))
        refine xgo_eq ih ?_ rfl rfl
        ((repeat' (first | (with_reducible rfl) | exact xv_nil | refine xv_cons ?_ ?_ | refine xv_i ?_ | refine xv_l ?_)) <;> (simp (disch := omega) only [↓reduceIte, Bool.false_eq_true, Nat.one_mul, Nat.zero_mul, Nat.or_zero, Nat.add_zero, Nat.zero_add, Bool.toNat_true, Bool.toNat_false, shl_n, shr_n, fa_and, fa_or, nx_xor, nI_add, nI_mul, nI_sub', and_1, and_7, and_3', and_15, cnN, e]))
    · refine xrun okX11_there hhX11_there [] 60 ?_
      repeat (first | (refine xbr_f ?_ ?_; (focus ((simp (disch := omega) only [ix_lt, ix_le, ix_eq, ix_0, nI_clamp, nI_toInt, ng_T, nI_add, nI_mul, nI_sub', Int.neg_zero, not_false_eq_true, not_true_eq_false] <;> omega); done))) | (refine xbr_t ?_ ?_; (focus ((simp (disch := omega) only [ix_lt, ix_le, ix_eq, ix_0, nI_clamp, nI_toInt, ng_T, nI_add, nI_mul, nI_sub', Int.neg_zero, not_false_eq_true, not_true_eq_false] <;> omega); done))) | refine ⟨Or.inl rfl, ?_⟩ | refine ⟨Or.inr rfl, ?_⟩ | (refine ⟨?_, ?_⟩; (focus (exact in_nI (by omega) (by omega)))))
      exact hQ
def csX11_count : xCs := [(mX11_atHome, sX11_atHome), (mX11_roadsNow, sX11_roadsNow), (mX11_sortsLike, sX11_sortsLike), (mX11_there, sX11_there)]
theorem okX11_count : xOkM mX11_count csX11_count := ⟨dX11_count, by decide +kernel, by decide +kernel, ⟨wdX11_118, wdX11_121, wdX11_37, wdX11_199, wdX11_251, wdX11_305, wdX11_308, wdX11_308, wdX11_311, trivial⟩⟩
theorem hhX11_count : ∀ q ∈ csX11_count, xHd q.1 := xall1 hX11_atHome (xall1 hX11_roadsNow (xall1 hX11_sortsLike (xall1 hX11_there (xall0))))
theorem kkX11_count : ∀ q ∈ csX11_count, ∀ l, xCon l q.1 q.2 := xall1 kX11_atHome (xall1 kX11_roadsNow (xall1 kX11_sortsLike (xall1 kX11_there (xall0))))
def sX11_count : xSpec := xReg fun as I L Q => ∃ (S : ST) (w : Int32), as = [.ref 27, .int w] ∧ Ref S I L ∧ (ibB w 11 = false → Q (some (.int (-(nI 1)))) I L) ∧ (∀ k, w = nI k → k < 11 → Q (some (.int (cntI S k))) I L)
set_option maxRecDepth 100000 in
theorem kX11_count : ∀ l, xCon l mX11_count sX11_count := by
  refine xcon_of okX11_count hX11_count rfl (by decide) hhX11_count kkX11_count ?_
  rintro as n0 I L P Q ⟨rfl, rfl, S, w, rfl, hC, hQ1, hQ2⟩
  refine ⟨Nat.le_of_ble_eq_true rfl, ?_⟩
  refine xrun okX11_count hhX11_count [] 60 ?_
  cases hb : ibB w 11
  · have hk := ib_f hb
    have done := hQ1 hb
    repeat (first | (refine xbr_f ?_ ?_; (focus ((simp (disch := omega) only [ix_lt, ix_le, ix_eq, ix_0, nI_clamp, nI_toInt, ng_T, nI_add, nI_mul, nI_sub', Int.neg_zero, not_false_eq_true, not_true_eq_false] <;> omega); done))) | (refine xbr_t ?_ ?_; (focus ((simp (disch := omega) only [ix_lt, ix_le, ix_eq, ix_0, nI_clamp, nI_toInt, ng_T, nI_add, nI_mul, nI_sub', Int.neg_zero, not_false_eq_true, not_true_eq_false] <;> omega); done))) | refine ⟨Or.inl rfl, ?_⟩ | refine ⟨Or.inr rfl, ?_⟩ | (refine ⟨?_, ?_⟩; (focus (exact in_nI (by omega) (by omega)))))
    exact done
  · obtain ⟨k, hk, rfl⟩ := ibB_t hb (by decide)
    have hQ := hQ2 k rfl hk
    rcases (by omega : k = 0 ∨ k = 1 ∨ k = 2 ∨ k = 3 ∨ k = 4 ∨ k = 5 ∨ k = 6 ∨ k = 7 ∨ k = 8 ∨ k = 9 ∨ k = 10) with rfl | rfl | rfl | rfl | rfl | rfl | rfl | rfl | rfl | rfl | rfl
    · repeat (first | (refine xbr_f ?_ ?_; (focus ((simp (disch := omega) only [ix_lt, ix_le, ix_eq, ix_0, nI_clamp, nI_toInt, ng_T, nI_add, nI_mul, nI_sub', Int.neg_zero, not_false_eq_true, not_true_eq_false] <;> omega); done))) | (refine xbr_t ?_ ?_; (focus ((simp (disch := omega) only [ix_lt, ix_le, ix_eq, ix_0, nI_clamp, nI_toInt, ng_T, nI_add, nI_mul, nI_sub', Int.neg_zero, not_false_eq_true, not_true_eq_false] <;> omega); done))) | refine ⟨Or.inl rfl, ?_⟩ | refine ⟨Or.inr rfl, ?_⟩ | (refine ⟨?_, ?_⟩; (focus (exact in_nI (by omega) (by omega)))))
      have e := hC.pd.a
      unfold cntI at hQ
      rw [← e] at hQ
      exact hQ
    · repeat (first | (refine xbr_f ?_ ?_; (focus ((simp (disch := omega) only [ix_lt, ix_le, ix_eq, ix_0, nI_clamp, nI_toInt, ng_T, nI_add, nI_mul, nI_sub', Int.neg_zero, not_false_eq_true, not_true_eq_false] <;> omega); done))) | (refine xbr_t ?_ ?_; (focus ((simp (disch := omega) only [ix_lt, ix_le, ix_eq, ix_0, nI_clamp, nI_toInt, ng_T, nI_add, nI_mul, nI_sub', Int.neg_zero, not_false_eq_true, not_true_eq_false] <;> omega); done))) | refine ⟨Or.inl rfl, ?_⟩ | refine ⟨Or.inr rfl, ?_⟩ | (refine ⟨?_, ?_⟩; (focus (exact in_nI (by omega) (by omega)))))
      have e := hC.pd.l
      unfold cntI at hQ
      rw [← e] at hQ
      exact hQ
    · repeat (first | (refine xbr_f ?_ ?_; (focus ((simp (disch := omega) only [ix_lt, ix_le, ix_eq, ix_0, nI_clamp, nI_toInt, ng_T, nI_add, nI_mul, nI_sub', Int.neg_zero, not_false_eq_true, not_true_eq_false] <;> omega); done))) | (refine xbr_t ?_ ?_; (focus ((simp (disch := omega) only [ix_lt, ix_le, ix_eq, ix_0, nI_clamp, nI_toInt, ng_T, nI_add, nI_mul, nI_sub', Int.neg_zero, not_false_eq_true, not_true_eq_false] <;> omega); done))) | refine ⟨Or.inl rfl, ?_⟩ | refine ⟨Or.inr rfl, ?_⟩ | (refine ⟨?_, ?_⟩; (focus (exact in_nI (by omega) (by omega)))))
      have e : cntI S 2 = I 37 (nI 0).toNatClampNeg := by
        rw [c_0, hC.nw.c]
        rfl
      rw [e] at hQ
      exact hQ
    · repeat (first | (refine xbr_f ?_ ?_; (focus ((simp (disch := omega) only [ix_lt, ix_le, ix_eq, ix_0, nI_clamp, nI_toInt, ng_T, nI_add, nI_mul, nI_sub', Int.neg_zero, not_false_eq_true, not_true_eq_false] <;> omega); done))) | (refine xbr_t ?_ ?_; (focus ((simp (disch := omega) only [ix_lt, ix_le, ix_eq, ix_0, nI_clamp, nI_toInt, ng_T, nI_add, nI_mul, nI_sub', Int.neg_zero, not_false_eq_true, not_true_eq_false] <;> omega); done))) | refine ⟨Or.inl rfl, ?_⟩ | refine ⟨Or.inr rfl, ?_⟩ | (refine ⟨?_, ?_⟩; (focus (exact in_nI (by omega) (by omega)))))
      have e := hC.sz
      unfold cntI at hQ
      rw [← e] at hQ
      exact hQ
    · repeat (first | (refine xbr_f ?_ ?_; (focus ((simp (disch := omega) only [ix_lt, ix_le, ix_eq, ix_0, nI_clamp, nI_toInt, ng_T, nI_add, nI_mul, nI_sub', Int.neg_zero, not_false_eq_true, not_true_eq_false] <;> omega); done))) | (refine xbr_t ?_ ?_; (focus ((simp (disch := omega) only [ix_lt, ix_le, ix_eq, ix_0, nI_clamp, nI_toInt, ng_T, nI_add, nI_mul, nI_sub', Int.neg_zero, not_false_eq_true, not_true_eq_false] <;> omega); done))) | refine ⟨Or.inl rfl, ?_⟩ | refine ⟨Or.inr rfl, ?_⟩ | (refine ⟨?_, ?_⟩; (focus (exact in_nI (by omega) (by omega)))))
      exact ⟨rfl, rfl, S.d, S.D.X, _, rfl, hC.pd, hC.nw, hQ⟩
    · repeat (first | (refine xbr_f ?_ ?_; (focus ((simp (disch := omega) only [ix_lt, ix_le, ix_eq, ix_0, nI_clamp, nI_toInt, ng_T, nI_add, nI_mul, nI_sub', Int.neg_zero, not_false_eq_true, not_true_eq_false] <;> omega); done))) | (refine xbr_t ?_ ?_; (focus ((simp (disch := omega) only [ix_lt, ix_le, ix_eq, ix_0, nI_clamp, nI_toInt, ng_T, nI_add, nI_mul, nI_sub', Int.neg_zero, not_false_eq_true, not_true_eq_false] <;> omega); done))) | refine ⟨Or.inl rfl, ?_⟩ | refine ⟨Or.inr rfl, ?_⟩ | (refine ⟨?_, ?_⟩; (focus (exact in_nI (by omega) (by omega)))))
      exact ⟨rfl, rfl, S.d, rfl, hC.pd, hQ⟩
    · repeat (first | (refine xbr_f ?_ ?_; (focus ((simp (disch := omega) only [ix_lt, ix_le, ix_eq, ix_0, nI_clamp, nI_toInt, ng_T, nI_add, nI_mul, nI_sub', Int.neg_zero, not_false_eq_true, not_true_eq_false] <;> omega); done))) | (refine xbr_t ?_ ?_; (focus ((simp (disch := omega) only [ix_lt, ix_le, ix_eq, ix_0, nI_clamp, nI_toInt, ng_T, nI_add, nI_mul, nI_sub', Int.neg_zero, not_false_eq_true, not_true_eq_false] <;> omega); done))) | refine ⟨Or.inl rfl, ?_⟩ | refine ⟨Or.inr rfl, ?_⟩ | (refine ⟨?_, ?_⟩; (focus (exact in_nI (by omega) (by omega)))))
      exact ⟨rfl, rfl, S.d, 1, rfl, hC.pd, by decide, by decide, hQ⟩
    · repeat (first | (refine xbr_f ?_ ?_; (focus ((simp (disch := omega) only [ix_lt, ix_le, ix_eq, ix_0, nI_clamp, nI_toInt, ng_T, nI_add, nI_mul, nI_sub', Int.neg_zero, not_false_eq_true, not_true_eq_false] <;> omega); done))) | (refine xbr_t ?_ ?_; (focus ((simp (disch := omega) only [ix_lt, ix_le, ix_eq, ix_0, nI_clamp, nI_toInt, ng_T, nI_add, nI_mul, nI_sub', Int.neg_zero, not_false_eq_true, not_true_eq_false] <;> omega); done))) | refine ⟨Or.inl rfl, ?_⟩ | refine ⟨Or.inr rfl, ?_⟩ | (refine ⟨?_, ?_⟩; (focus (exact in_nI (by omega) (by omega)))))
      exact ⟨rfl, rfl, S.d, 3, rfl, hC.pd, by decide, by decide, hQ⟩
    · repeat (first | (refine xbr_f ?_ ?_; (focus ((simp (disch := omega) only [ix_lt, ix_le, ix_eq, ix_0, nI_clamp, nI_toInt, ng_T, nI_add, nI_mul, nI_sub', Int.neg_zero, not_false_eq_true, not_true_eq_false] <;> omega); done))) | (refine xbr_t ?_ ?_; (focus ((simp (disch := omega) only [ix_lt, ix_le, ix_eq, ix_0, nI_clamp, nI_toInt, ng_T, nI_add, nI_mul, nI_sub', Int.neg_zero, not_false_eq_true, not_true_eq_false] <;> omega); done))) | refine ⟨Or.inl rfl, ?_⟩ | refine ⟨Or.inr rfl, ?_⟩ | (refine ⟨?_, ?_⟩; (focus (exact in_nI (by omega) (by omega)))))
      exact ⟨rfl, rfl, S, 8, rfl, hC, by decide, by decide, hQ⟩
    · repeat (first | (refine xbr_f ?_ ?_; (focus ((simp (disch := omega) only [ix_lt, ix_le, ix_eq, ix_0, nI_clamp, nI_toInt, ng_T, nI_add, nI_mul, nI_sub', Int.neg_zero, not_false_eq_true, not_true_eq_false] <;> omega); done))) | (refine xbr_t ?_ ?_; (focus ((simp (disch := omega) only [ix_lt, ix_le, ix_eq, ix_0, nI_clamp, nI_toInt, ng_T, nI_add, nI_mul, nI_sub', Int.neg_zero, not_false_eq_true, not_true_eq_false] <;> omega); done))) | refine ⟨Or.inl rfl, ?_⟩ | refine ⟨Or.inr rfl, ?_⟩ | (refine ⟨?_, ?_⟩; (focus (exact in_nI (by omega) (by omega)))))
      exact ⟨rfl, rfl, S, 9, rfl, hC, by decide, by decide, hQ⟩
    · repeat (first | (refine xbr_f ?_ ?_; (focus ((simp (disch := omega) only [ix_lt, ix_le, ix_eq, ix_0, nI_clamp, nI_toInt, ng_T, nI_add, nI_mul, nI_sub', Int.neg_zero, not_false_eq_true, not_true_eq_false] <;> omega); done))) | (refine xbr_t ?_ ?_; (focus ((simp (disch := omega) only [ix_lt, ix_le, ix_eq, ix_0, nI_clamp, nI_toInt, ng_T, nI_add, nI_mul, nI_sub', Int.neg_zero, not_false_eq_true, not_true_eq_false] <;> omega); done))) | refine ⟨Or.inl rfl, ?_⟩ | refine ⟨Or.inr rfl, ?_⟩ | (refine ⟨?_, ?_⟩; (focus (exact in_nI (by omega) (by omega)))))
      exact ⟨rfl, rfl, S, 10, rfl, hC, by decide, by decide, hQ⟩
def csX11_asked : xCs := []
theorem okX11_asked : xOkM mX11_asked csX11_asked := ⟨dX11_asked, by decide +kernel, by decide +kernel, ⟨wdX11_82, trivial⟩⟩
theorem hhX11_asked : ∀ q ∈ csX11_asked, xHd q.1 := xall0
theorem kkX11_asked : ∀ q ∈ csX11_asked, ∀ l, xCon l q.1 q.2 := xall0
def sX11_asked : xSpec := xReg fun as I L Q => ∃ (S : ST), as = [.ref 27] ∧ Ref S I L ∧ Q (some (.int S.to)) I L
set_option maxRecDepth 100000 in
theorem kX11_asked : ∀ l, xCon l mX11_asked sX11_asked := by
  refine xcon_of okX11_asked hX11_asked rfl (by decide) hhX11_asked kkX11_asked ?_
  rintro as n0 I L P Q ⟨rfl, rfl, S, rfl, hC, hQ⟩
  refine ⟨Nat.le_of_ble_eq_true rfl, ?_⟩
  refine xrun okX11_asked hhX11_asked [] 60 ?_
  rw [← hC.mc.2.2.1] at hQ
  exact hQ
def csX11_finding : xCs := []
theorem okX11_finding : xOkM mX11_finding csX11_finding := ⟨dX11_finding, by decide +kernel, by decide +kernel, ⟨wdX11_78, trivial⟩⟩
theorem hhX11_finding : ∀ q ∈ csX11_finding, xHd q.1 := xall0
theorem kkX11_finding : ∀ q ∈ csX11_finding, ∀ l, xCon l q.1 q.2 := xall0
def sX11_finding : xSpec := xReg fun as I L Q => ∃ (S : ST), as = [.ref 27] ∧ Ref S I L ∧ Q (some (.int S.lf)) I L
set_option maxRecDepth 100000 in
theorem kX11_finding : ∀ l, xCon l mX11_finding sX11_finding := by
  refine xcon_of okX11_finding hX11_finding rfl (by decide) hhX11_finding kkX11_finding ?_
  rintro as n0 I L P Q ⟨rfl, rfl, S, rfl, hC, hQ⟩
  refine ⟨Nat.le_of_ble_eq_true rfl, ?_⟩
  refine xrun okX11_finding hhX11_finding [] 60 ?_
  rw [← hC.mc.2.1] at hQ
  exact hQ
def csX11_upper : xCs := []
theorem okX11_upper : xOkM mX11_upper csX11_upper := ⟨dX11_upper, by decide +kernel, by decide +kernel, ⟨wdX11_85, trivial⟩⟩
theorem hhX11_upper : ∀ q ∈ csX11_upper, xHd q.1 := xall0
theorem kkX11_upper : ∀ q ∈ csX11_upper, ∀ l, xCon l q.1 q.2 := xall0
def sX11_upper : xSpec := xReg fun as I L Q => ∃ (S : ST), as = [.ref 27] ∧ Ref S I L ∧ Q (some (.long S.ov)) I L
set_option maxRecDepth 100000 in
theorem kX11_upper : ∀ l, xCon l mX11_upper sX11_upper := by
  refine xcon_of okX11_upper hX11_upper rfl (by decide) hhX11_upper kkX11_upper ?_
  rintro as n0 I L P Q ⟨rfl, rfl, S, rfl, hC, hQ⟩
  refine ⟨Nat.le_of_ble_eq_true rfl, ?_⟩
  refine xrun okX11_upper hhX11_upper [] 60 ?_
  rw [← hC.mc.2.2.2.1] at hQ
  exact hQ
def csX11_lower : xCs := []
theorem okX11_lower : xOkM mX11_lower csX11_lower := ⟨dX11_lower, by decide +kernel, by decide +kernel, ⟨wdX11_74, trivial⟩⟩
theorem hhX11_lower : ∀ q ∈ csX11_lower, xHd q.1 := xall0
theorem kkX11_lower : ∀ q ∈ csX11_lower, ∀ l, xCon l q.1 q.2 := xall0
def sX11_lower : xSpec := xReg fun as I L Q => ∃ (S : ST), as = [.ref 27] ∧ Ref S I L ∧ Q (some (.long S.un)) I L
set_option maxRecDepth 100000 in
theorem kX11_lower : ∀ l, xCon l mX11_lower sX11_lower := by
  refine xcon_of okX11_lower hX11_lower rfl (by decide) hhX11_lower kkX11_lower ?_
  rintro as n0 I L P Q ⟨rfl, rfl, S, rfl, hC, hQ⟩
  refine ⟨Nat.le_of_ble_eq_true rfl, ?_⟩
  refine xrun okX11_lower hhX11_lower [] 60 ?_
  rw [← hC.mc.2.2.2.2] at hQ
  exact hQ
def csX11_findings : xCs := [(mX11_in, sX11_in)]
theorem okX11_findings : xOkM mX11_findings csX11_findings := ⟨dX11_findings, by decide +kernel, by decide +kernel, ⟨wdX11_88, wdX11_90, wdX11_7, trivial⟩⟩
theorem hhX11_findings : ∀ q ∈ csX11_findings, xHd q.1 := xall1 hX11_in (xall0)
theorem kkX11_findings : ∀ q ∈ csX11_findings, ∀ l, xCon l q.1 q.2 := xall1 kX11_in (xall0)
def sX11_findings : xSpec := xReg fun as I L Q => ∃ (S : ST) (f o : Int32), as = [.ref 27, .int f] ∧ fdgR S f o ∧ Ref S I L ∧ Q (some (.int o)) I L
set_option maxRecDepth 100000 in
theorem kX11_findings : ∀ l, xCon l mX11_findings sX11_findings := by
  refine xcon_of okX11_findings hX11_findings rfl (by decide) hhX11_findings kkX11_findings ?_
  rintro as n0 I L P Q ⟨rfl, rfl, S, f, o, rfl, hR, hC, hQ⟩
  refine ⟨Nat.le_of_ble_eq_true rfl, ?_⟩
  have t1 : (nI 1).toInt = 1 := rfl
  have t5 : (nI 5).toInt = 5 := rfl
  refine xrun okX11_findings hhX11_findings [] 60 ?_
  refine ⟨rfl, rfl, _, _, _, f, nI 1, nI 5, rfl, rfl, by decide, by decide, ?_⟩
  rw [t1, t5]
  rcases hR with ⟨h, rfl⟩ | ⟨k, rfl, h0, hk, rfl⟩
  · rw [decide_eq_false (by omega)]
    (first | refine xbr_t (by decide) ?_ | refine xbr_f (by decide) ?_)
    exact hQ
  · rw [nI_toInt (show k < 2 ^ 31 by omega), decide_eq_true (by omega)]
    (first | refine xbr_t (by decide) ?_ | refine xbr_f (by decide) ?_)
    (first | (refine xbr_f ?_ ?_; (focus ((simp (disch := omega) only [ix_lt, ix_le, ix_eq, ix_0, nI_clamp, nI_toInt, ng_T, nI_add, nI_mul, nI_sub', Int.neg_zero, not_false_eq_true, not_true_eq_false, nI_add] <;> omega); done))) | (refine xbr_t ?_ ?_; (focus ((simp (disch := omega) only [ix_lt, ix_le, ix_eq, ix_0, nI_clamp, nI_toInt, ng_T, nI_add, nI_mul, nI_sub', Int.neg_zero, not_false_eq_true, not_true_eq_false, nI_add] <;> omega); done))) | refine ⟨Or.inl rfl, ?_⟩ | refine ⟨Or.inr rfl, ?_⟩ | (refine ⟨?_, ?_⟩; (focus ((try simp (disch := omega) only [nI_add, nI_mul, nI_add, nI_sub']); exact in_nI (by omega) (by omega)))))
    rw [← hC.mc.1 k hk, ← nI_clamp (n := k) (by omega)] at hQ
    exact hQ
def csX11_digest : xCs := [(mX11_count, sX11_count), (mX11_ofAss, sX11_ofAss), (mX11_ofLoad, sX11_ofLoad)]
theorem okX11_digest : xOkM mX11_digest csX11_digest := ⟨dX11_digest, by decide +kernel, by decide +kernel, ⟨wdX11_314, wdX11_316, wdX11_318, wdX11_118, wdX11_316, wdX11_208, wdX11_121, wdX11_316, wdX11_216, wdX11_316, wdX11_49, wdX11_316, wdX11_13, wdX11_13, wdX11_316, wdX11_16, wdX11_316, wdX11_19, wdX11_19, wdX11_316, wdX11_22, trivial⟩⟩
theorem hhX11_digest : ∀ q ∈ csX11_digest, xHd q.1 := xall1 hX11_count (xall1 hX11_ofAss (xall1 hX11_ofLoad (xall0)))
theorem kkX11_digest : ∀ q ∈ csX11_digest, ∀ l, xCon l q.1 q.2 := xall1 kX11_count (xall1 kX11_ofAss (xall1 kX11_ofLoad (xall0)))
def sX11_digest : xSpec := xReg fun as I L Q => ∃ (S : ST), as = [.ref 27] ∧ Ref S I L ∧ (∀ I', scr I L I' L → Ref S I' L → Q (some (.long (dgL S))) I' L)
set_option maxRecDepth 100000 in
theorem kX11_digest : ∀ l, xCon l mX11_digest sX11_digest := by
  refine xcon_of okX11_digest hX11_digest rfl (by decide) hhX11_digest kkX11_digest ?_
  rintro as n0 I L P Q ⟨rfl, rfl, S, rfl, hC0, hQ⟩
  refine ⟨Nat.le_of_ble_eq_true rfl, ?_⟩
  have h4 := hC0.ok.d.a4
  have h5 := hC0.ok.d.l5
  refine xrun okX11_digest hhX11_digest [(6, [true, true, false, true, false])] 20 ?_
  refine xlp (M := mX11_digest) (cs := csX11_digest) (pc := 6) 11 (fun k => [some (.ref 27), some (.long (fdN (lN 17) (cntI S) k)), none, some (.int (nI k)), none]) (fun _ => I) (fun _ => L) ?_ ?_
  · intro k hk ih
    refine xrun okX11_digest hhX11_digest [(6, [true, true, false, true, false])] 60 ?_
    (first | (refine xbr_f ?_ ?_; (focus ((simp (disch := omega) only [ix_lt, ix_le, ix_eq, ix_0, nI_clamp, nI_toInt, ng_T, nI_add, nI_mul, nI_sub', Int.neg_zero, not_false_eq_true, not_true_eq_false] <;> omega); done))) | (refine xbr_t ?_ ?_; (focus ((simp (disch := omega) only [ix_lt, ix_le, ix_eq, ix_0, nI_clamp, nI_toInt, ng_T, nI_add, nI_mul, nI_sub', Int.neg_zero, not_false_eq_true, not_true_eq_false] <;> omega); done))) | refine ⟨Or.inl rfl, ?_⟩ | refine ⟨Or.inr rfl, ?_⟩ | (refine ⟨?_, ?_⟩; (focus (exact in_nI (by omega) (by omega)))))
    refine ⟨rfl, rfl, S, nI k, rfl, hC0, fun e => ?_, fun k' e hk' => ?_⟩
    · rw [ib_tt hk (by decide)] at e
      cases e
    · obtain rfl := nI_inj2 e (by omega) (by omega)
      refine xgo_eq ih ?_ rfl rfl
      ((repeat' (first | (with_reducible rfl) | exact xv_nil | refine xv_cons ?_ ?_ | refine xv_i ?_ | refine xv_l ?_)) <;> (simp (disch := omega) only [↓reduceIte, Bool.false_eq_true, Nat.one_mul, Nat.zero_mul, Nat.or_zero, Nat.add_zero, Nat.zero_add, Bool.toNat_true, Bool.toNat_false, shl_n, shr_n, fa_and, fa_or, nx_xor, nI_add, nI_mul, nI_sub', and_1, and_7, and_3', and_15, fdN]))
  refine xrun okX11_digest hhX11_digest [(33, [true, true, false, true, false])] 60 ?_
  (first | (refine xbr_f ?_ ?_; (focus ((simp (disch := omega) only [ix_lt, ix_le, ix_eq, ix_0, nI_clamp, nI_toInt, ng_T, nI_add, nI_mul, nI_sub', Int.neg_zero, not_false_eq_true, not_true_eq_false] <;> omega); done))) | (refine xbr_t ?_ ?_; (focus ((simp (disch := omega) only [ix_lt, ix_le, ix_eq, ix_0, nI_clamp, nI_toInt, ng_T, nI_add, nI_mul, nI_sub', Int.neg_zero, not_false_eq_true, not_true_eq_false] <;> omega); done))) | refine ⟨Or.inl rfl, ?_⟩ | refine ⟨Or.inr rfl, ?_⟩ | (refine ⟨?_, ?_⟩; (focus (exact in_nI (by omega) (by omega)))))
  refine xlpW (M := mX11_digest) (cs := csX11_digest) (pc := 33) S.d.nA (fun k => [some (.ref 27), some (.long (fd2 (dg1 S) (oaI S.d S.D.X) 4 k)), none, some (.int (nI k)), none]) (fun _ I' L' => L = L' ∧ scr I L I' L ∧ Ref S I' L) ?_ ?_ ⟨rfl, scr_0 _ _, hC0⟩
  · rintro i hi I2 L2 ⟨rfl, hs2, hC2⟩ ih
    have hA := hC2.pd.a
    refine xrun okX11_digest hhX11_digest [(44, [true, true, false, true, true])] 60 ?_
    (first | (refine xbr_f ?_ ?_; (focus ((simp (disch := omega) only [ix_lt, ix_le, ix_eq, ix_0, nI_clamp, nI_toInt, ng_T, nI_add, nI_mul, nI_sub', Int.neg_zero, not_false_eq_true, not_true_eq_false, hA] <;> omega); done))) | (refine xbr_t ?_ ?_; (focus ((simp (disch := omega) only [ix_lt, ix_le, ix_eq, ix_0, nI_clamp, nI_toInt, ng_T, nI_add, nI_mul, nI_sub', Int.neg_zero, not_false_eq_true, not_true_eq_false, hA] <;> omega); done))) | refine ⟨Or.inl rfl, ?_⟩ | refine ⟨Or.inr rfl, ?_⟩ | (refine ⟨?_, ?_⟩; (focus ((try simp (disch := omega) only [hA, nI_mul, nI_add, nI_sub']); exact in_nI (by omega) (by omega)))))
    refine xlpW (M := mX11_digest) (cs := csX11_digest) (pc := 44) 4 (fun k => [some (.ref 27), some (.long (fdN (fd2 (dg1 S) (oaI S.d S.D.X) 4 i) (oaI S.d S.D.X i) k)), none, some (.int (nI i)), some (.int (nI k))]) (fun _ I' L' => L = L' ∧ scr I L I' L ∧ Ref S I' L) ?_ ?_ ⟨rfl, hs2, hC2⟩
    · rintro k hk I3 L3 ⟨rfl, hs3, hC3⟩ ih2
      refine xrun okX11_digest hhX11_digest [(44, [true, true, false, true, true])] 60 ?_
      (first | (refine xbr_f ?_ ?_; (focus ((simp (disch := omega) only [ix_lt, ix_le, ix_eq, ix_0, nI_clamp, nI_toInt, ng_T, nI_add, nI_mul, nI_sub', Int.neg_zero, not_false_eq_true, not_true_eq_false] <;> omega); done))) | (refine xbr_t ?_ ?_; (focus ((simp (disch := omega) only [ix_lt, ix_le, ix_eq, ix_0, nI_clamp, nI_toInt, ng_T, nI_add, nI_mul, nI_sub', Int.neg_zero, not_false_eq_true, not_true_eq_false] <;> omega); done))) | refine ⟨Or.inl rfl, ?_⟩ | refine ⟨Or.inr rfl, ?_⟩ | (refine ⟨?_, ?_⟩; (focus (exact in_nI (by omega) (by omega)))))
      refine ⟨rfl, rfl, S, i, k, rfl, hi, hk, hC3, fun I4 hs4 hC4 => ?_⟩
      refine xgo_eq (ih2 _ _ ⟨rfl, scr_t hs3 hs4, hC4⟩) ?_ rfl rfl
      ((repeat' (first | (with_reducible rfl) | exact xv_nil | refine xv_cons ?_ ?_ | refine xv_i ?_ | refine xv_l ?_)) <;> (simp (disch := omega) only [↓reduceIte, Bool.false_eq_true, Nat.one_mul, Nat.zero_mul, Nat.or_zero, Nat.add_zero, Nat.zero_add, Bool.toNat_true, Bool.toNat_false, shl_n, shr_n, fa_and, fa_or, nx_xor, nI_add, nI_mul, nI_sub', and_1, and_7, and_3', and_15, fdN]))
    · rintro I3 L3 ⟨rfl, hs3, hC3⟩
      refine xrun okX11_digest hhX11_digest [(33, [true, true, false, true, false])] 60 ?_
      (first | (refine xbr_f ?_ ?_; (focus ((simp (disch := omega) only [ix_lt, ix_le, ix_eq, ix_0, nI_clamp, nI_toInt, ng_T, nI_add, nI_mul, nI_sub', Int.neg_zero, not_false_eq_true, not_true_eq_false] <;> omega); done))) | (refine xbr_t ?_ ?_; (focus ((simp (disch := omega) only [ix_lt, ix_le, ix_eq, ix_0, nI_clamp, nI_toInt, ng_T, nI_add, nI_mul, nI_sub', Int.neg_zero, not_false_eq_true, not_true_eq_false] <;> omega); done))) | refine ⟨Or.inl rfl, ?_⟩ | refine ⟨Or.inr rfl, ?_⟩ | (refine ⟨?_, ?_⟩; (focus (exact in_nI (by omega) (by omega)))))
      refine xgo_eq (ih _ _ ⟨rfl, hs3, hC3⟩) ?_ rfl rfl
      ((repeat' (first | (with_reducible rfl) | exact xv_nil | refine xv_cons ?_ ?_ | refine xv_i ?_ | refine xv_l ?_)) <;> (simp (disch := omega) only [↓reduceIte, Bool.false_eq_true, Nat.one_mul, Nat.zero_mul, Nat.or_zero, Nat.add_zero, Nat.zero_add, Bool.toNat_true, Bool.toNat_false, shl_n, shr_n, fa_and, fa_or, nx_xor, nI_add, nI_mul, nI_sub', and_1, and_7, and_3', and_15, fd2]))
  rintro I2 L2 ⟨rfl, hs2, hC2⟩
  have hA := hC2.pd.a
  refine xrun okX11_digest hhX11_digest [(79, [true, true, false, true, false])] 60 ?_
  (first | (refine xbr_f ?_ ?_; (focus ((simp (disch := omega) only [ix_lt, ix_le, ix_eq, ix_0, nI_clamp, nI_toInt, ng_T, nI_add, nI_mul, nI_sub', Int.neg_zero, not_false_eq_true, not_true_eq_false, hA] <;> omega); done))) | (refine xbr_t ?_ ?_; (focus ((simp (disch := omega) only [ix_lt, ix_le, ix_eq, ix_0, nI_clamp, nI_toInt, ng_T, nI_add, nI_mul, nI_sub', Int.neg_zero, not_false_eq_true, not_true_eq_false, hA] <;> omega); done))) | refine ⟨Or.inl rfl, ?_⟩ | refine ⟨Or.inr rfl, ?_⟩ | (refine ⟨?_, ?_⟩; (focus ((try simp (disch := omega) only [hA, nI_mul, nI_add, nI_sub']); exact in_nI (by omega) (by omega)))))
  refine xlpW (M := mX11_digest) (cs := csX11_digest) (pc := 79) S.d.nL (fun k => [some (.ref 27), some (.long (fd2 (dg2 S) (olI S.d S.D.X) 5 k)), none, some (.int (nI k)), none]) (fun _ I' L' => L = L' ∧ scr I L I' L ∧ Ref S I' L) ?_ ?_ ⟨rfl, hs2, hC2⟩
  · rintro i hi I3 L3 ⟨rfl, hs3, hC3⟩ ih
    have hL := hC3.pd.l
    refine xrun okX11_digest hhX11_digest [(90, [true, true, false, true, true])] 60 ?_
    (first | (refine xbr_f ?_ ?_; (focus ((simp (disch := omega) only [ix_lt, ix_le, ix_eq, ix_0, nI_clamp, nI_toInt, ng_T, nI_add, nI_mul, nI_sub', Int.neg_zero, not_false_eq_true, not_true_eq_false, hL] <;> omega); done))) | (refine xbr_t ?_ ?_; (focus ((simp (disch := omega) only [ix_lt, ix_le, ix_eq, ix_0, nI_clamp, nI_toInt, ng_T, nI_add, nI_mul, nI_sub', Int.neg_zero, not_false_eq_true, not_true_eq_false, hL] <;> omega); done))) | refine ⟨Or.inl rfl, ?_⟩ | refine ⟨Or.inr rfl, ?_⟩ | (refine ⟨?_, ?_⟩; (focus ((try simp (disch := omega) only [hL, nI_mul, nI_add, nI_sub']); exact in_nI (by omega) (by omega)))))
    refine xlpW (M := mX11_digest) (cs := csX11_digest) (pc := 90) 5 (fun k => [some (.ref 27), some (.long (fdN (fd2 (dg2 S) (olI S.d S.D.X) 5 i) (olI S.d S.D.X i) k)), none, some (.int (nI i)), some (.int (nI k))]) (fun _ I' L' => L = L' ∧ scr I L I' L ∧ Ref S I' L) ?_ ?_ ⟨rfl, hs3, hC3⟩
    · rintro k hk I4 L4 ⟨rfl, hs4, hC4⟩ ih2
      refine xrun okX11_digest hhX11_digest [(90, [true, true, false, true, true])] 60 ?_
      (first | (refine xbr_f ?_ ?_; (focus ((simp (disch := omega) only [ix_lt, ix_le, ix_eq, ix_0, nI_clamp, nI_toInt, ng_T, nI_add, nI_mul, nI_sub', Int.neg_zero, not_false_eq_true, not_true_eq_false] <;> omega); done))) | (refine xbr_t ?_ ?_; (focus ((simp (disch := omega) only [ix_lt, ix_le, ix_eq, ix_0, nI_clamp, nI_toInt, ng_T, nI_add, nI_mul, nI_sub', Int.neg_zero, not_false_eq_true, not_true_eq_false] <;> omega); done))) | refine ⟨Or.inl rfl, ?_⟩ | refine ⟨Or.inr rfl, ?_⟩ | (refine ⟨?_, ?_⟩; (focus (exact in_nI (by omega) (by omega)))))
      refine ⟨rfl, rfl, S, i, k, rfl, hi, hk, hC4, fun I5 hs5 hC5 => ?_⟩
      refine xgo_eq (ih2 _ _ ⟨rfl, scr_t hs4 hs5, hC5⟩) ?_ rfl rfl
      ((repeat' (first | (with_reducible rfl) | exact xv_nil | refine xv_cons ?_ ?_ | refine xv_i ?_ | refine xv_l ?_)) <;> (simp (disch := omega) only [↓reduceIte, Bool.false_eq_true, Nat.one_mul, Nat.zero_mul, Nat.or_zero, Nat.add_zero, Nat.zero_add, Bool.toNat_true, Bool.toNat_false, shl_n, shr_n, fa_and, fa_or, nx_xor, nI_add, nI_mul, nI_sub', and_1, and_7, and_3', and_15, fdN]))
    · rintro I4 L4 ⟨rfl, hs4, hC4⟩
      refine xrun okX11_digest hhX11_digest [(79, [true, true, false, true, false])] 60 ?_
      (first | (refine xbr_f ?_ ?_; (focus ((simp (disch := omega) only [ix_lt, ix_le, ix_eq, ix_0, nI_clamp, nI_toInt, ng_T, nI_add, nI_mul, nI_sub', Int.neg_zero, not_false_eq_true, not_true_eq_false] <;> omega); done))) | (refine xbr_t ?_ ?_; (focus ((simp (disch := omega) only [ix_lt, ix_le, ix_eq, ix_0, nI_clamp, nI_toInt, ng_T, nI_add, nI_mul, nI_sub', Int.neg_zero, not_false_eq_true, not_true_eq_false] <;> omega); done))) | refine ⟨Or.inl rfl, ?_⟩ | refine ⟨Or.inr rfl, ?_⟩ | (refine ⟨?_, ?_⟩; (focus (exact in_nI (by omega) (by omega)))))
      refine xgo_eq (ih _ _ ⟨rfl, hs4, hC4⟩) ?_ rfl rfl
      ((repeat' (first | (with_reducible rfl) | exact xv_nil | refine xv_cons ?_ ?_ | refine xv_i ?_ | refine xv_l ?_)) <;> (simp (disch := omega) only [↓reduceIte, Bool.false_eq_true, Nat.one_mul, Nat.zero_mul, Nat.or_zero, Nat.add_zero, Nat.zero_add, Bool.toNat_true, Bool.toNat_false, shl_n, shr_n, fa_and, fa_or, nx_xor, nI_add, nI_mul, nI_sub', and_1, and_7, and_3', and_15, fd2]))
  rintro I3 L3 ⟨rfl, hs3, hC⟩
  have hL := hC.pd.l
  refine xrun okX11_digest hhX11_digest [(125, [true, true, false, true, false])] 60 ?_
  (first | (refine xbr_f ?_ ?_; (focus ((simp (disch := omega) only [ix_lt, ix_le, ix_eq, ix_0, nI_clamp, nI_toInt, ng_T, nI_add, nI_mul, nI_sub', Int.neg_zero, not_false_eq_true, not_true_eq_false, hL] <;> omega); done))) | (refine xbr_t ?_ ?_; (focus ((simp (disch := omega) only [ix_lt, ix_le, ix_eq, ix_0, nI_clamp, nI_toInt, ng_T, nI_add, nI_mul, nI_sub', Int.neg_zero, not_false_eq_true, not_true_eq_false, hL] <;> omega); done))) | refine ⟨Or.inl rfl, ?_⟩ | refine ⟨Or.inr rfl, ?_⟩ | (refine ⟨?_, ?_⟩; (focus ((try simp (disch := omega) only [hL, nI_mul, nI_add, nI_sub']); exact in_nI (by omega) (by omega)))))
  refine xlp (M := mX11_digest) (cs := csX11_digest) (pc := 125) 3 (fun k => [some (.ref 27), some (.long (fdN (dg3 S) (fun k => szI (S.kp k).z) k)), none, some (.int (nI k)), none]) (fun _ => I3) (fun _ => L) ?_ ?_
  · intro k hk ih
    refine xrun okX11_digest hhX11_digest [(125, [true, true, false, true, false])] 60 ?_
    (first | (refine xbr_f ?_ ?_; (focus ((simp (disch := omega) only [ix_lt, ix_le, ix_eq, ix_0, nI_clamp, nI_toInt, ng_T, nI_add, nI_mul, nI_sub', Int.neg_zero, not_false_eq_true, not_true_eq_false] <;> omega); done))) | (refine xbr_t ?_ ?_; (focus ((simp (disch := omega) only [ix_lt, ix_le, ix_eq, ix_0, nI_clamp, nI_toInt, ng_T, nI_add, nI_mul, nI_sub', Int.neg_zero, not_false_eq_true, not_true_eq_false] <;> omega); done))) | refine ⟨Or.inl rfl, ?_⟩ | refine ⟨Or.inr rfl, ?_⟩ | (refine ⟨?_, ?_⟩; (focus (exact in_nI (by omega) (by omega)))))
    (first | (refine xbr_f ?_ ?_; (focus ((simp (disch := omega) only [ix_lt, ix_le, ix_eq, ix_0, nI_clamp, nI_toInt, ng_T, nI_add, nI_mul, nI_sub', Int.neg_zero, not_false_eq_true, not_true_eq_false, nI_add] <;> omega); done))) | (refine xbr_t ?_ ?_; (focus ((simp (disch := omega) only [ix_lt, ix_le, ix_eq, ix_0, nI_clamp, nI_toInt, ng_T, nI_add, nI_mul, nI_sub', Int.neg_zero, not_false_eq_true, not_true_eq_false, nI_add] <;> omega); done))) | refine ⟨Or.inl rfl, ?_⟩ | refine ⟨Or.inr rfl, ?_⟩ | (refine ⟨?_, ?_⟩; (focus ((try simp (disch := omega) only [nI_add, nI_mul, nI_add, nI_sub']); exact in_nI (by omega) (by omega)))))
    have e := (hC.kp k hk).1
    have e2 : (nI k).toNatClampNeg = k := nI_clamp (by omega)
    refine xgo_eq ih ?_ rfl rfl
    ((repeat' (first | (with_reducible rfl) | exact xv_nil | refine xv_cons ?_ ?_ | refine xv_i ?_ | refine xv_l ?_)) <;> (simp (disch := omega) only [↓reduceIte, Bool.false_eq_true, Nat.one_mul, Nat.zero_mul, Nat.or_zero, Nat.add_zero, Nat.zero_add, Bool.toNat_true, Bool.toNat_false, shl_n, shr_n, fa_and, fa_or, nx_xor, nI_add, nI_mul, nI_sub', and_1, and_7, and_3', and_15, fdN, e2, e]))
  refine xrun okX11_digest hhX11_digest [(152, [true, true, false, true, false])] 60 ?_
  (first | (refine xbr_f ?_ ?_; (focus ((simp (disch := omega) only [ix_lt, ix_le, ix_eq, ix_0, nI_clamp, nI_toInt, ng_T, nI_add, nI_mul, nI_sub', Int.neg_zero, not_false_eq_true, not_true_eq_false] <;> omega); done))) | (refine xbr_t ?_ ?_; (focus ((simp (disch := omega) only [ix_lt, ix_le, ix_eq, ix_0, nI_clamp, nI_toInt, ng_T, nI_add, nI_mul, nI_sub', Int.neg_zero, not_false_eq_true, not_true_eq_false] <;> omega); done))) | refine ⟨Or.inl rfl, ?_⟩ | refine ⟨Or.inr rfl, ?_⟩ | (refine ⟨?_, ?_⟩; (focus (exact in_nI (by omega) (by omega)))))
  refine xlp (M := mX11_digest) (cs := csX11_digest) (pc := 152) 6 (fun r => [some (.ref 27), some (.long (mxS S.rv S.rz 40 (dg4 S) r)), none, some (.int (nI r)), none]) (fun _ => I3) (fun _ => L) ?_ ?_
  · intro r hr ih
    have hz := hC.rz hr
    have hz41 := hC.ok.rz r hr
    have e2 : (nI r).toNatClampNeg = r := nI_clamp (by omega)
    have e40 : 40 * r = r * 40 := Nat.mul_comm _ _
    refine xrun okX11_digest hhX11_digest [(175, [true, true, false, true, true])] 60 ?_
    (first | (refine xbr_f ?_ ?_; (focus ((simp (disch := omega) only [ix_lt, ix_le, ix_eq, ix_0, nI_clamp, nI_toInt, ng_T, nI_add, nI_mul, nI_sub', Int.neg_zero, not_false_eq_true, not_true_eq_false] <;> omega); done))) | (refine xbr_t ?_ ?_; (focus ((simp (disch := omega) only [ix_lt, ix_le, ix_eq, ix_0, nI_clamp, nI_toInt, ng_T, nI_add, nI_mul, nI_sub', Int.neg_zero, not_false_eq_true, not_true_eq_false] <;> omega); done))) | refine ⟨Or.inl rfl, ?_⟩ | refine ⟨Or.inr rfl, ?_⟩ | (refine ⟨?_, ?_⟩; (focus (exact in_nI (by omega) (by omega)))))
    (first | (refine xbr_f ?_ ?_; (focus ((simp (disch := omega) only [ix_lt, ix_le, ix_eq, ix_0, nI_clamp, nI_toInt, ng_T, nI_add, nI_mul, nI_sub', Int.neg_zero, not_false_eq_true, not_true_eq_false, nI_add] <;> omega); done))) | (refine xbr_t ?_ ?_; (focus ((simp (disch := omega) only [ix_lt, ix_le, ix_eq, ix_0, nI_clamp, nI_toInt, ng_T, nI_add, nI_mul, nI_sub', Int.neg_zero, not_false_eq_true, not_true_eq_false, nI_add] <;> omega); done))) | refine ⟨Or.inl rfl, ?_⟩ | refine ⟨Or.inr rfl, ?_⟩ | (refine ⟨?_, ?_⟩; (focus ((try simp (disch := omega) only [nI_add, nI_mul, nI_add, nI_sub']); exact in_nI (by omega) (by omega)))))
    refine xgo_eq (xlp (M := mX11_digest) (cs := csX11_digest) (pc := 175) (S.rz r - 1) (fun k => [some (.ref 27), some (.long (mxC S.rv (r * 40) (lN 31 * mxS S.rv S.rz 40 (dg4 S) r + (szI (S.rz r)).toInt64) k)), none, some (.int (nI r)), some (.int (nI k))]) (fun _ => I3) (fun _ => L) ?_ ?_) ?_ rfl rfl
    · intro k hk ih2
      obtain ⟨s, hs⟩ : ∃ s, S.rz r = s + 1 := ⟨S.rz r - 1, by omega⟩
      have hv := hC.rv hr hk
      have hz3 := hz
      rw [hs, szI_s] at hz3
      refine xrun okX11_digest hhX11_digest [(175, [true, true, false, true, true])] 60 ?_
      (first | (refine xbr_f ?_ ?_; (focus ((simp (disch := omega) only [ix_lt, ix_le, ix_eq, ix_0, nI_clamp, nI_toInt, ng_T, nI_add, nI_mul, nI_sub', Int.neg_zero, not_false_eq_true, not_true_eq_false, nI_add] <;> omega); done))) | (refine xbr_t ?_ ?_; (focus ((simp (disch := omega) only [ix_lt, ix_le, ix_eq, ix_0, nI_clamp, nI_toInt, ng_T, nI_add, nI_mul, nI_sub', Int.neg_zero, not_false_eq_true, not_true_eq_false, nI_add] <;> omega); done))) | refine ⟨Or.inl rfl, ?_⟩ | refine ⟨Or.inr rfl, ?_⟩ | (refine ⟨?_, ?_⟩; (focus ((try simp (disch := omega) only [nI_add, nI_mul, nI_add, nI_sub']); exact in_nI (by omega) (by omega)))))
      (first | (refine xbr_f ?_ ?_; (focus ((simp (disch := omega) only [ix_lt, ix_le, ix_eq, ix_0, nI_clamp, nI_toInt, ng_T, nI_add, nI_mul, nI_sub', Int.neg_zero, not_false_eq_true, not_true_eq_false, hz3] <;> omega); done))) | (refine xbr_t ?_ ?_; (focus ((simp (disch := omega) only [ix_lt, ix_le, ix_eq, ix_0, nI_clamp, nI_toInt, ng_T, nI_add, nI_mul, nI_sub', Int.neg_zero, not_false_eq_true, not_true_eq_false, hz3] <;> omega); done))) | refine ⟨Or.inl rfl, ?_⟩ | refine ⟨Or.inr rfl, ?_⟩ | (refine ⟨?_, ?_⟩; (focus ((try simp (disch := omega) only [hz3, nI_mul, nI_add, nI_sub']); exact in_nI (by omega) (by omega)))))
      (first | (refine xbr_f ?_ ?_; (focus ((simp (disch := omega) only [ix_lt, ix_le, ix_eq, ix_0, nI_clamp, nI_toInt, ng_T, nI_add, nI_mul, nI_sub', Int.neg_zero, not_false_eq_true, not_true_eq_false, nI_add] <;> omega); done))) | (refine xbr_t ?_ ?_; (focus ((simp (disch := omega) only [ix_lt, ix_le, ix_eq, ix_0, nI_clamp, nI_toInt, ng_T, nI_add, nI_mul, nI_sub', Int.neg_zero, not_false_eq_true, not_true_eq_false, nI_add] <;> omega); done))) | refine ⟨Or.inl rfl, ?_⟩ | refine ⟨Or.inr rfl, ?_⟩ | (refine ⟨?_, ?_⟩; (focus ((try simp (disch := omega) only [nI_add, nI_mul, nI_add, nI_sub']); exact in_nI (by omega) (by omega)))))
      refine xgo_eq ih2 ?_ rfl rfl
      ((repeat' (first | (with_reducible rfl) | exact xv_nil | refine xv_cons ?_ ?_ | refine xv_i ?_ | refine xv_l ?_)) <;> (simp (disch := omega) only [↓reduceIte, Bool.false_eq_true, Nat.one_mul, Nat.zero_mul, Nat.or_zero, Nat.add_zero, Nat.zero_add, Bool.toNat_true, Bool.toNat_false, shl_n, shr_n, fa_and, fa_or, nx_xor, nI_add, nI_mul, nI_sub', and_1, and_7, and_3', and_15, mxC, nI_clamp, hv]))
    · refine xrun okX11_digest hhX11_digest [(152, [true, true, false, true, false])] 60 ?_
      (first | (refine xbr_f ?_ ?_; (focus ((simp (disch := omega) only [ix_lt, ix_le, ix_eq, ix_0, nI_clamp, nI_toInt, ng_T, nI_add, nI_mul, nI_sub', Int.neg_zero, not_false_eq_true, not_true_eq_false, nI_add] <;> omega); done))) | (refine xbr_t ?_ ?_; (focus ((simp (disch := omega) only [ix_lt, ix_le, ix_eq, ix_0, nI_clamp, nI_toInt, ng_T, nI_add, nI_mul, nI_sub', Int.neg_zero, not_false_eq_true, not_true_eq_false, nI_add] <;> omega); done))) | refine ⟨Or.inl rfl, ?_⟩ | refine ⟨Or.inr rfl, ?_⟩ | (refine ⟨?_, ?_⟩; (focus ((try simp (disch := omega) only [nI_add, nI_mul, nI_add, nI_sub']); exact in_nI (by omega) (by omega)))))
      have hn : ¬ nI (S.rz r - 1) < I3 29 (nI r).toNatClampNeg := by
        rw [e2, hz, ix_lt, szI_T (by omega), nI_toInt (by omega)]
        omega
      have hle : I3 29 (nI r).toNatClampNeg ≤ nI (S.rz r - 1) := by
        rw [e2, hz, ix_le, szI_T (by omega), nI_toInt (by omega)]
        omega
      (first | refine xbr_t hle ?_ | refine xbr_f hle ?_)
      refine xgo_eq ih ?_ rfl rfl
      ((repeat' (first | (with_reducible rfl) | exact xv_nil | refine xv_cons ?_ ?_ | refine xv_i ?_ | refine xv_l ?_)) <;> (simp (disch := omega) only [↓reduceIte, Bool.false_eq_true, Nat.one_mul, Nat.zero_mul, Nat.or_zero, Nat.add_zero, Nat.zero_add, Bool.toNat_true, Bool.toNat_false, shl_n, shr_n, fa_and, fa_or, nx_xor, nI_add, nI_mul, nI_sub', and_1, and_7, and_3', and_15, mxS]))
    · rw [e2, hz]
      rfl
  refine xrun okX11_digest hhX11_digest [(220, [true, true, false, true, false])] 60 ?_
  (first | (refine xbr_f ?_ ?_; (focus ((simp (disch := omega) only [ix_lt, ix_le, ix_eq, ix_0, nI_clamp, nI_toInt, ng_T, nI_add, nI_mul, nI_sub', Int.neg_zero, not_false_eq_true, not_true_eq_false] <;> omega); done))) | (refine xbr_t ?_ ?_; (focus ((simp (disch := omega) only [ix_lt, ix_le, ix_eq, ix_0, nI_clamp, nI_toInt, ng_T, nI_add, nI_mul, nI_sub', Int.neg_zero, not_false_eq_true, not_true_eq_false] <;> omega); done))) | refine ⟨Or.inl rfl, ?_⟩ | refine ⟨Or.inr rfl, ?_⟩ | (refine ⟨?_, ?_⟩; (focus (exact in_nI (by omega) (by omega)))))
  refine xlp (M := mX11_digest) (cs := csX11_digest) (pc := 220) 4 (fun r => [some (.ref 27), some (.long (mxS S.tv S.tz 60 (mxS S.rv S.rz 40 (dg4 S) 6) r)), none, some (.int (nI r)), none]) (fun _ => I3) (fun _ => L) ?_ ?_
  · intro r hr ih
    have hz := hC.tz hr
    have hz41 := hC.ok.tz r hr
    have e2 : (nI r).toNatClampNeg = r := nI_clamp (by omega)
    refine xrun okX11_digest hhX11_digest [(242, [true, true, false, true, true])] 60 ?_
    (first | (refine xbr_f ?_ ?_; (focus ((simp (disch := omega) only [ix_lt, ix_le, ix_eq, ix_0, nI_clamp, nI_toInt, ng_T, nI_add, nI_mul, nI_sub', Int.neg_zero, not_false_eq_true, not_true_eq_false] <;> omega); done))) | (refine xbr_t ?_ ?_; (focus ((simp (disch := omega) only [ix_lt, ix_le, ix_eq, ix_0, nI_clamp, nI_toInt, ng_T, nI_add, nI_mul, nI_sub', Int.neg_zero, not_false_eq_true, not_true_eq_false] <;> omega); done))) | refine ⟨Or.inl rfl, ?_⟩ | refine ⟨Or.inr rfl, ?_⟩ | (refine ⟨?_, ?_⟩; (focus (exact in_nI (by omega) (by omega)))))
    (first | (refine xbr_f ?_ ?_; (focus ((simp (disch := omega) only [ix_lt, ix_le, ix_eq, ix_0, nI_clamp, nI_toInt, ng_T, nI_add, nI_mul, nI_sub', Int.neg_zero, not_false_eq_true, not_true_eq_false, nI_add] <;> omega); done))) | (refine xbr_t ?_ ?_; (focus ((simp (disch := omega) only [ix_lt, ix_le, ix_eq, ix_0, nI_clamp, nI_toInt, ng_T, nI_add, nI_mul, nI_sub', Int.neg_zero, not_false_eq_true, not_true_eq_false, nI_add] <;> omega); done))) | refine ⟨Or.inl rfl, ?_⟩ | refine ⟨Or.inr rfl, ?_⟩ | (refine ⟨?_, ?_⟩; (focus ((try simp (disch := omega) only [nI_add, nI_mul, nI_add, nI_sub']); exact in_nI (by omega) (by omega)))))
    refine xgo_eq (xlp (M := mX11_digest) (cs := csX11_digest) (pc := 242) (S.tz r - 1) (fun k => [some (.ref 27), some (.long (mxC S.tv (r * 60) (lN 31 * mxS S.tv S.tz 60 (mxS S.rv S.rz 40 (dg4 S) 6) r + (szI (S.tz r)).toInt64) k)), none, some (.int (nI r)), some (.int (nI k))]) (fun _ => I3) (fun _ => L) ?_ ?_) ?_ rfl rfl
    · intro k hk ih2
      obtain ⟨s, hs⟩ : ∃ s, S.tz r = s + 1 := ⟨S.tz r - 1, by omega⟩
      have hv := hC.tv hr hk
      have hz3 := hz
      rw [hs, szI_s] at hz3
      refine xrun okX11_digest hhX11_digest [(242, [true, true, false, true, true])] 60 ?_
      (first | (refine xbr_f ?_ ?_; (focus ((simp (disch := omega) only [ix_lt, ix_le, ix_eq, ix_0, nI_clamp, nI_toInt, ng_T, nI_add, nI_mul, nI_sub', Int.neg_zero, not_false_eq_true, not_true_eq_false, nI_add] <;> omega); done))) | (refine xbr_t ?_ ?_; (focus ((simp (disch := omega) only [ix_lt, ix_le, ix_eq, ix_0, nI_clamp, nI_toInt, ng_T, nI_add, nI_mul, nI_sub', Int.neg_zero, not_false_eq_true, not_true_eq_false, nI_add] <;> omega); done))) | refine ⟨Or.inl rfl, ?_⟩ | refine ⟨Or.inr rfl, ?_⟩ | (refine ⟨?_, ?_⟩; (focus ((try simp (disch := omega) only [nI_add, nI_mul, nI_add, nI_sub']); exact in_nI (by omega) (by omega)))))
      (first | (refine xbr_f ?_ ?_; (focus ((simp (disch := omega) only [ix_lt, ix_le, ix_eq, ix_0, nI_clamp, nI_toInt, ng_T, nI_add, nI_mul, nI_sub', Int.neg_zero, not_false_eq_true, not_true_eq_false, hz3] <;> omega); done))) | (refine xbr_t ?_ ?_; (focus ((simp (disch := omega) only [ix_lt, ix_le, ix_eq, ix_0, nI_clamp, nI_toInt, ng_T, nI_add, nI_mul, nI_sub', Int.neg_zero, not_false_eq_true, not_true_eq_false, hz3] <;> omega); done))) | refine ⟨Or.inl rfl, ?_⟩ | refine ⟨Or.inr rfl, ?_⟩ | (refine ⟨?_, ?_⟩; (focus ((try simp (disch := omega) only [hz3, nI_mul, nI_add, nI_sub']); exact in_nI (by omega) (by omega)))))
      (first | (refine xbr_f ?_ ?_; (focus ((simp (disch := omega) only [ix_lt, ix_le, ix_eq, ix_0, nI_clamp, nI_toInt, ng_T, nI_add, nI_mul, nI_sub', Int.neg_zero, not_false_eq_true, not_true_eq_false, nI_add] <;> omega); done))) | (refine xbr_t ?_ ?_; (focus ((simp (disch := omega) only [ix_lt, ix_le, ix_eq, ix_0, nI_clamp, nI_toInt, ng_T, nI_add, nI_mul, nI_sub', Int.neg_zero, not_false_eq_true, not_true_eq_false, nI_add] <;> omega); done))) | refine ⟨Or.inl rfl, ?_⟩ | refine ⟨Or.inr rfl, ?_⟩ | (refine ⟨?_, ?_⟩; (focus ((try simp (disch := omega) only [nI_add, nI_mul, nI_add, nI_sub']); exact in_nI (by omega) (by omega)))))
      refine xgo_eq ih2 ?_ rfl rfl
      ((repeat' (first | (with_reducible rfl) | exact xv_nil | refine xv_cons ?_ ?_ | refine xv_i ?_ | refine xv_l ?_)) <;> (simp (disch := omega) only [↓reduceIte, Bool.false_eq_true, Nat.one_mul, Nat.zero_mul, Nat.or_zero, Nat.add_zero, Nat.zero_add, Bool.toNat_true, Bool.toNat_false, shl_n, shr_n, fa_and, fa_or, nx_xor, nI_add, nI_mul, nI_sub', and_1, and_7, and_3', and_15, mxC, nI_clamp, hv]))
    · refine xrun okX11_digest hhX11_digest [(220, [true, true, false, true, false])] 60 ?_
      (first | (refine xbr_f ?_ ?_; (focus ((simp (disch := omega) only [ix_lt, ix_le, ix_eq, ix_0, nI_clamp, nI_toInt, ng_T, nI_add, nI_mul, nI_sub', Int.neg_zero, not_false_eq_true, not_true_eq_false, nI_add] <;> omega); done))) | (refine xbr_t ?_ ?_; (focus ((simp (disch := omega) only [ix_lt, ix_le, ix_eq, ix_0, nI_clamp, nI_toInt, ng_T, nI_add, nI_mul, nI_sub', Int.neg_zero, not_false_eq_true, not_true_eq_false, nI_add] <;> omega); done))) | refine ⟨Or.inl rfl, ?_⟩ | refine ⟨Or.inr rfl, ?_⟩ | (refine ⟨?_, ?_⟩; (focus ((try simp (disch := omega) only [nI_add, nI_mul, nI_add, nI_sub']); exact in_nI (by omega) (by omega)))))
      have hle : I3 31 (nI r).toNatClampNeg ≤ nI (S.tz r - 1) := by
        rw [e2, hz, ix_le, szI_T (by omega), nI_toInt (by omega)]
        omega
      (first | refine xbr_t hle ?_ | refine xbr_f hle ?_)
      refine xgo_eq ih ?_ rfl rfl
      ((repeat' (first | (with_reducible rfl) | exact xv_nil | refine xv_cons ?_ ?_ | refine xv_i ?_ | refine xv_l ?_)) <;> (simp (disch := omega) only [↓reduceIte, Bool.false_eq_true, Nat.one_mul, Nat.zero_mul, Nat.or_zero, Nat.add_zero, Nat.zero_add, Bool.toNat_true, Bool.toNat_false, shl_n, shr_n, fa_and, fa_or, nx_xor, nI_add, nI_mul, nI_sub', and_1, and_7, and_3', and_15, mxS]))
    · rw [e2, hz]
      rfl
  refine xrun okX11_digest hhX11_digest [] 60 ?_
  (first | (refine xbr_f ?_ ?_; (focus ((simp (disch := omega) only [ix_lt, ix_le, ix_eq, ix_0, nI_clamp, nI_toInt, ng_T, nI_add, nI_mul, nI_sub', Int.neg_zero, not_false_eq_true, not_true_eq_false] <;> omega); done))) | (refine xbr_t ?_ ?_; (focus ((simp (disch := omega) only [ix_lt, ix_le, ix_eq, ix_0, nI_clamp, nI_toInt, ng_T, nI_add, nI_mul, nI_sub', Int.neg_zero, not_false_eq_true, not_true_eq_false] <;> omega); done))) | refine ⟨Or.inl rfl, ?_⟩ | refine ⟨Or.inr rfl, ?_⟩ | (refine ⟨?_, ?_⟩; (focus (exact in_nI (by omega) (by omega)))))
  exact hQ I3 hs3 hC
