def csX9_weigh : xCs := [(mX9_setBest, sX9_setBest), (mX9_mostOf, sX9_mostOf)]
theorem okX9_weigh : xOkM mX9_weigh csX9_weigh := ⟨dX9_weigh, by decide +kernel, by decide +kernel, ⟨wdX9_19, wdX9_25, wdX9_19, wdX9_29, wdX9_25, trivial⟩⟩
theorem hhX9_weigh : ∀ q ∈ csX9_weigh, xHd q.1 := xall1 hX9_setBest (xall1 hX9_mostOf (xall0))
theorem kkX9_weigh : ∀ q ∈ csX9_weigh, ∀ l, xCon l q.1 q.2 := xall1 kX9_setBest (xall1 kX9_mostOf (xall0))
def sX9_weigh : xSpec := xReg fun as I L Q => ∃ (d : PD) (X : Nat), xPl d I ∧ as = [.ref 17, .ref 11, .long (lN X)] ∧ X < 2 ^ 63 ∧ (∀ f, (∀ i, i ≤ d.nA → ∀ g, g < 32 → f (32 * i + g) = nI (vN d X (d.nA - i) g)) → Q none (xrw I 18 f) L)
theorem xrw_up {α : Type} (J : Nat → Nat → α) (k : Nat) (f : Nat → α) (j : Nat) (v : α) : xup (xrw J k f) k j v = xrw J k (fun t => if t = j then v else f t) := by
  funext c
  by_cases hc : c = k
  · subst hc
    funext t
    rw [xup_at, xrw_s, xrw_s]
    by_cases ht : t = j <;> simp [ht]
  · rw [xup_c _ _ _ _ hc, xrw_c _ _ _ hc, xrw_c _ _ _ hc]
set_option maxRecDepth 100000 in
theorem kX9_weigh : ∀ l, xCon l mX9_weigh sX9_weigh := by
  refine xcon_of okX9_weigh hX9_weigh rfl hhX9_weigh kkX9_weigh ?_
  rintro as n0 I L P Q ⟨hn9, rfl, d, X, hP, rfl, hX, hQ⟩
  obtain ⟨e9, rfl⟩ := xe9 hn9
  refine ⟨Nat.le_of_ble_eq_true rfl, ?_⟩
  have ha := hP.a
  have h4 := hP.ok.a4
  refine xrun okX9_weigh hhX9_weigh [(3, [true, true, true, false, true, false])] 40 ?_
  refine xlpW (M := mX9_weigh) (cs := csX9_weigh) (pc := 3) 32 (fun g => [some (.ref 17), some (.ref 11), some (.long (lN X)), none, some (.int (nI g)), none]) (fun g I' L' => L = L' ∧ ∃ f, I' = xrw I 18 f ∧ ∀ t, t < g → f (32 * d.nA + t) = nI 0) ?_ ?_ ⟨rfl, I 18, (xrw_self I 18).symm, fun t ht => absurd ht (by omega)⟩
  · rintro g hg I' L' ⟨rfl, f, rfl, hf⟩ ih
    refine xrun okX9_weigh hhX9_weigh [(3, [true, true, true, false, true, false])] 40 ?_
    (first | (refine xbr_f ?_ ?_; (focus ((simp (disch := omega) only [ix_lt, ix_le, ix_eq, ix_0, nI_clamp, nI_toInt, ng_T, nI_add, nI_mul, nI_sub', Int.neg_zero, not_false_eq_true, not_true_eq_false] <;> omega); done))) | (refine xbr_t ?_ ?_; (focus ((simp (disch := omega) only [ix_lt, ix_le, ix_eq, ix_0, nI_clamp, nI_toInt, ng_T, nI_add, nI_mul, nI_sub', Int.neg_zero, not_false_eq_true, not_true_eq_false] <;> omega); done))) | refine ⟨Or.inl rfl, ?_⟩ | refine ⟨Or.inr rfl, ?_⟩ | (refine ⟨?_, ?_⟩; (focus (exact in_nI (by omega) (by omega)))))
    refine ⟨rfl, rfl, d.nA, g, nI 0, ?_, by omega, hg, ?_⟩
    · rw [show xrw I 18 f 11 0 = nI d.nA from ha]
    rw [xrw_up]
    refine xgo_eq (ih _ _ ⟨rfl, _, rfl, ?_⟩) ?_ rfl rfl
    · intro t ht
      by_cases h : t = g
      · subst h; simp
      · rw [if_neg (by omega)]
        exact hf t (by omega)
    · ((repeat' (first | (with_reducible rfl) | exact xv_nil | refine xv_cons ?_ ?_ | refine xv_i ?_ | refine xv_l ?_)) <;> (simp (disch := omega) only [↓reduceIte, Bool.false_eq_true, Nat.one_mul, Nat.zero_mul, Nat.or_zero, Nat.add_zero, Nat.zero_add, Bool.toNat_true, Bool.toNat_false, shl_n, shr_n, fa_and, fa_or, nx_xor, nI_add, nI_mul, nI_sub', and_1, and_7, and_3', and_15]))
  · rintro I' L' ⟨rfl, f, rfl, hf⟩
    refine xrun okX9_weigh hhX9_weigh [(35, [true, true, true, false, true, false])] 40 ?_
    (first | (refine xbr_f ?_ ?_; (focus ((simp (disch := omega) only [ix_lt, ix_le, ix_eq, ix_0, nI_clamp, nI_toInt, ng_T, nI_add, nI_mul, nI_sub', Int.neg_zero, not_false_eq_true, not_true_eq_false] <;> omega); done))) | (refine xbr_t ?_ ?_; (focus ((simp (disch := omega) only [ix_lt, ix_le, ix_eq, ix_0, nI_clamp, nI_toInt, ng_T, nI_add, nI_mul, nI_sub', Int.neg_zero, not_false_eq_true, not_true_eq_false] <;> omega); done))) | refine ⟨Or.inl rfl, ?_⟩ | refine ⟨Or.inr rfl, ?_⟩ | (refine ⟨?_, ?_⟩; (focus (exact in_nI (by omega) (by omega)))))
    have loop : xGo mX9_weigh csX9_weigh 35 Q [some (.ref 17), some (.ref 11), some (.long (lN X)), none, some (.int (nI (d.nA - 0) - nI 1)), none] [] 0 (e9 + 26) (xrw I 18 f) L xP0 := by
      refine xlpW (M := mX9_weigh) (cs := csX9_weigh) (pc := 35) d.nA (fun k => [some (.ref 17), some (.ref 11), some (.long (lN X)), none, some (.int (nI (d.nA - k) - nI 1)), none]) (fun k I' L'' => L = L'' ∧ ∃ f, I' = xrw I 18 f ∧ ∀ j, j ≤ k → ∀ g, g < 32 → f (32 * (d.nA - j) + g) = nI (vN d X j g)) ?_ ?_ ⟨rfl, f, rfl, ?_⟩
      · rintro k hk I' L'' ⟨rfl, f, rfl, hf⟩ ih
        have e1 : nI (d.nA - k) - nI 1 = nI (d.nA - (k + 1)) := by rw [nI_sub' (by omega)]; rfl
        rw [e1]
        refine xrun okX9_weigh hhX9_weigh [(43, [true, true, true, false, true, true])] 40 ?_
        (first | (refine xbr_f ?_ ?_; (focus ((simp (disch := omega) only [ix_lt, ix_le, ix_eq, ix_0, nI_clamp, nI_toInt, ng_T, nI_add, nI_mul, nI_sub', Int.neg_zero, not_false_eq_true, not_true_eq_false] <;> omega); done))) | (refine xbr_t ?_ ?_; (focus ((simp (disch := omega) only [ix_lt, ix_le, ix_eq, ix_0, nI_clamp, nI_toInt, ng_T, nI_add, nI_mul, nI_sub', Int.neg_zero, not_false_eq_true, not_true_eq_false] <;> omega); done))) | refine ⟨Or.inl rfl, ?_⟩ | refine ⟨Or.inr rfl, ?_⟩ | (refine ⟨?_, ?_⟩; (focus (exact in_nI (by omega) (by omega)))))
        refine xlpW (M := mX9_weigh) (cs := csX9_weigh) (pc := 43) 32 (fun g => [some (.ref 17), some (.ref 11), some (.long (lN X)), none, some (.int (nI (d.nA - (k + 1)))), some (.int (nI g))]) (fun g I' L'' => L = L'' ∧ ∃ f, I' = xrw I 18 f ∧ (∀ j, j ≤ k → ∀ g, g < 32 → f (32 * (d.nA - j) + g) = nI (vN d X j g)) ∧ ∀ t, t < g → f (32 * (d.nA - (k + 1)) + t) = nI (vN d X (k + 1) t)) ?_ ?_ ⟨rfl, f, rfl, hf, fun t ht => absurd ht (by omega)⟩
        · rintro g hg I' L'' ⟨rfl, f, rfl, hf, hf2⟩ ih2
          refine xrun okX9_weigh hhX9_weigh [(43, [true, true, true, false, true, true])] 60 ?_
          (first | (refine xbr_f ?_ ?_; (focus ((simp (disch := omega) only [ix_lt, ix_le, ix_eq, ix_0, nI_clamp, nI_toInt, ng_T, nI_add, nI_mul, nI_sub', Int.neg_zero, not_false_eq_true, not_true_eq_false] <;> omega); done))) | (refine xbr_t ?_ ?_; (focus ((simp (disch := omega) only [ix_lt, ix_le, ix_eq, ix_0, nI_clamp, nI_toInt, ng_T, nI_add, nI_mul, nI_sub', Int.neg_zero, not_false_eq_true, not_true_eq_false] <;> omega); done))) | refine ⟨Or.inl rfl, ?_⟩ | refine ⟨Or.inr rfl, ?_⟩ | (refine ⟨?_, ?_⟩; (focus (exact in_nI (by omega) (by omega)))))
          refine ⟨rfl, rfl, d, X, d.nA - (k + 1), g, vN d X k, hP, rfl, hX, by omega, hg, ?_, ?_, ?_⟩
          · intro t ht
            rw [show d.nA - (k + 1) + 1 = d.nA - k by omega]
            exact hf k (by omega) t ht
          · intro t ht
            have := vN_le hP.ok X k t ht
            omega
          refine ⟨rfl, rfl, d.nA - (k + 1), g, _, rfl, by omega, hg, ?_⟩
          rw [xrw_up]
          refine xgo_eq (ih2 _ _ ⟨rfl, _, rfl, ?_, ?_⟩) ?_ rfl rfl
          · intro j hj t ht
            show (if 32 * (d.nA - j) + t = 32 * (d.nA - (k + 1)) + g then _ else f (32 * (d.nA - j) + t)) = _
            rw [if_neg (by omega)]
            exact hf j hj t ht
          · intro t ht
            show (if 32 * (d.nA - (k + 1)) + t = 32 * (d.nA - (k + 1)) + g then _ else f (32 * (d.nA - (k + 1)) + t)) = _
            by_cases h : t = g
            · subst h
              rw [if_pos rfl]
              rfl
            · rw [if_neg (by omega)]
              exact hf2 t (by omega)
          · ((repeat' (first | (with_reducible rfl) | exact xv_nil | refine xv_cons ?_ ?_ | refine xv_i ?_ | refine xv_l ?_)) <;> (simp (disch := omega) only [↓reduceIte, Bool.false_eq_true, Nat.one_mul, Nat.zero_mul, Nat.or_zero, Nat.add_zero, Nat.zero_add, Bool.toNat_true, Bool.toNat_false, shl_n, shr_n, fa_and, fa_or, nx_xor, nI_add, nI_mul, nI_sub', and_1, and_7, and_3', and_15]))
        · rintro I' L'' ⟨rfl, f, rfl, hf, hf2⟩
          refine xrun okX9_weigh hhX9_weigh [(35, [true, true, true, false, true, false])] 40 ?_
          (first | (refine xbr_f ?_ ?_; (focus ((simp (disch := omega) only [ix_lt, ix_le, ix_eq, ix_0, nI_clamp, nI_toInt, ng_T, nI_add, nI_mul, nI_sub', Int.neg_zero, not_false_eq_true, not_true_eq_false] <;> omega); done))) | (refine xbr_t ?_ ?_; (focus ((simp (disch := omega) only [ix_lt, ix_le, ix_eq, ix_0, nI_clamp, nI_toInt, ng_T, nI_add, nI_mul, nI_sub', Int.neg_zero, not_false_eq_true, not_true_eq_false] <;> omega); done))) | refine ⟨Or.inl rfl, ?_⟩ | refine ⟨Or.inr rfl, ?_⟩ | (refine ⟨?_, ?_⟩; (focus (exact in_nI (by omega) (by omega)))))
          refine xgo_eq (ih _ _ ⟨rfl, f, rfl, ?_⟩) ?_ rfl rfl
          · intro j hj t ht
            by_cases h : j = k + 1
            · subst h
              exact hf2 t ht
            · exact hf j (by omega) t ht
          · ((repeat' (first | (with_reducible rfl) | exact xv_nil | refine xv_cons ?_ ?_ | refine xv_i ?_ | refine xv_l ?_)) <;> (simp (disch := omega) only [↓reduceIte, Bool.false_eq_true, Nat.one_mul, Nat.zero_mul, Nat.or_zero, Nat.add_zero, Nat.zero_add, Bool.toNat_true, Bool.toNat_false, shl_n, shr_n, fa_and, fa_or, nx_xor, nI_add, nI_mul, nI_sub', and_1, and_7, and_3', and_15]))
      · rintro I' L'' ⟨rfl, f, rfl, hf⟩
        refine xrun okX9_weigh hhX9_weigh [] 40 ?_
        have e : (nI (d.nA - d.nA) - nI 1) < 0 := by rw [Nat.sub_self]; decide
        (first | refine xbr_t e ?_ | refine xbr_f e ?_)
        refine hQ f ?_
        intro i hi g hg
        have h := hf (d.nA - i) (by omega) g hg
        rw [show d.nA - (d.nA - i) = i by omega] at h
        exact h
      · intro j hj g hg
        obtain rfl : j = 0 := by omega
        exact hf g hg
    refine xgo_eq loop ?_ rfl rfl
    refine xv_cons rfl (xv_cons rfl (xv_cons rfl (xv_cons rfl (xv_cons ?_ rfl))))
    rw [show xrw I 18 f 11 0 = nI d.nA from ha]
    rfl
