/-! THE REFERENCE, 4: what is asked of asses and loads; deeds -/
theorem tk_bit {d : PD} (hd : d.ok) (X w : Nat) : ∀ p, p ≤ 4 → ∀ i, i < p → coN d X w i = 0 ∨ tbB (tkN d X 27 w p).2 (coN d X w i - 1) = true
  | 0, _, i, hi => absurd hi (by omega)
  | p + 1, hp, i, hi => by
    rw [tk27_s d X w (show p < 4 by omega)]
    by_cases h0 : coN d X w p = 0
    · rw [if_pos h0]
      by_cases e : i = p
      · rw [e]
        exact Or.inl h0
      · exact tk_bit hd X w p (by omega) i (by omega)
    · rw [if_neg h0]
      show coN d X w i = 0 ∨ tbB ((tkN d X 27 w p).2 ||| 2 ^ (coN d X w p - 1)) (coN d X w i - 1) = true
      rw [tbB_bit, Nat.testBit_or, Nat.testBit_two_pow]
      by_cases e : i = p
      · rw [e]
        refine Or.inr ?_
        simp
      · rcases tk_bit hd X w p (by omega) i (by omega) with h | h
        · exact Or.inl h
        · rw [tbB_bit] at h
          rw [h]
          exact Or.inr rfl
theorem ffN_true {f : Nat → Bool} {m : Nat} : ∀ {k}, ffN f k = m + 1 → f m = true
  | 0, h => by cases h
  | k + 1, h => by
    rw [ffN_s] at h
    by_cases h0 : ffN f k = 0
    · rw [if_pos h0] at h
      cases hf : f k
      · rw [hf, if_neg (by decide)] at h
        cases h
      · rw [hf, if_pos rfl] at h
        obtain rfl : k = m := by omega
        exact hf
    · rw [if_neg h0] at h
      exact ffN_true h
theorem co_uni {d : PD} (hd : d.ok) {X w i j l : Nat} (hij : i < j) (hj : j < 4) (h1 : coN d X w i = l + 1) : ¬ coN d X w j = l + 1 := by
  intro h2
  have e : coN d X w j = if tbB w j then (chN d X j (tkN d X 27 w j).2 d.nL).1 else 0 := rfl
  rcases tk_bit hd X w j (by omega) i hij with h | h
  · omega
  · rw [h1, Nat.add_sub_cancel] at h
    cases hb : tbB w j
    · rw [hb, if_neg (by decide)] at e
      omega
    · rw [hb, if_pos rfl] at e
      rcases ch_free d X j (tkN d X 27 w j).2 d.nL with h3 | h3
      · omega
      · rw [← e, h2, Nat.add_sub_cancel, h] at h3
        cases h3
theorem ffN_ext {f : Nat → Bool} {n m : Nat} (h : n ≤ m) (h0 : ∀ i, n ≤ i → i < m → f i = false) : ffN f m = ffN f n := by
  obtain ⟨k, rfl⟩ : ∃ k, m = n + k := ⟨m - n, by omega⟩
  clear h
  induction k with
  | zero => rfl
  | succ k ih =>
    have ih := ih (fun i a b => h0 i a (by omega))
    show ffN f (n + k + 1) = _
    rw [ffN_s, h0 (n + k) (by omega) (by omega), ih]
    by_cases hz : ffN f n = 0
    · rw [if_pos hz, if_neg (by decide), hz]
    · rw [if_neg hz]
def tkC (d : PD) (X w l : Nat) : Nat → Bool := fun i => decide (coN d X w i = l + 1)
theorem tkr_ok {d : PD} (hd : d.ok) (X w l : Nat) : tkrN (tkN d X 27 w d.nA).1 l = ffN (tkC d X w l) d.nA := by
  have h4 := hd.a4
  show ffN (fun i => decide (getN (tkN d X 27 w d.nA).1 (3 * i) 3 = l + 1)) 4 = _
  rw [ffN_ext h4 (fun i a b => decide_eq_false (by
    rw [getN_big (Nat.lt_of_lt_of_le (tk27_lt hd X w d.nA h4) (Nat.pow_le_pow_right (by decide) (by omega)))]
    omega))]
  exact ffN_cong (fun i hi => by
    show _ = decide (coN d X w i = l + 1)
    rw [tk27_get hd X w d.nA h4 i hi])
theorem tkC_0 {d : PD} (hd : d.ok) {X w l k : Nat} (hk : k < 4) (h : coN d X w k = l + 1) : ffN (tkC d X w l) k = 0 := by
  cases e : ffN (tkC d X w l) k with
  | zero => rfl
  | succ m =>
    exfalso
    have hm : m < k := by
      have := ffN_le (tkC d X w l) k
      omega
    have hT := ffN_true e
    exact co_uni hd hm hk (of_decide_eq_true hT) h
theorem oa_03 {S : ST} {a : Nat} : oaI S.d S.D.X a 3 = cI (getN (tkN S.d S.D.X 27 15 S.d.nA).1 (3 * a) 3) := rfl
def csX11_ofAss : xCs := [(mX11_takesAll, sX11_takesAll)]
theorem okX11_ofAss : xOkM mX11_ofAss csX11_ofAss := ⟨dX11_ofAss, by decide +kernel, by decide +kernel, ⟨wdX11_31, wdX11_37, wdX11_37, wdX11_149, wdX11_40, trivial⟩⟩
theorem hhX11_ofAss : ∀ q ∈ csX11_ofAss, xHd q.1 := xall1 hX11_takesAll (xall0)
theorem kkX11_ofAss : ∀ q ∈ csX11_ofAss, ∀ l, xCon l q.1 q.2 := xall1 kX11_takesAll (xall0)
def sX11_ofAss : xSpec := xReg fun as I L Q => ∃ (S : ST) (a k : Nat), as = [.ref 27, .int (nI a), .int (nI k)] ∧ a < S.d.nA ∧ k < 4 ∧ Ref S I L ∧ (∀ I', scr I L I' L → Ref S I' L → Q (some (.int (oaI S.d S.D.X a k))) I' L)
set_option maxRecDepth 100000 in
theorem kX11_ofAss : ∀ l, xCon l mX11_ofAss sX11_ofAss := by
  refine xcon_of okX11_ofAss hX11_ofAss rfl (by decide) hhX11_ofAss kkX11_ofAss ?_
  rintro as n0 I L P Q ⟨rfl, rfl, S, a, k, rfl, ha, hk, hC, hQ⟩
  refine ⟨Nat.le_of_ble_eq_true rfl, ?_⟩
  have h4 := hC.pd.ok.a4
  refine xrun okX11_ofAss hhX11_ofAss [] 60 ?_
  have q0 := hQ I (scr_0 _ _) hC
  rcases (by omega : k = 0 ∨ k = 1 ∨ k = 2 ∨ k = 3) with rfl | rfl | rfl | rfl
  · repeat (first | (refine xbr_f ?_ ?_; (focus ((simp (disch := omega) only [ix_lt, ix_le, ix_eq, ix_0, nI_clamp, nI_toInt, ng_T, nI_add, nI_mul, nI_sub', Int.neg_zero, not_false_eq_true, not_true_eq_false, nI_add] <;> omega); done))) | (refine xbr_t ?_ ?_; (focus ((simp (disch := omega) only [ix_lt, ix_le, ix_eq, ix_0, nI_clamp, nI_toInt, ng_T, nI_add, nI_mul, nI_sub', Int.neg_zero, not_false_eq_true, not_true_eq_false, nI_add] <;> omega); done))) | refine ⟨Or.inl rfl, ?_⟩ | refine ⟨Or.inr rfl, ?_⟩ | (refine ⟨?_, ?_⟩; (focus ((try simp (disch := omega) only [nI_add, nI_mul, nI_add, nI_sub']); exact in_nI (by omega) (by omega)))))
    have e : oaI S.d S.D.X a 0 = I 35 (nI a).toNatClampNeg := by rw [nI_clamp (by omega), hC.pd.k a ha]; rfl
    rw [e] at q0
    exact q0
  · repeat (first | (refine xbr_f ?_ ?_; (focus ((simp (disch := omega) only [ix_lt, ix_le, ix_eq, ix_0, nI_clamp, nI_toInt, ng_T, nI_add, nI_mul, nI_sub', Int.neg_zero, not_false_eq_true, not_true_eq_false, nI_add] <;> omega); done))) | (refine xbr_t ?_ ?_; (focus ((simp (disch := omega) only [ix_lt, ix_le, ix_eq, ix_0, nI_clamp, nI_toInt, ng_T, nI_add, nI_mul, nI_sub', Int.neg_zero, not_false_eq_true, not_true_eq_false, nI_add] <;> omega); done))) | refine ⟨Or.inl rfl, ?_⟩ | refine ⟨Or.inr rfl, ?_⟩ | (refine ⟨?_, ?_⟩; (focus ((try simp (disch := omega) only [nI_add, nI_mul, nI_add, nI_sub']); exact in_nI (by omega) (by omega)))))
    have e : oaI S.d S.D.X a 1 = I 37 (nI 1 + nI a).toNatClampNeg := by rw [nI_add, nI_clamp (by omega), hC.nw.m ha]; rfl
    rw [e] at q0
    exact q0
  · repeat (first | (refine xbr_f ?_ ?_; (focus ((simp (disch := omega) only [ix_lt, ix_le, ix_eq, ix_0, nI_clamp, nI_toInt, ng_T, nI_add, nI_mul, nI_sub', Int.neg_zero, not_false_eq_true, not_true_eq_false, nI_add] <;> omega); done))) | (refine xbr_t ?_ ?_; (focus ((simp (disch := omega) only [ix_lt, ix_le, ix_eq, ix_0, nI_clamp, nI_toInt, ng_T, nI_add, nI_mul, nI_sub', Int.neg_zero, not_false_eq_true, not_true_eq_false, nI_add] <;> omega); done))) | refine ⟨Or.inl rfl, ?_⟩ | refine ⟨Or.inr rfl, ?_⟩ | (refine ⟨?_, ?_⟩; (focus ((try simp (disch := omega) only [nI_add, nI_mul, nI_add, nI_sub']); exact in_nI (by omega) (by omega)))))
    have e : oaI S.d S.D.X a 2 = I 37 (nI 5 + nI a).toNatClampNeg := by rw [nI_add, nI_clamp (by omega), hC.nw.i ha]; rfl
    rw [e] at q0
    exact q0
  · repeat (first | (refine xbr_f ?_ ?_; (focus ((simp (disch := omega) only [ix_lt, ix_le, ix_eq, ix_0, nI_clamp, nI_toInt, ng_T, nI_add, nI_mul, nI_sub', Int.neg_zero, not_false_eq_true, not_true_eq_false, nI_add] <;> omega); done))) | (refine xbr_t ?_ ?_; (focus ((simp (disch := omega) only [ix_lt, ix_le, ix_eq, ix_0, nI_clamp, nI_toInt, ng_T, nI_add, nI_mul, nI_sub', Int.neg_zero, not_false_eq_true, not_true_eq_false, nI_add] <;> omega); done))) | refine ⟨Or.inl rfl, ?_⟩ | refine ⟨Or.inr rfl, ?_⟩ | (refine ⟨?_, ?_⟩; (focus ((try simp (disch := omega) only [nI_add, nI_mul, nI_add, nI_sub']); exact in_nI (by omega) (by omega)))))
    refine ⟨rfl, rfl, S.d, S.D.X, _, 0, 15, rfl, hC.pd, hC.nw, by decide, fun i hi => tb15 i (by omega), fun f hf => ?_⟩
    have q1 := hQ _ (scr_W (k := 38) (by omega) I L f) (Ref_s hC (scr_W (k := 38) (by omega) I L f))
    repeat (first | (refine xbr_f ?_ ?_; (focus ((simp (disch := omega) only [ix_lt, ix_le, ix_eq, ix_0, nI_clamp, nI_toInt, ng_T, nI_add, nI_mul, nI_sub', Int.neg_zero, not_false_eq_true, not_true_eq_false, nI_add] <;> omega); done))) | (refine xbr_t ?_ ?_; (focus ((simp (disch := omega) only [ix_lt, ix_le, ix_eq, ix_0, nI_clamp, nI_toInt, ng_T, nI_add, nI_mul, nI_sub', Int.neg_zero, not_false_eq_true, not_true_eq_false, nI_add] <;> omega); done))) | refine ⟨Or.inl rfl, ?_⟩ | refine ⟨Or.inr rfl, ?_⟩ | (refine ⟨?_, ?_⟩; (focus ((try simp (disch := omega) only [nI_add, nI_mul, nI_add, nI_sub']); exact in_nI (by omega) (by omega)))))
    have e : oaI S.d S.D.X a 3 = xrw I 38 f 38 (nI a).toNatClampNeg := by rw [oa_03, tk27_get hC.pd.ok _ _ _ h4 a ha, nI_clamp (by omega), xrw_s, hf a ha]
    rw [e] at q1
    exact q1
