/-! THE REFERENCE, 4: what is asked of asses and loads; deeds -/
theorem tk_bit {d : PD} (hd : d.ok) (X w : Nat) : ∀ p, p ≤ 4 → ∀ i, i < p → coN d X w i = 0 ∨ tbB (tkN d X 27 w p).2 (coN d X w i - 1) = true
  | 0, _, i, hi => absurd hi (by omega)
  | p + 1, hp, i, hi => by
    rw [tk27_s d X w (show p < 4 by omega)]
    by_cases h0 : coN d X w p = 0
    · rw [if_pos h0]
      by_cases e : i = p
      · rw [e]
        exact Or.inl h0
      · exact tk_bit hd X w p (by omega) i (by omega)
    · rw [if_neg h0]
      show coN d X w i = 0 ∨ tbB ((tkN d X 27 w p).2 ||| 2 ^ (coN d X w p - 1)) (coN d X w i - 1) = true
      rw [tbB_bit, Nat.testBit_or, Nat.testBit_two_pow]
      by_cases e : i = p
      · rw [e]
        refine Or.inr ?_
        simp
      · rcases tk_bit hd X w p (by omega) i (by omega) with h | h
        · exact Or.inl h
        · rw [tbB_bit] at h
          rw [h]
          exact Or.inr rfl
theorem ffN_true {f : Nat → Bool} {m : Nat} : ∀ {k}, ffN f k = m + 1 → f m = true
  | 0, h => by cases h
  | k + 1, h => by
    rw [ffN_s] at h
    by_cases h0 : ffN f k = 0
    · rw [if_pos h0] at h
      cases hf : f k
      · rw [hf, if_neg (by decide)] at h
        cases h
      · rw [hf, if_pos rfl] at h
        obtain rfl : k = m := by omega
        exact hf
    · rw [if_neg h0] at h
      exact ffN_true h
theorem co_uni {d : PD} (hd : d.ok) {X w i j l : Nat} (hij : i < j) (hj : j < 4) (h1 : coN d X w i = l + 1) : ¬ coN d X w j = l + 1 := by
  intro h2
  have e : coN d X w j = if tbB w j then (chN d X j (tkN d X 27 w j).2 d.nL).1 else 0 := rfl
  rcases tk_bit hd X w j (by omega) i hij with h | h
  · omega
  · rw [h1, Nat.add_sub_cancel] at h
    cases hb : tbB w j
    · rw [hb, if_neg (by decide)] at e
      omega
    · rw [hb, if_pos rfl] at e
      rcases ch_free d X j (tkN d X 27 w j).2 d.nL with h3 | h3
      · omega
      · rw [← e, h2, Nat.add_sub_cancel, h] at h3
        cases h3
theorem ffN_ext {f : Nat → Bool} {n m : Nat} (h : n ≤ m) (h0 : ∀ i, n ≤ i → i < m → f i = false) : ffN f m = ffN f n := by
  obtain ⟨k, rfl⟩ : ∃ k, m = n + k := ⟨m - n, by omega⟩
  clear h
  induction k with
  | zero => rfl
  | succ k ih =>
    have ih := ih (fun i a b => h0 i a (by omega))
    show ffN f (n + k + 1) = _
    rw [ffN_s, h0 (n + k) (by omega) (by omega), ih, if_neg (by decide)]
    split
    · rename_i h
      exact h.symm
    · rfl
def tkC (d : PD) (X w l : Nat) : Nat → Bool := fun i => decide (coN d X w i = l + 1)
theorem tkr_ok {d : PD} (hd : d.ok) (X w l : Nat) : tkrN (tkN d X 27 w d.nA).1 l = ffN (tkC d X w l) d.nA := by
  have h4 := hd.a4
  show ffN (fun i => decide (getN (tkN d X 27 w d.nA).1 (3 * i) 3 = l + 1)) 4 = _
  rw [ffN_ext h4 (fun i a b => decide_eq_false (by
    rw [getN_big (Nat.lt_of_lt_of_le (tk27_lt hd X w d.nA h4) (Nat.pow_le_pow_right (by decide) (by omega)))]
    omega))]
  exact ffN_cong (fun i hi => by
    show _ = decide (coN d X w i = l + 1)
    rw [tk27_get hd X w d.nA h4 i hi])
theorem tkC_0 {d : PD} (hd : d.ok) {X w l k : Nat} (hk : k < 4) (h : coN d X w k = l + 1) : ffN (tkC d X w l) k = 0 := by
  cases e : ffN (tkC d X w l) k with
  | zero => rfl
  | succ m =>
    exfalso
    have hm : m < k := by
      have := ffN_le (tkC d X w l) k
      omega
    have hT := ffN_true e
    exact co_uni hd hm hk (of_decide_eq_true hT) h
theorem oa_03 {S : ST} {a : Nat} : oaI S.d S.D.X a 3 = cI (getN (tkN S.d S.D.X 27 15 S.d.nA).1 (3 * a) 3) := rfl
def csX11_ofAss : xCs := [(mX11_takesAll, sX11_takesAll)]
theorem okX11_ofAss : xOkM mX11_ofAss csX11_ofAss := ⟨dX11_ofAss, by decide +kernel, by decide +kernel, ⟨wdX11_31, wdX11_37, wdX11_37, wdX11_149, wdX11_40, trivial⟩⟩
theorem hhX11_ofAss : ∀ q ∈ csX11_ofAss, xHd q.1 := xall1 hX11_takesAll (xall0)
theorem kkX11_ofAss : ∀ q ∈ csX11_ofAss, ∀ l, xCon l q.1 q.2 := xall1 kX11_takesAll (xall0)
def sX11_ofAss : xSpec := xReg fun as I L Q => ∃ (S : ST) (a k : Nat), as = [.ref 27, .int (nI a), .int (nI k)] ∧ a < S.d.nA ∧ k < 4 ∧ Ref S I L ∧ (∀ I', scr I L I' L → Ref S I' L → Q (some (.int (oaI S.d S.D.X a k))) I' L)
set_option maxRecDepth 100000 in
theorem kX11_ofAss : ∀ l, xCon l mX11_ofAss sX11_ofAss := by
  refine xcon_of okX11_ofAss hX11_ofAss rfl (by decide) hhX11_ofAss kkX11_ofAss ?_
  rintro as n0 I L P Q ⟨rfl, rfl, S, a, k, rfl, ha, hk, hC, hQ⟩
  refine ⟨Nat.le_of_ble_eq_true rfl, ?_⟩
  have h4 := hC.pd.ok.a4
  refine xrun okX11_ofAss hhX11_ofAss [] 60 ?_
  have q0 := hQ I (scr_0 _ _) hC
  rcases (by omega : k = 0 ∨ k = 1 ∨ k = 2 ∨ k = 3) with rfl | rfl | rfl | rfl
  · repeat (first | (refine xbr_f ?_ ?_; (focus ((simp (disch := omega) only [ix_lt, ix_le, ix_eq, ix_0, nI_clamp, nI_toInt, ng_T, nI_add, nI_mul, nI_sub', Int.neg_zero, not_false_eq_true, not_true_eq_false, nI_add] <;> omega); done))) | (refine xbr_t ?_ ?_; (focus ((simp (disch := omega) only [ix_lt, ix_le, ix_eq, ix_0, nI_clamp, nI_toInt, ng_T, nI_add, nI_mul, nI_sub', Int.neg_zero, not_false_eq_true, not_true_eq_false, nI_add] <;> omega); done))) | refine ⟨Or.inl rfl, ?_⟩ | refine ⟨Or.inr rfl, ?_⟩ | (refine ⟨?_, ?_⟩; (focus ((try simp (disch := omega) only [nI_add, nI_mul, nI_add, nI_sub']); exact in_nI (by omega) (by omega)))))
    have e : oaI S.d S.D.X a 0 = I 35 (nI a).toNatClampNeg := by rw [nI_clamp (by omega), hC.pd.k a ha]; rfl
    rw [e] at q0
    exact q0
  · repeat (first | (refine xbr_f ?_ ?_; (focus ((simp (disch := omega) only [ix_lt, ix_le, ix_eq, ix_0, nI_clamp, nI_toInt, ng_T, nI_add, nI_mul, nI_sub', Int.neg_zero, not_false_eq_true, not_true_eq_false, nI_add] <;> omega); done))) | (refine xbr_t ?_ ?_; (focus ((simp (disch := omega) only [ix_lt, ix_le, ix_eq, ix_0, nI_clamp, nI_toInt, ng_T, nI_add, nI_mul, nI_sub', Int.neg_zero, not_false_eq_true, not_true_eq_false, nI_add] <;> omega); done))) | refine ⟨Or.inl rfl, ?_⟩ | refine ⟨Or.inr rfl, ?_⟩ | (refine ⟨?_, ?_⟩; (focus ((try simp (disch := omega) only [nI_add, nI_mul, nI_add, nI_sub']); exact in_nI (by omega) (by omega)))))
    have e : oaI S.d S.D.X a 1 = I 37 (nI 1 + nI a).toNatClampNeg := by rw [nI_add, nI_clamp (by omega), hC.nw.m ha]; rfl
    rw [e] at q0
    exact q0
  · repeat (first | (refine xbr_f ?_ ?_; (focus ((simp (disch := omega) only [ix_lt, ix_le, ix_eq, ix_0, nI_clamp, nI_toInt, ng_T, nI_add, nI_mul, nI_sub', Int.neg_zero, not_false_eq_true, not_true_eq_false, nI_add] <;> omega); done))) | (refine xbr_t ?_ ?_; (focus ((simp (disch := omega) only [ix_lt, ix_le, ix_eq, ix_0, nI_clamp, nI_toInt, ng_T, nI_add, nI_mul, nI_sub', Int.neg_zero, not_false_eq_true, not_true_eq_false, nI_add] <;> omega); done))) | refine ⟨Or.inl rfl, ?_⟩ | refine ⟨Or.inr rfl, ?_⟩ | (refine ⟨?_, ?_⟩; (focus ((try simp (disch := omega) only [nI_add, nI_mul, nI_add, nI_sub']); exact in_nI (by omega) (by omega)))))
    have e : oaI S.d S.D.X a 2 = I 37 (nI 5 + nI a).toNatClampNeg := by rw [nI_add, nI_clamp (by omega), hC.nw.i ha]; rfl
    rw [e] at q0
    exact q0
  · repeat (first | (refine xbr_f ?_ ?_; (focus ((simp (disch := omega) only [ix_lt, ix_le, ix_eq, ix_0, nI_clamp, nI_toInt, ng_T, nI_add, nI_mul, nI_sub', Int.neg_zero, not_false_eq_true, not_true_eq_false, nI_add] <;> omega); done))) | (refine xbr_t ?_ ?_; (focus ((simp (disch := omega) only [ix_lt, ix_le, ix_eq, ix_0, nI_clamp, nI_toInt, ng_T, nI_add, nI_mul, nI_sub', Int.neg_zero, not_false_eq_true, not_true_eq_false, nI_add] <;> omega); done))) | refine ⟨Or.inl rfl, ?_⟩ | refine ⟨Or.inr rfl, ?_⟩ | (refine ⟨?_, ?_⟩; (focus ((try simp (disch := omega) only [nI_add, nI_mul, nI_add, nI_sub']); exact in_nI (by omega) (by omega)))))
    refine ⟨rfl, rfl, S.d, S.D.X, _, 0, 15, rfl, hC.pd, hC.nw, by decide, fun i hi => tb15 i (by omega), fun f hf => ?_⟩
    have q1 := hQ _ (scr_W (by omega) I L f) (Ref_s hC (scr_W (by omega) I L f))
    repeat (first | (refine xbr_f ?_ ?_; (focus ((simp (disch := omega) only [ix_lt, ix_le, ix_eq, ix_0, nI_clamp, nI_toInt, ng_T, nI_add, nI_mul, nI_sub', Int.neg_zero, not_false_eq_true, not_true_eq_false, nI_add] <;> omega); done))) | (refine xbr_t ?_ ?_; (focus ((simp (disch := omega) only [ix_lt, ix_le, ix_eq, ix_0, nI_clamp, nI_toInt, ng_T, nI_add, nI_mul, nI_sub', Int.neg_zero, not_false_eq_true, not_true_eq_false, nI_add] <;> omega); done))) | refine ⟨Or.inl rfl, ?_⟩ | refine ⟨Or.inr rfl, ?_⟩ | (refine ⟨?_, ?_⟩; (focus ((try simp (disch := omega) only [nI_add, nI_mul, nI_add, nI_sub']); exact in_nI (by omega) (by omega)))))
    have e : oaI S.d S.D.X a 3 = xrw I 38 f 38 (nI a).toNatClampNeg := by rw [oa_03, tk27_get hC.pd.ok _ _ _ h4 a ha, nI_clamp (by omega), xrw_s, hf a ha]
    rw [e] at q1
    exact q1
def csX11_takerOf : xCs := [(mX11_takesAll, sX11_takesAll)]
theorem okX11_takerOf : xOkM mX11_takerOf csX11_takerOf := ⟨dX11_takerOf, by decide +kernel, by decide +kernel, ⟨wdX11_149, wdX11_118, wdX11_40, trivial⟩⟩
theorem hhX11_takerOf : ∀ q ∈ csX11_takerOf, xHd q.1 := xall1 hX11_takesAll (xall0)
theorem kkX11_takerOf : ∀ q ∈ csX11_takerOf, ∀ l, xCon l q.1 q.2 := xall1 kX11_takesAll (xall0)
def sX11_takerOf : xSpec := xReg fun as I L Q => ∃ (d : PD) (X c l : Nat), as = [.ref 27, .int (nI l)] ∧ pdR d I ∧ nwR d X c (I 37) ∧ l < 8 ∧ (∀ f, Q (some (.int (cI (tkrN (tkN d X 27 15 d.nA).1 l)))) (xrw I 38 f) L)
set_option maxRecDepth 100000 in
theorem kX11_takerOf : ∀ l, xCon l mX11_takerOf sX11_takerOf := by
  refine xcon_of okX11_takerOf hX11_takerOf rfl (by decide) hhX11_takerOf kkX11_takerOf ?_
  rintro as n0 I L P Q ⟨rfl, rfl, d, X, c, l, rfl, hP, hN, hl, hQ⟩
  refine ⟨Nat.le_of_ble_eq_true rfl, ?_⟩
  have ha := hP.a
  have h4 := hP.ok.a4
  refine xrun okX11_takerOf hhX11_takerOf [(11, [true, true, true, true])] 60 ?_
  refine ⟨rfl, rfl, d, X, c, 0, 15, rfl, hP, hN, by decide, fun i hi => tb15 i (by omega), fun f hf => ?_⟩
  have ha2 : xrw I 38 f 27 10 = nI d.nA := ha
  repeat (first | (refine xbr_f ?_ ?_; (focus ((simp (disch := omega) only [ix_lt, ix_le, ix_eq, ix_0, nI_clamp, nI_toInt, ng_T, nI_add, nI_mul, nI_sub', Int.neg_zero, not_false_eq_true, not_true_eq_false] <;> omega); done))) | (refine xbr_t ?_ ?_; (focus ((simp (disch := omega) only [ix_lt, ix_le, ix_eq, ix_0, nI_clamp, nI_toInt, ng_T, nI_add, nI_mul, nI_sub', Int.neg_zero, not_false_eq_true, not_true_eq_false] <;> omega); done))) | refine ⟨Or.inl rfl, ?_⟩ | refine ⟨Or.inr rfl, ?_⟩ | (refine ⟨?_, ?_⟩; (focus (exact in_nI (by omega) (by omega)))))
  refine xlp (M := mX11_takerOf) (cs := csX11_takerOf) (pc := 11) d.nA (fun k => [some (.ref 27), some (.int (nI l)), some (.int (cI (ffN (tkC d X 15 l) k))), some (.int (nI k))]) (fun _ => xrw I 38 f) (fun _ => L) ?_ ?_
  · intro k hk ih
    refine xrun okX11_takerOf hhX11_takerOf [(11, [true, true, true, true])] 60 ?_
    have hs := ffN_s (tkC d X 15 l) k
    have hT : xrw I 38 f 38 k = cI (coN d X 15 k) := by rw [xrw_s, hf k hk]
    have hcl := coN_le d X 15 k
    have h5 := hP.ok.l5
    repeat (first | (refine xbr_f ?_ ?_; (focus ((simp (disch := omega) only [ix_lt, ix_le, ix_eq, ix_0, nI_clamp, nI_toInt, ng_T, nI_add, nI_mul, nI_sub', Int.neg_zero, not_false_eq_true, not_true_eq_false, ha2, nI_add] <;> omega); done))) | (refine xbr_t ?_ ?_; (focus ((simp (disch := omega) only [ix_lt, ix_le, ix_eq, ix_0, nI_clamp, nI_toInt, ng_T, nI_add, nI_mul, nI_sub', Int.neg_zero, not_false_eq_true, not_true_eq_false, ha2, nI_add] <;> omega); done))) | refine ⟨Or.inl rfl, ?_⟩ | refine ⟨Or.inr rfl, ?_⟩ | (refine ⟨?_, ?_⟩; (focus ((try simp (disch := omega) only [ha2, nI_add, nI_mul, nI_add, nI_sub']); exact in_nI (by omega) (by omega)))))
    by_cases h : coN d X 15 k = l + 1
    · rw [tkC_0 hP.ok (by omega) h, if_pos rfl, if_pos (show tkC d X 15 l k = true from decide_eq_true h)] at hs
      rw [h, cI_s] at hT
      repeat (first | (refine xbr_f ?_ ?_; (focus ((simp (disch := omega) only [ix_lt, ix_le, ix_eq, ix_0, nI_clamp, nI_toInt, ng_T, nI_add, nI_mul, nI_sub', Int.neg_zero, not_false_eq_true, not_true_eq_false, hT] <;> omega); done))) | (refine xbr_t ?_ ?_; (focus ((simp (disch := omega) only [ix_lt, ix_le, ix_eq, ix_0, nI_clamp, nI_toInt, ng_T, nI_add, nI_mul, nI_sub', Int.neg_zero, not_false_eq_true, not_true_eq_false, hT] <;> omega); done))) | refine ⟨Or.inl rfl, ?_⟩ | refine ⟨Or.inr rfl, ?_⟩ | (refine ⟨?_, ?_⟩; (focus ((try simp (disch := omega) only [hT, nI_mul, nI_add, nI_sub']); exact in_nI (by omega) (by omega)))))
      refine xgo_eq ih ?_ rfl rfl
      rw [hs, cI_s]
      ((repeat' (first | (with_reducible rfl) | exact xv_nil | refine xv_cons ?_ ?_ | refine xv_i ?_ | refine xv_l ?_)) <;> (simp (disch := omega) only [↓reduceIte, Bool.false_eq_true, Nat.one_mul, Nat.zero_mul, Nat.or_zero, Nat.add_zero, Nat.zero_add, Bool.toNat_true, Bool.toNat_false, shl_n, shr_n, fa_and, fa_or, nx_xor, nI_add, nI_mul, nI_sub', and_1, and_7, and_3', and_15]))
    · have e : ffN (tkC d X 15 l) (k + 1) = ffN (tkC d X 15 l) k := by
        rw [hs, if_neg (show ¬ tkC d X 15 l k = true from fun q => h (of_decide_eq_true q))]
        split
        · rename_i h0
          exact h0.symm
        · rfl
      have hne : ¬ xrw I 38 f 38 (nI k).toNatClampNeg = nI l := by
        rw [nI_clamp (by omega), hT]
        rcases hco : coN d X 15 k with _ | m
        · rw [cI_0, ix_eq, ng_T (by decide), nI_toInt (by omega)]
          omega
        · rw [cI_s, ix_eq, nI_toInt (by omega), nI_toInt (by omega)]
          omega
      (first | refine xbr_t hne ?_ | refine xbr_f hne ?_)
      refine xgo_eq ih ?_ rfl rfl
      rw [e]
      ((repeat' (first | (with_reducible rfl) | exact xv_nil | refine xv_cons ?_ ?_ | refine xv_i ?_ | refine xv_l ?_)) <;> (simp (disch := omega) only [↓reduceIte, Bool.false_eq_true, Nat.one_mul, Nat.zero_mul, Nat.or_zero, Nat.add_zero, Nat.zero_add, Bool.toNat_true, Bool.toNat_false, shl_n, shr_n, fa_and, fa_or, nx_xor, nI_add, nI_mul, nI_sub', and_1, and_7, and_3', and_15]))
  · refine xrun okX11_takerOf hhX11_takerOf [] 60 ?_
    repeat (first | (refine xbr_f ?_ ?_; (focus ((simp (disch := omega) only [ix_lt, ix_le, ix_eq, ix_0, nI_clamp, nI_toInt, ng_T, nI_add, nI_mul, nI_sub', Int.neg_zero, not_false_eq_true, not_true_eq_false, ha2] <;> omega); done))) | (refine xbr_t ?_ ?_; (focus ((simp (disch := omega) only [ix_lt, ix_le, ix_eq, ix_0, nI_clamp, nI_toInt, ng_T, nI_add, nI_mul, nI_sub', Int.neg_zero, not_false_eq_true, not_true_eq_false, ha2] <;> omega); done))) | refine ⟨Or.inl rfl, ?_⟩ | refine ⟨Or.inr rfl, ?_⟩ | (refine ⟨?_, ?_⟩; (focus ((try simp (disch := omega) only [ha2, nI_mul, nI_add, nI_sub']); exact in_nI (by omega) (by omega)))))
    have hq := hQ f
    rw [tkr_ok hP.ok] at hq
    exact hq
def csX11_ofLoad : xCs := [(mX11_isHome, sX11_isHome), (mX11_takerOf, sX11_takerOf)]
theorem okX11_ofLoad : xOkM mX11_ofLoad csX11_ofLoad := ⟨dX11_ofLoad, by decide +kernel, by decide +kernel, ⟨wdX11_37, wdX11_37, wdX11_34, wdX11_139, wdX11_202, trivial⟩⟩
theorem hhX11_ofLoad : ∀ q ∈ csX11_ofLoad, xHd q.1 := xall1 hX11_isHome (xall1 hX11_takerOf (xall0))
theorem kkX11_ofLoad : ∀ q ∈ csX11_ofLoad, ∀ l, xCon l q.1 q.2 := xall1 kX11_isHome (xall1 kX11_takerOf (xall0))
def sX11_ofLoad : xSpec := xReg fun as I L Q => ∃ (S : ST) (a k : Nat), as = [.ref 27, .int (nI a), .int (nI k)] ∧ a < S.d.nL ∧ k < 5 ∧ Ref S I L ∧ (∀ I', scr I L I' L → Ref S I' L → Q (some (.int (olI S.d S.D.X a k))) I' L)
set_option maxRecDepth 100000 in
theorem kX11_ofLoad : ∀ l, xCon l mX11_ofLoad sX11_ofLoad := by
  refine xcon_of okX11_ofLoad hX11_ofLoad rfl (by decide) hhX11_ofLoad kkX11_ofLoad ?_
  rintro as n0 I L P Q ⟨rfl, rfl, S, a, k, rfl, ha, hk, hC, hQ⟩
  refine ⟨Nat.le_of_ble_eq_true rfl, ?_⟩
  have h5 := hC.pd.ok.l5
  refine xrun okX11_ofLoad hhX11_ofLoad [] 60 ?_
  have q0 := hQ I (scr_0 _ _) hC
  rcases (by omega : k = 0 ∨ k = 1 ∨ k = 2 ∨ k = 3 ∨ k = 4) with rfl | rfl | rfl | rfl | rfl
  · repeat (first | (refine xbr_f ?_ ?_; (focus ((simp (disch := omega) only [ix_lt, ix_le, ix_eq, ix_0, nI_clamp, nI_toInt, ng_T, nI_add, nI_mul, nI_sub', Int.neg_zero, not_false_eq_true, not_true_eq_false, nI_add] <;> omega); done))) | (refine xbr_t ?_ ?_; (focus ((simp (disch := omega) only [ix_lt, ix_le, ix_eq, ix_0, nI_clamp, nI_toInt, ng_T, nI_add, nI_mul, nI_sub', Int.neg_zero, not_false_eq_true, not_true_eq_false, nI_add] <;> omega); done))) | refine ⟨Or.inl rfl, ?_⟩ | refine ⟨Or.inr rfl, ?_⟩ | (refine ⟨?_, ?_⟩; (focus ((try simp (disch := omega) only [nI_add, nI_mul, nI_add, nI_sub']); exact in_nI (by omega) (by omega)))))
    have e : olI S.d S.D.X a 0 = I 37 (nI 9 + nI a).toNatClampNeg := by rw [nI_add, nI_clamp (by omega), hC.nw.k ha]; rfl
    rw [e] at q0
    exact q0
  · repeat (first | (refine xbr_f ?_ ?_; (focus ((simp (disch := omega) only [ix_lt, ix_le, ix_eq, ix_0, nI_clamp, nI_toInt, ng_T, nI_add, nI_mul, nI_sub', Int.neg_zero, not_false_eq_true, not_true_eq_false, nI_add] <;> omega); done))) | (refine xbr_t ?_ ?_; (focus ((simp (disch := omega) only [ix_lt, ix_le, ix_eq, ix_0, nI_clamp, nI_toInt, ng_T, nI_add, nI_mul, nI_sub', Int.neg_zero, not_false_eq_true, not_true_eq_false, nI_add] <;> omega); done))) | refine ⟨Or.inl rfl, ?_⟩ | refine ⟨Or.inr rfl, ?_⟩ | (refine ⟨?_, ?_⟩; (focus ((try simp (disch := omega) only [nI_add, nI_mul, nI_add, nI_sub']); exact in_nI (by omega) (by omega)))))
    have e : olI S.d S.D.X a 1 = I 37 (nI 14 + nI a).toNatClampNeg := by rw [nI_add, nI_clamp (by omega), hC.nw.p ha]; rfl
    rw [e] at q0
    exact q0
  · repeat (first | (refine xbr_f ?_ ?_; (focus ((simp (disch := omega) only [ix_lt, ix_le, ix_eq, ix_0, nI_clamp, nI_toInt, ng_T, nI_add, nI_mul, nI_sub', Int.neg_zero, not_false_eq_true, not_true_eq_false, nI_add] <;> omega); done))) | (refine xbr_t ?_ ?_; (focus ((simp (disch := omega) only [ix_lt, ix_le, ix_eq, ix_0, nI_clamp, nI_toInt, ng_T, nI_add, nI_mul, nI_sub', Int.neg_zero, not_false_eq_true, not_true_eq_false, nI_add] <;> omega); done))) | refine ⟨Or.inl rfl, ?_⟩ | refine ⟨Or.inr rfl, ?_⟩ | (refine ⟨?_, ?_⟩; (focus ((try simp (disch := omega) only [nI_add, nI_mul, nI_add, nI_sub']); exact in_nI (by omega) (by omega)))))
    have e : olI S.d S.D.X a 2 = I 36 (nI a).toNatClampNeg := by rw [nI_clamp (by omega), hC.pd.h a ha]; rfl
    rw [e] at q0
    exact q0
  · repeat (first | (refine xbr_f ?_ ?_; (focus ((simp (disch := omega) only [ix_lt, ix_le, ix_eq, ix_0, nI_clamp, nI_toInt, ng_T, nI_add, nI_mul, nI_sub', Int.neg_zero, not_false_eq_true, not_true_eq_false, nI_add] <;> omega); done))) | (refine xbr_t ?_ ?_; (focus ((simp (disch := omega) only [ix_lt, ix_le, ix_eq, ix_0, nI_clamp, nI_toInt, ng_T, nI_add, nI_mul, nI_sub', Int.neg_zero, not_false_eq_true, not_true_eq_false, nI_add] <;> omega); done))) | refine ⟨Or.inl rfl, ?_⟩ | refine ⟨Or.inr rfl, ?_⟩ | (refine ⟨?_, ?_⟩; (focus ((try simp (disch := omega) only [nI_add, nI_mul, nI_add, nI_sub']); exact in_nI (by omega) (by omega)))))
    refine ⟨rfl, rfl, S.d, S.D.X, _, a, rfl, hC.pd, hC.nw, ha, ?_⟩
    have e : olI S.d S.D.X a 3 = bI (hmB S.d S.D.X a) := rfl
    rw [e] at q0
    cases hb : hmB S.d S.D.X a
    · rw [hb] at q0
      (first | refine xbr_t (by decide) ?_ | refine xbr_f (by decide) ?_)
      exact q0
    · rw [hb] at q0
      (first | refine xbr_t (by decide) ?_ | refine xbr_f (by decide) ?_)
      exact q0
  · repeat (first | (refine xbr_f ?_ ?_; (focus ((simp (disch := omega) only [ix_lt, ix_le, ix_eq, ix_0, nI_clamp, nI_toInt, ng_T, nI_add, nI_mul, nI_sub', Int.neg_zero, not_false_eq_true, not_true_eq_false, nI_add] <;> omega); done))) | (refine xbr_t ?_ ?_; (focus ((simp (disch := omega) only [ix_lt, ix_le, ix_eq, ix_0, nI_clamp, nI_toInt, ng_T, nI_add, nI_mul, nI_sub', Int.neg_zero, not_false_eq_true, not_true_eq_false, nI_add] <;> omega); done))) | refine ⟨Or.inl rfl, ?_⟩ | refine ⟨Or.inr rfl, ?_⟩ | (refine ⟨?_, ?_⟩; (focus ((try simp (disch := omega) only [nI_add, nI_mul, nI_add, nI_sub']); exact in_nI (by omega) (by omega)))))
    refine ⟨rfl, rfl, S.d, S.D.X, _, a, rfl, hC.pd, hC.nw, by omega, fun f => ?_⟩
    exact hQ _ (scr_W (by omega) I L f) (Ref_s hC (scr_W (by omega) I L f))
def csX11_ass : xCs := [(mX11_isAss, sX11_isAss), (mX11_in, sX11_in), (mX11_ofAss, sX11_ofAss), (mX11_tells, sX11_tells)]
theorem okX11_ass : xOkM mX11_ass csX11_ass := ⟨dX11_ass, by decide +kernel, by decide +kernel, ⟨wdX11_205, wdX11_94, wdX11_90, wdX11_208, wdX11_112, trivial⟩⟩
theorem hhX11_ass : ∀ q ∈ csX11_ass, xHd q.1 := xall1 hX11_isAss (xall1 hX11_in (xall1 hX11_ofAss (xall1 hX11_tells (xall0))))
theorem kkX11_ass : ∀ q ∈ csX11_ass, ∀ l, xCon l q.1 q.2 := xall1 kX11_isAss (xall1 kX11_in (xall1 kX11_ofAss (xall1 kX11_tells (xall0))))
def sX11_ass : xSpec := xReg fun as I L Q => ∃ (S : ST) (i w o : Int32) (S' : ST), as = [.ref 27, .int i, .int w] ∧ assR S i w o S' ∧ Ref S I L ∧ (∀ I' L', frM I L I' L' → Ref S' I' L' → Q (some (.int o)) I' L')
set_option maxRecDepth 100000 in
theorem kX11_ass : ∀ l, xCon l mX11_ass sX11_ass := by
  refine xcon_of okX11_ass hX11_ass rfl (by decide) hhX11_ass kkX11_ass ?_
  rintro as n0 I L P Q ⟨rfl, rfl, S, i, w, o, S', rfl, hR, hC, hQ⟩
  refine ⟨Nat.le_of_ble_eq_true rfl, ?_⟩
  have h4 := hC.pd.ok.a4
  refine xrun okX11_ass hhX11_ass [] 60 ?_
  refine ⟨rfl, rfl, S.d, i, rfl, hC.pd, ?_⟩
  rcases hR with ⟨h, rfl, rfl⟩ | ⟨a, k, rfl, ha, rfl, hk, rfl, rfl⟩
  · have done := hQ _ _ (frM_0 _ _) hC
    cases hb : ibB i S.d.nA
    · (first | refine xbr_t (by decide) ?_ | refine xbr_f (by decide) ?_)
      exact done
    · (first | refine xbr_t (by decide) ?_ | refine xbr_f (by decide) ?_)
      refine ⟨rfl, rfl, _, _, _, w, nI 0, nI 3, rfl, rfl, by decide, by decide, ?_⟩
      rw [in_c (by decide)]
      cases hw : ibB w 4
      · (first | refine xbr_t (by decide) ?_ | refine xbr_f (by decide) ?_)
        exact done
      · exact absurd ⟨hb, hw⟩ h
  · rw [ib_tt ha (by omega)]
    (first | refine xbr_t (by decide) ?_ | refine xbr_f (by decide) ?_)
    refine ⟨rfl, rfl, _, _, _, nI k, nI 0, nI 3, rfl, rfl, by decide, by decide, ?_⟩
    rw [in_c (by decide), ib_tt hk (by decide)]
    (first | refine xbr_t (by decide) ?_ | refine xbr_f (by decide) ?_)
    refine ⟨rfl, rfl, S, a, k, rfl, ha, hk, hC, fun I1 hs1 hC1 => ?_⟩
    exact ⟨rfl, rfl, S, _, rfl, hC1, fun I' hf hC' => hQ _ _ (frM_t (scr_fr hs1) hf) hC'⟩
def csX11_load : xCs := [(mX11_isLoad, sX11_isLoad), (mX11_in, sX11_in), (mX11_ofLoad, sX11_ofLoad), (mX11_tells, sX11_tells)]
theorem okX11_load : xOkM mX11_load csX11_load := ⟨dX11_load, by decide +kernel, by decide +kernel, ⟨wdX11_211, wdX11_214, wdX11_90, wdX11_216, wdX11_112, trivial⟩⟩
theorem hhX11_load : ∀ q ∈ csX11_load, xHd q.1 := xall1 hX11_isLoad (xall1 hX11_in (xall1 hX11_ofLoad (xall1 hX11_tells (xall0))))
theorem kkX11_load : ∀ q ∈ csX11_load, ∀ l, xCon l q.1 q.2 := xall1 kX11_isLoad (xall1 kX11_in (xall1 kX11_ofLoad (xall1 kX11_tells (xall0))))
def sX11_load : xSpec := xReg fun as I L Q => ∃ (S : ST) (i w o : Int32) (S' : ST), as = [.ref 27, .int i, .int w] ∧ loadR S i w o S' ∧ Ref S I L ∧ (∀ I' L', frM I L I' L' → Ref S' I' L' → Q (some (.int o)) I' L')
set_option maxRecDepth 100000 in
theorem kX11_load : ∀ l, xCon l mX11_load sX11_load := by
  refine xcon_of okX11_load hX11_load rfl (by decide) hhX11_load kkX11_load ?_
  rintro as n0 I L P Q ⟨rfl, rfl, S, i, w, o, S', rfl, hR, hC, hQ⟩
  refine ⟨Nat.le_of_ble_eq_true rfl, ?_⟩
  have h5 := hC.pd.ok.l5
  refine xrun okX11_load hhX11_load [] 60 ?_
  refine ⟨rfl, rfl, S.d, i, rfl, hC.pd, ?_⟩
  rcases hR with ⟨h, rfl, rfl⟩ | ⟨a, k, rfl, ha, rfl, hk, rfl, rfl⟩
  · have done := hQ _ _ (frM_0 _ _) hC
    cases hb : ibB i S.d.nL
    · (first | refine xbr_t (by decide) ?_ | refine xbr_f (by decide) ?_)
      exact done
    · (first | refine xbr_t (by decide) ?_ | refine xbr_f (by decide) ?_)
      refine ⟨rfl, rfl, _, _, _, w, nI 0, nI 4, rfl, rfl, by decide, by decide, ?_⟩
      rw [in_c (by decide)]
      cases hw : ibB w 5
      · (first | refine xbr_t (by decide) ?_ | refine xbr_f (by decide) ?_)
        exact done
      · exact absurd ⟨hb, hw⟩ h
  · rw [ib_tt ha (by omega)]
    (first | refine xbr_t (by decide) ?_ | refine xbr_f (by decide) ?_)
    refine ⟨rfl, rfl, _, _, _, nI k, nI 0, nI 4, rfl, rfl, by decide, by decide, ?_⟩
    rw [in_c (by decide), ib_tt hk (by decide)]
    (first | refine xbr_t (by decide) ?_ | refine xbr_f (by decide) ?_)
    refine ⟨rfl, rfl, S, a, k, rfl, ha, hk, hC, fun I1 hs1 hC1 => ?_⟩
    exact ⟨rfl, rfl, S, _, rfl, hC1, fun I' hf hC' => hQ _ _ (frM_t (scr_fr hs1) hf) hC'⟩
def csX11_isA : xCs := []
theorem okX11_isA : xOkM mX11_isA csX11_isA := ⟨dX11_isA, by decide +kernel, by decide +kernel, trivial⟩
theorem hhX11_isA : ∀ q ∈ csX11_isA, xHd q.1 := xall0
theorem kkX11_isA : ∀ q ∈ csX11_isA, ∀ l, xCon l q.1 q.2 := xall0
def sX11_isA : xSpec := xReg fun as I L Q => ∃ (k w : Nat), as = [.int (nI k), .int (nI w)] ∧ k < 8 ∧ w < 8 ∧ 0 < w ∧ Q (some (.int (bI (isN k w)))) I L
set_option maxRecDepth 100000 in
theorem kX11_isA : ∀ l, xCon l mX11_isA sX11_isA := by
  refine xcon_of okX11_isA hX11_isA rfl (by decide) hhX11_isA kkX11_isA ?_
  rintro as n0 I L P Q ⟨rfl, rfl, k, w, rfl, hk, hw, h0, hQ⟩
  refine ⟨Nat.le_of_ble_eq_true rfl, ?_⟩
  refine xrun okX11_isA hhX11_isA [] 60 ?_
  unfold isN at hQ
  by_cases h1 : k = w
  · rw [decide_eq_true (by omega)] at hQ
    repeat (first | (refine xbr_f ?_ ?_; (focus ((simp (disch := omega) only [ix_lt, ix_le, ix_eq, ix_0, nI_clamp, nI_toInt, ng_T, nI_add, nI_mul, nI_sub', Int.neg_zero, not_false_eq_true, not_true_eq_false] <;> omega); done))) | (refine xbr_t ?_ ?_; (focus ((simp (disch := omega) only [ix_lt, ix_le, ix_eq, ix_0, nI_clamp, nI_toInt, ng_T, nI_add, nI_mul, nI_sub', Int.neg_zero, not_false_eq_true, not_true_eq_false] <;> omega); done))) | refine ⟨Or.inl rfl, ?_⟩ | refine ⟨Or.inr rfl, ?_⟩ | (refine ⟨?_, ?_⟩; (focus (exact in_nI (by omega) (by omega)))))
    exact hQ
  · by_cases h2 : k = 4
    · by_cases h3 : w = 1
      · rw [decide_eq_true (by omega)] at hQ
        repeat (first | (refine xbr_f ?_ ?_; (focus ((simp (disch := omega) only [ix_lt, ix_le, ix_eq, ix_0, nI_clamp, nI_toInt, ng_T, nI_add, nI_mul, nI_sub', Int.neg_zero, not_false_eq_true, not_true_eq_false] <;> omega); done))) | (refine xbr_t ?_ ?_; (focus ((simp (disch := omega) only [ix_lt, ix_le, ix_eq, ix_0, nI_clamp, nI_toInt, ng_T, nI_add, nI_mul, nI_sub', Int.neg_zero, not_false_eq_true, not_true_eq_false] <;> omega); done))) | refine ⟨Or.inl rfl, ?_⟩ | refine ⟨Or.inr rfl, ?_⟩ | (refine ⟨?_, ?_⟩; (focus (exact in_nI (by omega) (by omega)))))
        exact hQ
      · rw [decide_eq_false (by omega)] at hQ
        repeat (first | (refine xbr_f ?_ ?_; (focus ((simp (disch := omega) only [ix_lt, ix_le, ix_eq, ix_0, nI_clamp, nI_toInt, ng_T, nI_add, nI_mul, nI_sub', Int.neg_zero, not_false_eq_true, not_true_eq_false] <;> omega); done))) | (refine xbr_t ?_ ?_; (focus ((simp (disch := omega) only [ix_lt, ix_le, ix_eq, ix_0, nI_clamp, nI_toInt, ng_T, nI_add, nI_mul, nI_sub', Int.neg_zero, not_false_eq_true, not_true_eq_false] <;> omega); done))) | refine ⟨Or.inl rfl, ?_⟩ | refine ⟨Or.inr rfl, ?_⟩ | (refine ⟨?_, ?_⟩; (focus (exact in_nI (by omega) (by omega)))))
        exact hQ
    · by_cases h3 : k = 5
      · by_cases h5 : w = 3
        · rw [decide_eq_true (by omega)] at hQ
          repeat (first | (refine xbr_f ?_ ?_; (focus ((simp (disch := omega) only [ix_lt, ix_le, ix_eq, ix_0, nI_clamp, nI_toInt, ng_T, nI_add, nI_mul, nI_sub', Int.neg_zero, not_false_eq_true, not_true_eq_false] <;> omega); done))) | (refine xbr_t ?_ ?_; (focus ((simp (disch := omega) only [ix_lt, ix_le, ix_eq, ix_0, nI_clamp, nI_toInt, ng_T, nI_add, nI_mul, nI_sub', Int.neg_zero, not_false_eq_true, not_true_eq_false] <;> omega); done))) | refine ⟨Or.inl rfl, ?_⟩ | refine ⟨Or.inr rfl, ?_⟩ | (refine ⟨?_, ?_⟩; (focus (exact in_nI (by omega) (by omega)))))
          exact hQ
        · rw [decide_eq_false (by omega)] at hQ
          repeat (first | (refine xbr_f ?_ ?_; (focus ((simp (disch := omega) only [ix_lt, ix_le, ix_eq, ix_0, nI_clamp, nI_toInt, ng_T, nI_add, nI_mul, nI_sub', Int.neg_zero, not_false_eq_true, not_true_eq_false] <;> omega); done))) | (refine xbr_t ?_ ?_; (focus ((simp (disch := omega) only [ix_lt, ix_le, ix_eq, ix_0, nI_clamp, nI_toInt, ng_T, nI_add, nI_mul, nI_sub', Int.neg_zero, not_false_eq_true, not_true_eq_false] <;> omega); done))) | refine ⟨Or.inl rfl, ?_⟩ | refine ⟨Or.inr rfl, ?_⟩ | (refine ⟨?_, ?_⟩; (focus (exact in_nI (by omega) (by omega)))))
          exact hQ
      · rw [decide_eq_false (by omega)] at hQ
        repeat (first | (refine xbr_f ?_ ?_; (focus ((simp (disch := omega) only [ix_lt, ix_le, ix_eq, ix_0, nI_clamp, nI_toInt, ng_T, nI_add, nI_mul, nI_sub', Int.neg_zero, not_false_eq_true, not_true_eq_false] <;> omega); done))) | (refine xbr_t ?_ ?_; (focus ((simp (disch := omega) only [ix_lt, ix_le, ix_eq, ix_0, nI_clamp, nI_toInt, ng_T, nI_add, nI_mul, nI_sub', Int.neg_zero, not_false_eq_true, not_true_eq_false] <;> omega); done))) | refine ⟨Or.inl rfl, ?_⟩ | refine ⟨Or.inr rfl, ?_⟩ | (refine ⟨?_, ?_⟩; (focus (exact in_nI (by omega) (by omega)))))
        exact hQ
def csX11_marksOf : xCs := [(mX11_likeTo, sX11_likeTo), (mX11_refuses, sX11_refuses), (mX11_many, sX11_many)]
theorem okX11_marksOf : xOkM mX11_marksOf csX11_marksOf := ⟨dX11_marksOf, by decide +kernel, by decide +kernel, ⟨wdX11_121, wdX11_136, wdX11_136, wdX11_37, wdX11_37, wdX11_142, wdX11_37, wdX11_126, trivial⟩⟩
theorem hhX11_marksOf : ∀ q ∈ csX11_marksOf, xHd q.1 := xall1 hX11_likeTo (xall1 hX11_refuses (xall1 hX11_many (xall0)))
theorem kkX11_marksOf : ∀ q ∈ csX11_marksOf, ∀ l, xCon l q.1 q.2 := xall1 kX11_likeTo (xall1 kX11_refuses (xall1 kX11_many (xall0)))
def sX11_marksOf : xSpec := xReg fun as I L Q => ∃ (d : PD) (X c a k : Nat), as = [.ref 27, .int (nI a), .int (nI k)] ∧ pdR d I ∧ nwR d X c (I 37) ∧ a < d.nA ∧ 0 < k ∧ k < 6 ∧ Q (some (.int (nI (mqN d X a k)))) I L
set_option maxRecDepth 100000 in
theorem kX11_marksOf : ∀ l, xCon l mX11_marksOf sX11_marksOf := by
  refine xcon_of okX11_marksOf hX11_marksOf rfl (by decide) hhX11_marksOf kkX11_marksOf ?_
  rintro as n0 I L P Q ⟨rfl, rfl, d, X, c, a, k, rfl, hP, hN, ha, hk0, hk, hQ⟩
  refine ⟨Nat.le_of_ble_eq_true rfl, ?_⟩
  have hl := hP.l
  have h4 := hP.ok.a4
  have h5 := hP.ok.l5
  have e0 := hN.m ha
  have m16 := meN_16 X a
  refine xrun okX11_marksOf hhX11_marksOf [(11, [true, true, true, true, true, true, true])] 60 ?_
  refine xlp (M := mX11_marksOf) (cs := csX11_marksOf) (pc := 11) d.nL (fun l => [some (.ref 27), some (.int (nI a)), some (.int (nI k)), some (.int (nI (mxN (fun l => lkN (kdN d a) (meN X a) (mkN X l)) l))), some (.int (nI (cnN (fun l => decide (mkN X l = meN X a)) l))), some (.int (nI (cnN (fun l => !wtB d X a (mkN X l)) l))), some (.int (nI l))]) (fun _ => I) (fun _ => L) ?_ ?_
  · intro l hl2 ih
    refine xrun okX11_marksOf hhX11_marksOf [(11, [true, true, true, true, true, true, true])] 90 ?_
    have e1 := hN.k hl2
    have k16 := mkN_16 X l
    have h1 := lkN_le (k := kdN d a) (x := mkN X l) (meN_16 X a)
    have h2 := mxN_le (f := fun l => lkN (kdN d a) (meN X a) (mkN X l)) (b := 8) (fun l => lkN_le (meN_16 X a)) l
    have hm : mxN (fun l => lkN (kdN d a) (meN X a) (mkN X l)) (l + 1) = if mxN (fun l => lkN (kdN d a) (meN X a) (mkN X l)) l < lkN (kdN d a) (meN X a) (mkN X l) then lkN (kdN d a) (meN X a) (mkN X l) else mxN (fun l => lkN (kdN d a) (meN X a) (mkN X l)) l := rfl
    (first | (refine xbr_f ?_ ?_; (focus ((simp (disch := omega) only [ix_lt, ix_le, ix_eq, ix_0, nI_clamp, nI_toInt, ng_T, nI_add, nI_mul, nI_sub', Int.neg_zero, not_false_eq_true, not_true_eq_false, hl] <;> omega); done))) | (refine xbr_t ?_ ?_; (focus ((simp (disch := omega) only [ix_lt, ix_le, ix_eq, ix_0, nI_clamp, nI_toInt, ng_T, nI_add, nI_mul, nI_sub', Int.neg_zero, not_false_eq_true, not_true_eq_false, hl] <;> omega); done))) | refine ⟨Or.inl rfl, ?_⟩ | refine ⟨Or.inr rfl, ?_⟩ | (refine ⟨?_, ?_⟩; (focus ((try simp (disch := omega) only [hl, nI_mul, nI_add, nI_sub']); exact in_nI (by omega) (by omega)))))
    refine ⟨rfl, rfl, d, X, c, a, l, rfl, hP, hN, ha, hl2, ?_⟩
    by_cases hlt : mxN (fun l => lkN (kdN d a) (meN X a) (mkN X l)) l < lkN (kdN d a) (meN X a) (mkN X l)
    · rw [if_pos hlt] at hm
      (first | (refine xbr_f ?_ ?_; (focus ((simp (disch := omega) only [ix_lt, ix_le, ix_eq, ix_0, nI_clamp, nI_toInt, ng_T, nI_add, nI_mul, nI_sub', Int.neg_zero, not_false_eq_true, not_true_eq_false] <;> omega); done))) | (refine xbr_t ?_ ?_; (focus ((simp (disch := omega) only [ix_lt, ix_le, ix_eq, ix_0, nI_clamp, nI_toInt, ng_T, nI_add, nI_mul, nI_sub', Int.neg_zero, not_false_eq_true, not_true_eq_false] <;> omega); done))) | refine ⟨Or.inl rfl, ?_⟩ | refine ⟨Or.inr rfl, ?_⟩ | (refine ⟨?_, ?_⟩; (focus (exact in_nI (by omega) (by omega)))))
      refine ⟨rfl, rfl, d, X, c, a, l, rfl, hP, hN, ha, hl2, ?_⟩
      repeat (first | (refine xbr_f ?_ ?_; (focus ((simp (disch := omega) only [ix_lt, ix_le, ix_eq, ix_0, nI_clamp, nI_toInt, ng_T, nI_add, nI_mul, nI_sub', Int.neg_zero, not_false_eq_true, not_true_eq_false, nI_add] <;> omega); done))) | (refine xbr_t ?_ ?_; (focus ((simp (disch := omega) only [ix_lt, ix_le, ix_eq, ix_0, nI_clamp, nI_toInt, ng_T, nI_add, nI_mul, nI_sub', Int.neg_zero, not_false_eq_true, not_true_eq_false, nI_add] <;> omega); done))) | refine ⟨Or.inl rfl, ?_⟩ | refine ⟨Or.inr rfl, ?_⟩ | (refine ⟨?_, ?_⟩; (focus ((try simp (disch := omega) only [nI_add, nI_mul, nI_add, nI_sub']); exact in_nI (by omega) (by omega)))))
      by_cases hd : mkN X l = meN X a
      · have hdd := decide_eq_true hd
        (first | (refine xbr_f ?_ ?_; (focus ((simp (disch := omega) only [ix_lt, ix_le, ix_eq, ix_0, nI_clamp, nI_toInt, ng_T, nI_add, nI_mul, nI_sub', Int.neg_zero, not_false_eq_true, not_true_eq_false, e0, e1, nI_add] <;> omega); done))) | (refine xbr_t ?_ ?_; (focus ((simp (disch := omega) only [ix_lt, ix_le, ix_eq, ix_0, nI_clamp, nI_toInt, ng_T, nI_add, nI_mul, nI_sub', Int.neg_zero, not_false_eq_true, not_true_eq_false, e0, e1, nI_add] <;> omega); done))) | refine ⟨Or.inl rfl, ?_⟩ | refine ⟨Or.inr rfl, ?_⟩ | (refine ⟨?_, ?_⟩; (focus ((try simp (disch := omega) only [e0, e1, nI_add, nI_mul, nI_add, nI_sub']); exact in_nI (by omega) (by omega)))))
        refine ⟨rfl, rfl, d, X, c, a, l, rfl, hP, hN, ha, hl2, ?_⟩
        cases hw : wtB d X a (mkN X l) <;> (
          (first | refine xbr_t (by decide) ?_ | refine xbr_f (by decide) ?_)
          refine xgo_eq ih ?_ rfl rfl
          rw [hm]
          ((repeat' (first | (with_reducible rfl) | exact xv_nil | refine xv_cons ?_ ?_ | refine xv_i ?_ | refine xv_l ?_)) <;> (simp (disch := omega) only [↓reduceIte, Bool.false_eq_true, Nat.one_mul, Nat.zero_mul, Nat.or_zero, Nat.add_zero, Nat.zero_add, Bool.toNat_true, Bool.toNat_false, shl_n, shr_n, fa_and, fa_or, nx_xor, nI_add, nI_mul, nI_sub', and_1, and_7, and_3', and_15, cnN, hdd, hw, Bool.not_true, Bool.not_false])))
      · have hdd := decide_eq_false hd
        (first | (refine xbr_f ?_ ?_; (focus ((simp (disch := omega) only [ix_lt, ix_le, ix_eq, ix_0, nI_clamp, nI_toInt, ng_T, nI_add, nI_mul, nI_sub', Int.neg_zero, not_false_eq_true, not_true_eq_false, e0, e1, nI_add] <;> omega); done))) | (refine xbr_t ?_ ?_; (focus ((simp (disch := omega) only [ix_lt, ix_le, ix_eq, ix_0, nI_clamp, nI_toInt, ng_T, nI_add, nI_mul, nI_sub', Int.neg_zero, not_false_eq_true, not_true_eq_false, e0, e1, nI_add] <;> omega); done))) | refine ⟨Or.inl rfl, ?_⟩ | refine ⟨Or.inr rfl, ?_⟩ | (refine ⟨?_, ?_⟩; (focus ((try simp (disch := omega) only [e0, e1, nI_add, nI_mul, nI_add, nI_sub']); exact in_nI (by omega) (by omega)))))
        refine ⟨rfl, rfl, d, X, c, a, l, rfl, hP, hN, ha, hl2, ?_⟩
        cases hw : wtB d X a (mkN X l) <;> (
          (first | refine xbr_t (by decide) ?_ | refine xbr_f (by decide) ?_)
          refine xgo_eq ih ?_ rfl rfl
          rw [hm]
          ((repeat' (first | (with_reducible rfl) | exact xv_nil | refine xv_cons ?_ ?_ | refine xv_i ?_ | refine xv_l ?_)) <;> (simp (disch := omega) only [↓reduceIte, Bool.false_eq_true, Nat.one_mul, Nat.zero_mul, Nat.or_zero, Nat.add_zero, Nat.zero_add, Bool.toNat_true, Bool.toNat_false, shl_n, shr_n, fa_and, fa_or, nx_xor, nI_add, nI_mul, nI_sub', and_1, and_7, and_3', and_15, cnN, hdd, hw, Bool.not_true, Bool.not_false])))
    · rw [if_neg hlt] at hm
      (first | (refine xbr_f ?_ ?_; (focus ((simp (disch := omega) only [ix_lt, ix_le, ix_eq, ix_0, nI_clamp, nI_toInt, ng_T, nI_add, nI_mul, nI_sub', Int.neg_zero, not_false_eq_true, not_true_eq_false] <;> omega); done))) | (refine xbr_t ?_ ?_; (focus ((simp (disch := omega) only [ix_lt, ix_le, ix_eq, ix_0, nI_clamp, nI_toInt, ng_T, nI_add, nI_mul, nI_sub', Int.neg_zero, not_false_eq_true, not_true_eq_false] <;> omega); done))) | refine ⟨Or.inl rfl, ?_⟩ | refine ⟨Or.inr rfl, ?_⟩ | (refine ⟨?_, ?_⟩; (focus (exact in_nI (by omega) (by omega)))))
      repeat (first | (refine xbr_f ?_ ?_; (focus ((simp (disch := omega) only [ix_lt, ix_le, ix_eq, ix_0, nI_clamp, nI_toInt, ng_T, nI_add, nI_mul, nI_sub', Int.neg_zero, not_false_eq_true, not_true_eq_false, nI_add] <;> omega); done))) | (refine xbr_t ?_ ?_; (focus ((simp (disch := omega) only [ix_lt, ix_le, ix_eq, ix_0, nI_clamp, nI_toInt, ng_T, nI_add, nI_mul, nI_sub', Int.neg_zero, not_false_eq_true, not_true_eq_false, nI_add] <;> omega); done))) | refine ⟨Or.inl rfl, ?_⟩ | refine ⟨Or.inr rfl, ?_⟩ | (refine ⟨?_, ?_⟩; (focus ((try simp (disch := omega) only [nI_add, nI_mul, nI_add, nI_sub']); exact in_nI (by omega) (by omega)))))
      by_cases hd : mkN X l = meN X a
      · have hdd := decide_eq_true hd
        (first | (refine xbr_f ?_ ?_; (focus ((simp (disch := omega) only [ix_lt, ix_le, ix_eq, ix_0, nI_clamp, nI_toInt, ng_T, nI_add, nI_mul, nI_sub', Int.neg_zero, not_false_eq_true, not_true_eq_false, e0, e1, nI_add] <;> omega); done))) | (refine xbr_t ?_ ?_; (focus ((simp (disch := omega) only [ix_lt, ix_le, ix_eq, ix_0, nI_clamp, nI_toInt, ng_T, nI_add, nI_mul, nI_sub', Int.neg_zero, not_false_eq_true, not_true_eq_false, e0, e1, nI_add] <;> omega); done))) | refine ⟨Or.inl rfl, ?_⟩ | refine ⟨Or.inr rfl, ?_⟩ | (refine ⟨?_, ?_⟩; (focus ((try simp (disch := omega) only [e0, e1, nI_add, nI_mul, nI_add, nI_sub']); exact in_nI (by omega) (by omega)))))
        refine ⟨rfl, rfl, d, X, c, a, l, rfl, hP, hN, ha, hl2, ?_⟩
        cases hw : wtB d X a (mkN X l) <;> (
          (first | refine xbr_t (by decide) ?_ | refine xbr_f (by decide) ?_)
          refine xgo_eq ih ?_ rfl rfl
          rw [hm]
          ((repeat' (first | (with_reducible rfl) | exact xv_nil | refine xv_cons ?_ ?_ | refine xv_i ?_ | refine xv_l ?_)) <;> (simp (disch := omega) only [↓reduceIte, Bool.false_eq_true, Nat.one_mul, Nat.zero_mul, Nat.or_zero, Nat.add_zero, Nat.zero_add, Bool.toNat_true, Bool.toNat_false, shl_n, shr_n, fa_and, fa_or, nx_xor, nI_add, nI_mul, nI_sub', and_1, and_7, and_3', and_15, cnN, hdd, hw, Bool.not_true, Bool.not_false])))
      · have hdd := decide_eq_false hd
        (first | (refine xbr_f ?_ ?_; (focus ((simp (disch := omega) only [ix_lt, ix_le, ix_eq, ix_0, nI_clamp, nI_toInt, ng_T, nI_add, nI_mul, nI_sub', Int.neg_zero, not_false_eq_true, not_true_eq_false, e0, e1, nI_add] <;> omega); done))) | (refine xbr_t ?_ ?_; (focus ((simp (disch := omega) only [ix_lt, ix_le, ix_eq, ix_0, nI_clamp, nI_toInt, ng_T, nI_add, nI_mul, nI_sub', Int.neg_zero, not_false_eq_true, not_true_eq_false, e0, e1, nI_add] <;> omega); done))) | refine ⟨Or.inl rfl, ?_⟩ | refine ⟨Or.inr rfl, ?_⟩ | (refine ⟨?_, ?_⟩; (focus ((try simp (disch := omega) only [e0, e1, nI_add, nI_mul, nI_add, nI_sub']); exact in_nI (by omega) (by omega)))))
        refine ⟨rfl, rfl, d, X, c, a, l, rfl, hP, hN, ha, hl2, ?_⟩
        cases hw : wtB d X a (mkN X l) <;> (
          (first | refine xbr_t (by decide) ?_ | refine xbr_f (by decide) ?_)
          refine xgo_eq ih ?_ rfl rfl
          rw [hm]
          ((repeat' (first | (with_reducible rfl) | exact xv_nil | refine xv_cons ?_ ?_ | refine xv_i ?_ | refine xv_l ?_)) <;> (simp (disch := omega) only [↓reduceIte, Bool.false_eq_true, Nat.one_mul, Nat.zero_mul, Nat.or_zero, Nat.add_zero, Nat.zero_add, Bool.toNat_true, Bool.toNat_false, shl_n, shr_n, fa_and, fa_or, nx_xor, nI_add, nI_mul, nI_sub', and_1, and_7, and_3', and_15, cnN, hdd, hw, Bool.not_true, Bool.not_false])))
  · refine xrun okX11_marksOf hhX11_marksOf [] 90 ?_
    rcases (by omega : k = 1 ∨ k = 2 ∨ k = 3 ∨ k = 4 ∨ k = 5) with rfl | rfl | rfl | rfl | rfl
    · repeat (first | (refine xbr_f ?_ ?_; (focus ((simp (disch := omega) only [ix_lt, ix_le, ix_eq, ix_0, nI_clamp, nI_toInt, ng_T, nI_add, nI_mul, nI_sub', Int.neg_zero, not_false_eq_true, not_true_eq_false, hl, nI_add] <;> omega); done))) | (refine xbr_t ?_ ?_; (focus ((simp (disch := omega) only [ix_lt, ix_le, ix_eq, ix_0, nI_clamp, nI_toInt, ng_T, nI_add, nI_mul, nI_sub', Int.neg_zero, not_false_eq_true, not_true_eq_false, hl, nI_add] <;> omega); done))) | refine ⟨Or.inl rfl, ?_⟩ | refine ⟨Or.inr rfl, ?_⟩ | (refine ⟨?_, ?_⟩; (focus ((try simp (disch := omega) only [hl, nI_add, nI_mul, nI_add, nI_sub']); exact in_nI (by omega) (by omega)))))
      refine ⟨rfl, rfl, meN X a, ?_, by omega, hQ⟩
      simp (disch := omega) only [e0, nI_mul, nI_add, nI_clamp, nI_sub']
    · repeat (first | (refine xbr_f ?_ ?_; (focus ((simp (disch := omega) only [ix_lt, ix_le, ix_eq, ix_0, nI_clamp, nI_toInt, ng_T, nI_add, nI_mul, nI_sub', Int.neg_zero, not_false_eq_true, not_true_eq_false, hl, nI_add] <;> omega); done))) | (refine xbr_t ?_ ?_; (focus ((simp (disch := omega) only [ix_lt, ix_le, ix_eq, ix_0, nI_clamp, nI_toInt, ng_T, nI_add, nI_mul, nI_sub', Int.neg_zero, not_false_eq_true, not_true_eq_false, hl, nI_add] <;> omega); done))) | refine ⟨Or.inl rfl, ?_⟩ | refine ⟨Or.inr rfl, ?_⟩ | (refine ⟨?_, ?_⟩; (focus ((try simp (disch := omega) only [hl, nI_add, nI_mul, nI_add, nI_sub']); exact in_nI (by omega) (by omega)))))
      exact hQ
    · repeat (first | (refine xbr_f ?_ ?_; (focus ((simp (disch := omega) only [ix_lt, ix_le, ix_eq, ix_0, nI_clamp, nI_toInt, ng_T, nI_add, nI_mul, nI_sub', Int.neg_zero, not_false_eq_true, not_true_eq_false, hl, nI_add] <;> omega); done))) | (refine xbr_t ?_ ?_; (focus ((simp (disch := omega) only [ix_lt, ix_le, ix_eq, ix_0, nI_clamp, nI_toInt, ng_T, nI_add, nI_mul, nI_sub', Int.neg_zero, not_false_eq_true, not_true_eq_false, hl, nI_add] <;> omega); done))) | refine ⟨Or.inl rfl, ?_⟩ | refine ⟨Or.inr rfl, ?_⟩ | (refine ⟨?_, ?_⟩; (focus ((try simp (disch := omega) only [hl, nI_add, nI_mul, nI_add, nI_sub']); exact in_nI (by omega) (by omega)))))
      exact hQ
    · repeat (first | (refine xbr_f ?_ ?_; (focus ((simp (disch := omega) only [ix_lt, ix_le, ix_eq, ix_0, nI_clamp, nI_toInt, ng_T, nI_add, nI_mul, nI_sub', Int.neg_zero, not_false_eq_true, not_true_eq_false, hl, nI_add] <;> omega); done))) | (refine xbr_t ?_ ?_; (focus ((simp (disch := omega) only [ix_lt, ix_le, ix_eq, ix_0, nI_clamp, nI_toInt, ng_T, nI_add, nI_mul, nI_sub', Int.neg_zero, not_false_eq_true, not_true_eq_false, hl, nI_add] <;> omega); done))) | refine ⟨Or.inl rfl, ?_⟩ | refine ⟨Or.inr rfl, ?_⟩ | (refine ⟨?_, ?_⟩; (focus ((try simp (disch := omega) only [hl, nI_add, nI_mul, nI_add, nI_sub']); exact in_nI (by omega) (by omega)))))
      exact hQ
    · repeat (first | (refine xbr_f ?_ ?_; (focus ((simp (disch := omega) only [ix_lt, ix_le, ix_eq, ix_0, nI_clamp, nI_toInt, ng_T, nI_add, nI_mul, nI_sub', Int.neg_zero, not_false_eq_true, not_true_eq_false, hl, nI_add] <;> omega); done))) | (refine xbr_t ?_ ?_; (focus ((simp (disch := omega) only [ix_lt, ix_le, ix_eq, ix_0, nI_clamp, nI_toInt, ng_T, nI_add, nI_mul, nI_sub', Int.neg_zero, not_false_eq_true, not_true_eq_false, hl, nI_add] <;> omega); done))) | refine ⟨Or.inl rfl, ?_⟩ | refine ⟨Or.inr rfl, ?_⟩ | (refine ⟨?_, ?_⟩; (focus ((try simp (disch := omega) only [hl, nI_add, nI_mul, nI_add, nI_sub']); exact in_nI (by omega) (by omega)))))
      exact hQ
def csX11_mark : xCs := [(mX11_isAss, sX11_isAss), (mX11_in, sX11_in), (mX11_isA, sX11_isA), (mX11_marksOf, sX11_marksOf), (mX11_finds, sX11_finds)]
theorem okX11_mark : xOkM mX11_mark csX11_mark := ⟨dX11_mark, by decide +kernel, by decide +kernel, ⟨wdX11_205, wdX11_88, wdX11_90, wdX11_31, wdX11_219, wdX11_222, wdX11_100, trivial⟩⟩
theorem hhX11_mark : ∀ q ∈ csX11_mark, xHd q.1 := xall1 hX11_isAss (xall1 hX11_in (xall1 hX11_isA (xall1 hX11_marksOf (xall1 hX11_finds (xall0)))))
theorem kkX11_mark : ∀ q ∈ csX11_mark, ∀ l, xCon l q.1 q.2 := xall1 kX11_isAss (xall1 kX11_in (xall1 kX11_isA (xall1 kX11_marksOf (xall1 kX11_finds (xall0)))))
def sX11_mark : xSpec := xReg fun as I L Q => ∃ (S : ST) (i w o : Int32) (S' : ST), as = [.ref 27, .int i, .int w] ∧ markR S i w o S' ∧ Ref S I L ∧ (∀ I' L', frM I L I' L' → Ref S' I' L' → Q (some (.int o)) I' L')
set_option maxRecDepth 100000 in
theorem kX11_mark : ∀ l, xCon l mX11_mark sX11_mark := by
  refine xcon_of okX11_mark hX11_mark rfl (by decide) hhX11_mark kkX11_mark ?_
  rintro as n0 I L P Q ⟨rfl, rfl, S, i, w, o, S', rfl, hR, hC, hQ⟩
  refine ⟨Nat.le_of_ble_eq_true rfl, ?_⟩
  have h4 := hC.pd.ok.a4
  refine xrun okX11_mark hhX11_mark [] 60 ?_
  refine ⟨rfl, rfl, S.d, i, rfl, hC.pd, ?_⟩
  have t1 : (nI 1).toInt = 1 := rfl
  have t5 : (nI 5).toInt = 5 := rfl
  rcases hR with ⟨h, rfl, rfl⟩ | ⟨a, k, rfl, ha, rfl, h0, hk, hR⟩
  · have done := hQ _ _ (frM_0 _ _) hC
    cases hb : ibB i S.d.nA
    · (first | refine xbr_t (by decide) ?_ | refine xbr_f (by decide) ?_)
      exact done
    · (first | refine xbr_t (by decide) ?_ | refine xbr_f (by decide) ?_)
      refine ⟨rfl, rfl, _, _, _, w, nI 1, nI 5, rfl, rfl, by decide, by decide, ?_⟩
      rw [t1, t5, decide_eq_false (fun q => h ⟨hb, by omega, by omega⟩)]
      (first | refine xbr_t (by decide) ?_ | refine xbr_f (by decide) ?_)
      exact done
  · rw [ib_tt ha (by omega)]
    (first | refine xbr_t (by decide) ?_ | refine xbr_f (by decide) ?_)
    refine ⟨rfl, rfl, _, _, _, nI k, nI 1, nI 5, rfl, rfl, by decide, by decide, ?_⟩
    rw [t1, t5, nI_toInt (show k < 2 ^ 31 by omega), decide_eq_true (by omega)]
    (first | refine xbr_t (by decide) ?_ | refine xbr_f (by decide) ?_)
    repeat (first | (refine xbr_f ?_ ?_; (focus ((simp (disch := omega) only [ix_lt, ix_le, ix_eq, ix_0, nI_clamp, nI_toInt, ng_T, nI_add, nI_mul, nI_sub', Int.neg_zero, not_false_eq_true, not_true_eq_false, nI_add] <;> omega); done))) | (refine xbr_t ?_ ?_; (focus ((simp (disch := omega) only [ix_lt, ix_le, ix_eq, ix_0, nI_clamp, nI_toInt, ng_T, nI_add, nI_mul, nI_sub', Int.neg_zero, not_false_eq_true, not_true_eq_false, nI_add] <;> omega); done))) | refine ⟨Or.inl rfl, ?_⟩ | refine ⟨Or.inr rfl, ?_⟩ | (refine ⟨?_, ?_⟩; (focus ((try simp (disch := omega) only [nI_add, nI_mul, nI_add, nI_sub']); exact in_nI (by omega) (by omega)))))
    refine ⟨rfl, rfl, kdN S.d a, k, by rw [nI_clamp (by omega), hC.pd.k a ha], kdN_8 _ _, by omega, h0, ?_⟩
    rcases hR with ⟨hA, rfl, rfl⟩ | ⟨hA, rfl, rfl⟩
    · rw [hA]
      (first | refine xbr_t (by decide) ?_ | refine xbr_f (by decide) ?_)
      exact ⟨rfl, rfl, S, 3, rfl, by decide, hC, fun I' hf hC' => hQ _ _ hf hC'⟩
    · rw [hA]
      (first | refine xbr_t (by decide) ?_ | refine xbr_f (by decide) ?_)
      exact ⟨rfl, rfl, S.d, S.D.X, _, a, k, rfl, hC.pd, hC.nw, ha, h0, hk, hQ _ _ (frM_0 _ _) hC⟩
