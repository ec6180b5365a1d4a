/-! SHELF: ROWS (cells 2, 3, 4), TEXTS (5, 6, 7) -/
def xShf (c a d N mo : Nat) : Prop := (c = 2 ∧ a = 3 ∧ d = 4 ∧ N = 6 ∧ mo = 40) ∨ (c = 5 ∧ a = 6 ∧ d = 7 ∧ N = 4 ∧ mo = 60)
def csX8_isNumber : xCs := []
theorem okX8_isNumber : xOkM mX8_isNumber csX8_isNumber := ⟨dX8_isNumber, by decide +kernel, by decide +kernel, ⟨wdX8_21, trivial⟩⟩
theorem hhX8_isNumber : ∀ q ∈ csX8_isNumber, xHd q.1 := xall0
theorem kkX8_isNumber : ∀ q ∈ csX8_isNumber, ∀ l, xCon l q.1 q.2 := xall0
def sX8_isNumber : xSpec := xReg fun as I L Q => ∃ (c a d N mo : Nat) (r : Int32), xShf c a d N mo ∧ as = [.ref c, .int r] ∧ (vp_in r N → Q (some (.int (nI 1))) I L) ∧ (¬ vp_in r N → Q (some (.int (nI 0))) I L)
set_option maxRecDepth 100000 in
theorem kX8_isNumber : ∀ l, xCon l mX8_isNumber sX8_isNumber := by
  refine xcon_of okX8_isNumber hX8_isNumber rfl hhX8_isNumber kkX8_isNumber ?_
  rintro as n I L P Q ⟨hn9, rfl, c, a, d, N, mo, r, hc, rfl, h1, h2⟩
  obtain ⟨e9, rfl⟩ := xe9 hn9
  refine ⟨Nat.le_of_ble_eq_true rfl, xrun okX8_isNumber hhX8_isNumber [] 40 ?_⟩
  rcases hc with ⟨rfl, rfl, rfl, rfl, rfl⟩ | ⟨rfl, rfl, rfl, rfl, rfl⟩ <;> (
    refine ⟨fun h => ⟨Or.inl rfl, h2 ?_⟩, fun h => ⟨fun g => ⟨Or.inl rfl, h2 ?_⟩, fun g => ⟨Or.inr rfl, h1 ?_⟩⟩⟩
    · exact fun q => q (Or.inl h)
    · intro q
      obtain ⟨j, hj, rfl⟩ := vp_in_of q (by omega)
      revert g
      (simp (disch := omega) only [ix_lt, ix_le, ix_eq, ix_0, nI_clamp, nI_toInt, ng_T, nI_add, nI_mul, nI_sub', Int.neg_zero, not_false_eq_true, not_true_eq_false] <;> omega)
    · rw [vp_in_iff]
      rw [ix_lt, ix_0] at h
      rw [ix_le, nI_toInt (by omega)] at g
      omega)
def csX8_sizeOf : xCs := []
theorem okX8_sizeOf : xOkM mX8_sizeOf csX8_sizeOf := ⟨dX8_sizeOf, by decide +kernel, by decide +kernel, ⟨wdX8_21, wdX8_21, trivial⟩⟩
theorem hhX8_sizeOf : ∀ q ∈ csX8_sizeOf, xHd q.1 := xall0
theorem kkX8_sizeOf : ∀ q ∈ csX8_sizeOf, ∀ l, xCon l q.1 q.2 := xall0
def sX8_sizeOf : xSpec := xTr mX8_sizeOf csX8_sizeOf 40
theorem kX8_sizeOf : ∀ l, xCon l mX8_sizeOf sX8_sizeOf := xTr_con okX8_sizeOf hX8_sizeOf rfl rfl hhX8_sizeOf kkX8_sizeOf
def csX8_isThere : xCs := [(mX8_sizeOf, sX8_sizeOf)]
theorem okX8_isThere : xOkM mX8_isThere csX8_isThere := ⟨dX8_isThere, by decide +kernel, by decide +kernel, ⟨wdX8_28, trivial⟩⟩
theorem hhX8_isThere : ∀ q ∈ csX8_isThere, xHd q.1 := xall1 hX8_sizeOf (xall0)
theorem kkX8_isThere : ∀ q ∈ csX8_isThere, ∀ l, xCon l q.1 q.2 := xall1 kX8_sizeOf (xall0)
def sX8_isThere : xSpec := xTr mX8_isThere csX8_isThere 60
theorem kX8_isThere : ∀ l, xCon l mX8_isThere sX8_isThere := xTr_con okX8_isThere hX8_isThere rfl rfl hhX8_isThere kkX8_isThere
def csX8_holds : xCs := [(mX8_sizeOf, sX8_sizeOf)]
theorem okX8_holds : xOkM mX8_holds csX8_holds := ⟨dX8_holds, by decide +kernel, by decide +kernel, ⟨wdX8_28, trivial⟩⟩
theorem hhX8_holds : ∀ q ∈ csX8_holds, xHd q.1 := xall1 hX8_sizeOf (xall0)
theorem kkX8_holds : ∀ q ∈ csX8_holds, ∀ l, xCon l q.1 q.2 := xall1 kX8_sizeOf (xall0)
def sX8_holds : xSpec := xTr mX8_holds csX8_holds 80
theorem kX8_holds : ∀ l, xCon l mX8_holds sX8_holds := xTr_con okX8_holds hX8_holds rfl rfl hhX8_holds kkX8_holds
def csX8_get : xCs := [(mX8_holds, sX8_holds)]
theorem okX8_get : xOkM mX8_get csX8_get := ⟨dX8_get, by decide +kernel, by decide +kernel, ⟨wdX8_15, wdX8_36, wdX8_25, wdX8_25, trivial⟩⟩
theorem hhX8_get : ∀ q ∈ csX8_get, xHd q.1 := xall1 hX8_holds (xall0)
theorem kkX8_get : ∀ q ∈ csX8_get, ∀ l, xCon l q.1 q.2 := xall1 kX8_holds (xall0)
def sX8_get : xSpec := xReg fun as I L Q => ∃ c a d N mo r i s : Nat, xShf c a d N mo ∧ as = [.ref c, .int (nI r), .int (nI i)] ∧ r < N ∧ I a r = nI s ∧ i < s ∧ s ≤ mo ∧ I c 0 = nI mo ∧ Q (some (.int (I d (r * mo + i)))) I L
set_option maxRecDepth 100000 in
theorem kX8_get : ∀ l, xCon l mX8_get sX8_get := by
  refine xcon_of okX8_get hX8_get rfl hhX8_get kkX8_get ?_
  rintro as n I L P Q ⟨hn9, rfl, c, a, d, N, mo, r, i, s, hc, rfl, hr, hs, hi, hmo, hI, hQ⟩
  obtain ⟨e9, rfl⟩ := xe9 hn9
  refine ⟨Nat.le_of_ble_eq_true rfl, xrun okX8_get hhX8_get [] 60 ?_⟩
  rcases hc with ⟨rfl, rfl, rfl, rfl, rfl⟩ | ⟨rfl, rfl, rfl, rfl, rfl⟩ <;> (
    repeat (first | (refine xbr_f ?_ ?_; (focus ((simp (disch := omega) only [ix_lt, ix_le, ix_eq, ix_0, nI_clamp, nI_toInt, ng_T, nI_add, nI_mul, nI_sub', Int.neg_zero, not_false_eq_true, not_true_eq_false] <;> omega); done))) | (refine xbr_t ?_ ?_; (focus ((simp (disch := omega) only [ix_lt, ix_le, ix_eq, ix_0, nI_clamp, nI_toInt, ng_T, nI_add, nI_mul, nI_sub', Int.neg_zero, not_false_eq_true, not_true_eq_false] <;> omega); done))) | refine ⟨Or.inl rfl, ?_⟩ | refine ⟨Or.inr rfl, ?_⟩ | (refine ⟨?_, ?_⟩; (focus (exact in_nI (by omega) (by omega)))))
    simp (disch := omega) only [hs, hI, nI_mul, nI_add, nI_clamp, nI_sub']
    repeat (first | (refine xbr_f ?_ ?_; (focus ((simp (disch := omega) only [ix_lt, ix_le, ix_eq, ix_0, nI_clamp, nI_toInt, ng_T, nI_add, nI_mul, nI_sub', Int.neg_zero, not_false_eq_true, not_true_eq_false] <;> omega); done))) | (refine xbr_t ?_ ?_; (focus ((simp (disch := omega) only [ix_lt, ix_le, ix_eq, ix_0, nI_clamp, nI_toInt, ng_T, nI_add, nI_mul, nI_sub', Int.neg_zero, not_false_eq_true, not_true_eq_false] <;> omega); done))) | refine ⟨Or.inl rfl, ?_⟩ | refine ⟨Or.inr rfl, ?_⟩ | (refine ⟨?_, ?_⟩; (focus (exact in_nI (by omega) (by omega)))))
    simp (disch := omega) only [nI_mul, nI_add, nI_clamp, nI_sub']
    exact hQ)
def csX8_swap : xCs := [(mX8_get, sX8_get), (mX8_holds, sX8_holds)]
theorem okX8_swap : xOkM mX8_swap csX8_swap := ⟨dX8_swap, by decide +kernel, by decide +kernel, ⟨wdX8_44, wdX8_15, wdX8_36, wdX8_25, wdX8_25, trivial⟩⟩
theorem hhX8_swap : ∀ q ∈ csX8_swap, xHd q.1 := xall1 hX8_get (xall1 hX8_holds (xall0))
theorem kkX8_swap : ∀ q ∈ csX8_swap, ∀ l, xCon l q.1 q.2 := xall1 kX8_get (xall1 kX8_holds (xall0))
def sX8_swap : xSpec := xReg fun as I L Q => ∃ (c a d N mo r i s : Nat) (v : Int32), xShf c a d N mo ∧ as = [.ref c, .int (nI r), .int (nI i), .int v] ∧ r < N ∧ I a r = nI s ∧ i < s ∧ s ≤ mo ∧ I c 0 = nI mo ∧ Q (some (.int (I d (r * mo + i)))) (xup I d (r * mo + i) v) L
set_option maxRecDepth 100000 in
theorem kX8_swap : ∀ l, xCon l mX8_swap sX8_swap := by
  refine xcon_of okX8_swap hX8_swap rfl hhX8_swap kkX8_swap ?_
  rintro as n I L P Q ⟨hn9, rfl, c, a, d, N, mo, r, i, s, v, hc, rfl, hr, hs, hi, hmo, hI, hQ⟩
  obtain ⟨e9, rfl⟩ := xe9 hn9
  refine ⟨Nat.le_of_ble_eq_true rfl, xrun okX8_swap hhX8_swap [] 60 ?_⟩
  have hc' := hc
  rcases hc with ⟨rfl, rfl, rfl, rfl, rfl⟩ | ⟨rfl, rfl, rfl, rfl, rfl⟩ <;> (
    refine ⟨rfl, rfl, _, _, _, _, _, r, i, s, hc', rfl, hr, hs, hi, hmo, hI, ?_⟩
    repeat (first | (refine xbr_f ?_ ?_; (focus ((simp (disch := omega) only [ix_lt, ix_le, ix_eq, ix_0, nI_clamp, nI_toInt, ng_T, nI_add, nI_mul, nI_sub', Int.neg_zero, not_false_eq_true, not_true_eq_false] <;> omega); done))) | (refine xbr_t ?_ ?_; (focus ((simp (disch := omega) only [ix_lt, ix_le, ix_eq, ix_0, nI_clamp, nI_toInt, ng_T, nI_add, nI_mul, nI_sub', Int.neg_zero, not_false_eq_true, not_true_eq_false] <;> omega); done))) | refine ⟨Or.inl rfl, ?_⟩ | refine ⟨Or.inr rfl, ?_⟩ | (refine ⟨?_, ?_⟩; (focus (exact in_nI (by omega) (by omega)))))
    simp (disch := omega) only [hs, hI, nI_mul, nI_add, nI_clamp, nI_sub']
    repeat (first | (refine xbr_f ?_ ?_; (focus ((simp (disch := omega) only [ix_lt, ix_le, ix_eq, ix_0, nI_clamp, nI_toInt, ng_T, nI_add, nI_mul, nI_sub', Int.neg_zero, not_false_eq_true, not_true_eq_false] <;> omega); done))) | (refine xbr_t ?_ ?_; (focus ((simp (disch := omega) only [ix_lt, ix_le, ix_eq, ix_0, nI_clamp, nI_toInt, ng_T, nI_add, nI_mul, nI_sub', Int.neg_zero, not_false_eq_true, not_true_eq_false] <;> omega); done))) | refine ⟨Or.inl rfl, ?_⟩ | refine ⟨Or.inr rfl, ?_⟩ | (refine ⟨?_, ?_⟩; (focus (exact in_nI (by omega) (by omega)))))
    simp (disch := omega) only [nI_mul, nI_add, nI_clamp, nI_sub']
    exact hQ)
def xfil {α : Type} (f : Nat → α) (lo n : Nat) (v : α) : Nat → α := fun k => if lo ≤ k ∧ k < lo + n then v else f k
theorem xfil_0 {α : Type} (f : Nat → α) (lo : Nat) (v : α) : xfil f lo 0 v = f := by
  funext k
  simp only [xfil]
  rw [if_neg (by omega)]
theorem xfil_s {α : Type} (J : Nat → Nat → α) (d : Nat) (f : Nat → α) (lo i : Nat) (v : α) : xup (xrw J d (xfil f lo i v)) d (lo + i) v = xrw J d (xfil f lo (i + 1) v) := by
  funext k j
  rw [xup_at]
  by_cases hk : k = d
  · subst hk
    rw [xrw_s, xrw_s]
    simp only [xfil]
    by_cases hj : j = lo + i
    · subst hj
      simp
    · rw [if_neg (by omega)]
      by_cases h2 : lo ≤ j ∧ j < lo + i
      · rw [if_pos h2, if_pos (by omega)]
      · rw [if_neg h2, if_neg (by omega)]
  · rw [if_neg (by omega), xrw_c _ _ _ hk, xrw_c _ _ _ hk]
theorem xrw_self {α : Type} (J : Nat → Nat → α) (d : Nat) : xrw J d (J d) = J := by
  funext k
  by_cases hk : k = d
  · subst hk; rw [xrw_s]
  · rw [xrw_c _ _ _ hk]
def csX8_renew : xCs := [(mX8_swap, sX8_swap)]
theorem okX8_renew : xOkM mX8_renew csX8_renew := ⟨dX8_renew, by decide +kernel, by decide +kernel, ⟨wdX8_21, wdX8_15, wdX8_21, wdX8_40, trivial⟩⟩
theorem hhX8_renew : ∀ q ∈ csX8_renew, xHd q.1 := xall1 hX8_swap (xall0)
theorem kkX8_renew : ∀ q ∈ csX8_renew, ∀ l, xCon l q.1 q.2 := xall1 kX8_swap (xall0)
def sX8_renew : xSpec := xReg fun as I L Q => ∃ (c a d N mo r n : Nat) (v : Int32), xShf c a d N mo ∧ as = [.ref c, .int (nI r), .int (nI n), .int v] ∧ r < N ∧ n ≤ mo ∧ I c 0 = nI mo ∧ Q none (xrw (xup I a r (nI n)) d (xfil (I d) (r * mo) n v)) L
set_option maxRecDepth 100000 in
theorem kX8_renew : ∀ l, xCon l mX8_renew sX8_renew := by
  refine xcon_of okX8_renew hX8_renew rfl hhX8_renew kkX8_renew ?_
  rintro as n0 I L P Q ⟨hn9, rfl, c, a, d, N, mo, r, n, v, hc, rfl, hr, hn, hI, hQ⟩
  obtain ⟨e9, rfl⟩ := xe9 hn9
  refine ⟨Nat.le_of_ble_eq_true rfl, ?_⟩
  have hc' := hc
  have loop : ∀ j i, i + j = n → xGo mX8_renew csX8_renew 36 Q [some (.ref c), some (.int (nI r)), some (.int (nI n)), some (.int v), some (.int (nI i))] [] 0 (e9 + 26) (xrw (xup I a r (nI n)) d (xfil (I d) (r * mo) i v)) L xP0 := by
    intro j
    induction j with
    | zero =>
      intro i hi
      obtain rfl : i = n := by omega
      refine xrun okX8_renew hhX8_renew [] 20 ?_
      rcases hc with ⟨rfl, rfl, rfl, rfl, rfl⟩ | ⟨rfl, rfl, rfl, rfl, rfl⟩ <;> (
        repeat (first | (refine xbr_f ?_ ?_; (focus ((simp (disch := omega) only [ix_lt, ix_le, ix_eq, ix_0, nI_clamp, nI_toInt, ng_T, nI_add, nI_mul, nI_sub', Int.neg_zero, not_false_eq_true, not_true_eq_false] <;> omega); done))) | (refine xbr_t ?_ ?_; (focus ((simp (disch := omega) only [ix_lt, ix_le, ix_eq, ix_0, nI_clamp, nI_toInt, ng_T, nI_add, nI_mul, nI_sub', Int.neg_zero, not_false_eq_true, not_true_eq_false] <;> omega); done))) | refine ⟨Or.inl rfl, ?_⟩ | refine ⟨Or.inr rfl, ?_⟩ | (refine ⟨?_, ?_⟩; (focus (exact in_nI (by omega) (by omega)))))
        exact hQ)
    | succ j ih =>
      intro i hi
      refine xrun okX8_renew hhX8_renew [(36, [true, true, true, true, true])] 20 ?_
      rcases hc with ⟨rfl, rfl, rfl, rfl, rfl⟩ | ⟨rfl, rfl, rfl, rfl, rfl⟩ <;> (
        (first | (refine xbr_f ?_ ?_; (focus ((simp (disch := omega) only [ix_lt, ix_le, ix_eq, ix_0, nI_clamp, nI_toInt, ng_T, nI_add, nI_mul, nI_sub', Int.neg_zero, not_false_eq_true, not_true_eq_false] <;> omega); done))) | (refine xbr_t ?_ ?_; (focus ((simp (disch := omega) only [ix_lt, ix_le, ix_eq, ix_0, nI_clamp, nI_toInt, ng_T, nI_add, nI_mul, nI_sub', Int.neg_zero, not_false_eq_true, not_true_eq_false] <;> omega); done))) | refine ⟨Or.inl rfl, ?_⟩ | refine ⟨Or.inr rfl, ?_⟩ | (refine ⟨?_, ?_⟩; (focus (exact in_nI (by omega) (by omega)))))
        refine ⟨rfl, rfl, _, _, _, _, _, r, i, n, v, hc', rfl, hr, ?_, by omega, hn, ?_, ?_⟩
        · simp [xrw, xup]
        · simpa [xrw, xup] using hI
        rw [xfil_s]
        have h := ih (i + 1) (by omega)
        rw [← nI_add] at h
        exact h)
  refine xrun okX8_renew hhX8_renew [(36, [true, true, true, true, true])] 60 ?_
  have l0 := loop n 0 (by omega)
  rw [xfil_0] at l0
  rcases hc with ⟨rfl, rfl, rfl, rfl, rfl⟩ | ⟨rfl, rfl, rfl, rfl, rfl⟩ <;> (
    repeat (first | (refine xbr_f ?_ ?_; (focus ((simp (disch := omega) only [ix_lt, ix_le, ix_eq, ix_0, nI_clamp, nI_toInt, ng_T, nI_add, nI_mul, nI_sub', Int.neg_zero, not_false_eq_true, not_true_eq_false, hI] <;> omega); done))) | (refine xbr_t ?_ ?_; (focus ((simp (disch := omega) only [ix_lt, ix_le, ix_eq, ix_0, nI_clamp, nI_toInt, ng_T, nI_add, nI_mul, nI_sub', Int.neg_zero, not_false_eq_true, not_true_eq_false, hI] <;> omega); done))) | refine ⟨Or.inl rfl, ?_⟩ | refine ⟨Or.inr rfl, ?_⟩ | (refine ⟨?_, ?_⟩; (focus ((try simp (disch := omega) only [hI, nI_mul, nI_add, nI_sub']); exact in_nI (by omega) (by omega)))))
    rw [nI_clamp (by omega)]
    have l1 := l0
    rw [show xrw (xup I _ r (nI n)) _ (I _) = xup I _ r (nI n) from xrw_self (xup I _ r (nI n)) _] at l1
    exact l1)
