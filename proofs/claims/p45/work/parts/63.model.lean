/-! THE LAW'S OWN DAY -/
/-- the law's numbers of a plain and its state -/
def WA (d : PD) (X : Nat) (f : Nat → Int32) : Prop := f 0 = nI d.nA ∧ f 1 = nI d.nL ∧ (∀ k, k < 5 → f (4 + k) = nI (rdN d k)) ∧ (∀ i, i < d.nA → f (9 + 3 * i) = nI (kdN d i) ∧ f (10 + 3 * i) = nI (meN X i) ∧ f (11 + 3 * i) = nI (inN X i)) ∧ (∀ l, l < d.nL → f (21 + 3 * l) = nI (mkN X l) ∧ f (22 + 3 * l) = nI (plN X l) ∧ f (23 + 3 * l) = nI (hmN d l))
def csL_sort : xCs := []
theorem okL_sort : xOkM mL_sort csL_sort := ⟨dL_sort, by decide +kernel, by decide +kernel, trivial⟩
theorem hhL_sort : ∀ q ∈ csL_sort, xHd q.1 := xall0
theorem kkL_sort : ∀ q ∈ csL_sort, ∀ l, xCon l q.1 q.2 := xall0
def sL_sort : xSpec := xReg fun as I L Q => ∃ (k : Nat), as = [.int (nI k)] ∧ k < 6 ∧ ∀ c, blN (nI c) = k + 1 → c < 128 → Q (some (.int (nI c))) I L
set_option maxRecDepth 100000 in
theorem kL_sort : ∀ l, xCon l mL_sort sL_sort := by
  refine xcon_of okL_sort hL_sort rfl hhL_sort kkL_sort ?_
  rintro as n0 I L P Q ⟨hn9, rfl, k, rfl, hk, hQ⟩
  obtain ⟨e9, rfl⟩ := xe9 hn9
  refine ⟨Nat.le_of_ble_eq_true rfl, ?_⟩
  refine xrun okL_sort hhL_sort [] 40 ?_
  rcases (show k = 0 ∨ k = 1 ∨ k = 2 ∨ k = 3 ∨ k = 4 ∨ k = 5 by omega) with rfl | rfl | rfl | rfl | rfl | rfl
  · repeat (first | (refine xbr_f ?_ ?_; (focus ((simp (disch := omega) only [ix_lt, ix_le, ix_eq, ix_0, nI_clamp, nI_toInt, ng_T, nI_add, nI_mul, nI_sub', Int.neg_zero, not_false_eq_true, not_true_eq_false] <;> omega); done))) | (refine xbr_t ?_ ?_; (focus ((simp (disch := omega) only [ix_lt, ix_le, ix_eq, ix_0, nI_clamp, nI_toInt, ng_T, nI_add, nI_mul, nI_sub', Int.neg_zero, not_false_eq_true, not_true_eq_false] <;> omega); done))) | refine ⟨Or.inl rfl, ?_⟩ | refine ⟨Or.inr rfl, ?_⟩ | (refine ⟨?_, ?_⟩; (focus (exact in_nI (by omega) (by omega)))))
    exact hQ 97 (by decide) (by decide)
  · repeat (first | (refine xbr_f ?_ ?_; (focus ((simp (disch := omega) only [ix_lt, ix_le, ix_eq, ix_0, nI_clamp, nI_toInt, ng_T, nI_add, nI_mul, nI_sub', Int.neg_zero, not_false_eq_true, not_true_eq_false] <;> omega); done))) | (refine xbr_t ?_ ?_; (focus ((simp (disch := omega) only [ix_lt, ix_le, ix_eq, ix_0, nI_clamp, nI_toInt, ng_T, nI_add, nI_mul, nI_sub', Int.neg_zero, not_false_eq_true, not_true_eq_false] <;> omega); done))) | refine ⟨Or.inl rfl, ?_⟩ | refine ⟨Or.inr rfl, ?_⟩ | (refine ⟨?_, ?_⟩; (focus (exact in_nI (by omega) (by omega)))))
    exact hQ 103 (by decide) (by decide)
  · repeat (first | (refine xbr_f ?_ ?_; (focus ((simp (disch := omega) only [ix_lt, ix_le, ix_eq, ix_0, nI_clamp, nI_toInt, ng_T, nI_add, nI_mul, nI_sub', Int.neg_zero, not_false_eq_true, not_true_eq_false] <;> omega); done))) | (refine xbr_t ?_ ?_; (focus ((simp (disch := omega) only [ix_lt, ix_le, ix_eq, ix_0, nI_clamp, nI_toInt, ng_T, nI_add, nI_mul, nI_sub', Int.neg_zero, not_false_eq_true, not_true_eq_false] <;> omega); done))) | refine ⟨Or.inl rfl, ?_⟩ | refine ⟨Or.inr rfl, ?_⟩ | (refine ⟨?_, ?_⟩; (focus (exact in_nI (by omega) (by omega)))))
    exact hQ 121 (by decide) (by decide)
  · repeat (first | (refine xbr_f ?_ ?_; (focus ((simp (disch := omega) only [ix_lt, ix_le, ix_eq, ix_0, nI_clamp, nI_toInt, ng_T, nI_add, nI_mul, nI_sub', Int.neg_zero, not_false_eq_true, not_true_eq_false] <;> omega); done))) | (refine xbr_t ?_ ?_; (focus ((simp (disch := omega) only [ix_lt, ix_le, ix_eq, ix_0, nI_clamp, nI_toInt, ng_T, nI_add, nI_mul, nI_sub', Int.neg_zero, not_false_eq_true, not_true_eq_false] <;> omega); done))) | refine ⟨Or.inl rfl, ?_⟩ | refine ⟨Or.inr rfl, ?_⟩ | (refine ⟨?_, ?_⟩; (focus (exact in_nI (by omega) (by omega)))))
    exact hQ 115 (by decide) (by decide)
  · repeat (first | (refine xbr_f ?_ ?_; (focus ((simp (disch := omega) only [ix_lt, ix_le, ix_eq, ix_0, nI_clamp, nI_toInt, ng_T, nI_add, nI_mul, nI_sub', Int.neg_zero, not_false_eq_true, not_true_eq_false] <;> omega); done))) | (refine xbr_t ?_ ?_; (focus ((simp (disch := omega) only [ix_lt, ix_le, ix_eq, ix_0, nI_clamp, nI_toInt, ng_T, nI_add, nI_mul, nI_sub', Int.neg_zero, not_false_eq_true, not_true_eq_false] <;> omega); done))) | refine ⟨Or.inl rfl, ?_⟩ | refine ⟨Or.inr rfl, ?_⟩ | (refine ⟨?_, ?_⟩; (focus (exact in_nI (by omega) (by omega)))))
    exact hQ 111 (by decide) (by decide)
  · repeat (first | (refine xbr_f ?_ ?_; (focus ((simp (disch := omega) only [ix_lt, ix_le, ix_eq, ix_0, nI_clamp, nI_toInt, ng_T, nI_add, nI_mul, nI_sub', Int.neg_zero, not_false_eq_true, not_true_eq_false] <;> omega); done))) | (refine xbr_t ?_ ?_; (focus ((simp (disch := omega) only [ix_lt, ix_le, ix_eq, ix_0, nI_clamp, nI_toInt, ng_T, nI_add, nI_mul, nI_sub', Int.neg_zero, not_false_eq_true, not_true_eq_false] <;> omega); done))) | refine ⟨Or.inl rfl, ?_⟩ | refine ⟨Or.inr rfl, ?_⟩ | (refine ⟨?_, ?_⟩; (focus (exact in_nI (by omega) (by omega)))))
    exact hQ 109 (by decide) (by decide)
def csL_need : xCs := []
theorem okL_need : xOkM mL_need csL_need := ⟨dL_need, by decide +kernel, by decide +kernel, trivial⟩
theorem hhL_need : ∀ q ∈ csL_need, xHd q.1 := xall0
theorem kkL_need : ∀ q ∈ csL_need, ∀ l, xCon l q.1 q.2 := xall0
def sL_need : xSpec := xReg fun as I L Q => ∃ (k : Nat), as = [.int (nI k)] ∧ k < 6 ∧ Q (some (.int (nI (lsN k)))) I L
set_option maxRecDepth 100000 in
theorem kL_need : ∀ l, xCon l mL_need sL_need := by
  refine xcon_of okL_need hL_need rfl hhL_need kkL_need ?_
  rintro as n0 I L P Q ⟨hn9, rfl, k, rfl, hk, hQ⟩
  obtain ⟨e9, rfl⟩ := xe9 hn9
  refine ⟨Nat.le_of_ble_eq_true rfl, ?_⟩
  refine xrun okL_need hhL_need [] 40 ?_
  unfold lsN at hQ
  by_cases h5 : k = 5
  · rw [if_pos h5] at hQ
    repeat (first | (refine xbr_f ?_ ?_; (focus ((simp (disch := omega) only [ix_lt, ix_le, ix_eq, ix_0, nI_clamp, nI_toInt, ng_T, nI_add, nI_mul, nI_sub', Int.neg_zero, not_false_eq_true, not_true_eq_false] <;> omega); done))) | (refine xbr_t ?_ ?_; (focus ((simp (disch := omega) only [ix_lt, ix_le, ix_eq, ix_0, nI_clamp, nI_toInt, ng_T, nI_add, nI_mul, nI_sub', Int.neg_zero, not_false_eq_true, not_true_eq_false] <;> omega); done))) | refine ⟨Or.inl rfl, ?_⟩ | refine ⟨Or.inr rfl, ?_⟩ | (refine ⟨?_, ?_⟩; (focus (exact in_nI (by omega) (by omega)))))
    exact hQ
  · rw [if_neg h5] at hQ
    by_cases h3 : k = 3
    · rw [if_pos h3] at hQ
      repeat (first | (refine xbr_f ?_ ?_; (focus ((simp (disch := omega) only [ix_lt, ix_le, ix_eq, ix_0, nI_clamp, nI_toInt, ng_T, nI_add, nI_mul, nI_sub', Int.neg_zero, not_false_eq_true, not_true_eq_false] <;> omega); done))) | (refine xbr_t ?_ ?_; (focus ((simp (disch := omega) only [ix_lt, ix_le, ix_eq, ix_0, nI_clamp, nI_toInt, ng_T, nI_add, nI_mul, nI_sub', Int.neg_zero, not_false_eq_true, not_true_eq_false] <;> omega); done))) | refine ⟨Or.inl rfl, ?_⟩ | refine ⟨Or.inr rfl, ?_⟩ | (refine ⟨?_, ?_⟩; (focus (exact in_nI (by omega) (by omega)))))
      exact hQ
    · rw [if_neg h3] at hQ
      repeat (first | (refine xbr_f ?_ ?_; (focus ((simp (disch := omega) only [ix_lt, ix_le, ix_eq, ix_0, nI_clamp, nI_toInt, ng_T, nI_add, nI_mul, nI_sub', Int.neg_zero, not_false_eq_true, not_true_eq_false] <;> omega); done))) | (refine xbr_t ?_ ?_; (focus ((simp (disch := omega) only [ix_lt, ix_le, ix_eq, ix_0, nI_clamp, nI_toInt, ng_T, nI_add, nI_mul, nI_sub', Int.neg_zero, not_false_eq_true, not_true_eq_false] <;> omega); done))) | refine ⟨Or.inl rfl, ?_⟩ | refine ⟨Or.inr rfl, ?_⟩ | (refine ⟨?_, ?_⟩; (focus (exact in_nI (by omega) (by omega)))))
      exact hQ
def al1 (k a b : Nat) : Nat := if k = 1 ∨ k = 4 then a * b else if a = b then 1 else 0
def alN (k m x : Nat) : Nat → Nat
  | 0 => 0
  | j + 1 => alN k m x j + al1 k (m / 2 ^ j % 2) (x / 2 ^ j % 2)
theorem al_lk : ∀ k, k < 6 → ∀ m, m < 16 → ∀ x, x < 16 → (if k = 4 then alN k m x 4 + alN k m x 4 else alN k m x 4) = lkN k m x := by decide +kernel
def csL_alike : xCs := []
theorem okL_alike : xOkM mL_alike csL_alike := ⟨dL_alike, by decide +kernel, by decide +kernel, trivial⟩
theorem hhL_alike : ∀ q ∈ csL_alike, xHd q.1 := xall0
theorem kkL_alike : ∀ q ∈ csL_alike, ∀ l, xCon l q.1 q.2 := xall0
def sL_alike : xSpec := xReg fun as I L Q => ∃ (k m x : Nat), as = [.int (nI k), .int (nI m), .int (nI x)] ∧ k < 6 ∧ m < 16 ∧ x < 16 ∧ Q (some (.int (nI (lkN k m x)))) I L
theorem al1_le (k : Nat) {a b : Nat} (ha : a < 2) (hb : b < 2) : al1 k a b ≤ 1 := by
  unfold al1
  split
  · have : a * b ≤ 1 * 1 := Nat.mul_le_mul (by omega) (by omega)
    omega
  · split <;> omega
theorem alN_le (k m x : Nat) : ∀ j, alN k m x j ≤ j
  | 0 => Nat.le_refl 0
  | j + 1 => by
    have ih := alN_le k m x j
    have := al1_le k (Nat.mod_lt (m / 2 ^ j) (show 0 < 2 by decide)) (Nat.mod_lt (x / 2 ^ j) (show 0 < 2 by decide))
    show alN k m x j + al1 k (m / 2 ^ j % 2) (x / 2 ^ j % 2) ≤ j + 1
    omega
set_option maxRecDepth 100000 in
theorem kL_alike : ∀ l, xCon l mL_alike sL_alike := by
  refine xcon_of okL_alike hL_alike rfl hhL_alike kkL_alike ?_
  rintro as n0 I L P Q ⟨hn9, rfl, k, m, x, rfl, hk, hm, hx, hQ⟩
  obtain ⟨e9, rfl⟩ := xe9 hn9
  refine ⟨Nat.le_of_ble_eq_true rfl, ?_⟩
  refine xrun okL_alike hhL_alike [(5, [true, true, true, true, true, false, false])] 20 ?_
  refine xlp (M := mL_alike) (cs := csL_alike) (pc := 5) 4 (fun j => [some (.int (nI k)), some (.int (nI m)), some (.int (nI x)), some (.int (nI (alN k m x j))), some (.int (nI j)), none, none]) (fun _ => I) (fun _ => L) ?_ ?_
  · intro j hj ih
    refine xrun okL_alike hhL_alike [(5, [true, true, true, true, true, false, false])] 60 ?_
    (first | (refine xbr_f ?_ ?_; (focus ((simp (disch := omega) only [ix_lt, ix_le, ix_eq, ix_0, nI_clamp, nI_toInt, ng_T, nI_add, nI_mul, nI_sub', Int.neg_zero, not_false_eq_true, not_true_eq_false] <;> omega); done))) | (refine xbr_t ?_ ?_; (focus ((simp (disch := omega) only [ix_lt, ix_le, ix_eq, ix_0, nI_clamp, nI_toInt, ng_T, nI_add, nI_mul, nI_sub', Int.neg_zero, not_false_eq_true, not_true_eq_false] <;> omega); done))) | refine ⟨Or.inl rfl, ?_⟩ | refine ⟨Or.inr rfl, ?_⟩ | (refine ⟨?_, ?_⟩; (focus (exact in_nI (by omega) (by omega)))))
    have ea : (nI m >>> (nI j &&& 31)) &&& nI 1 = nI (m / 2 ^ j % 2) := by rw [shr_n (by omega) (by omega), fa_and, and_1]
    have eb : (nI x >>> (nI j &&& 31)) &&& nI 1 = nI (x / 2 ^ j % 2) := by rw [shr_n (by omega) (by omega), fa_and, and_1]
    have e : alN k m x (j + 1) = alN k m x j + al1 k (m / 2 ^ j % 2) (x / 2 ^ j % 2) := rfl
    have hn := alN_le k m x j
    obtain ⟨a, ha', ha⟩ : ∃ a, m / 2 ^ j % 2 = a ∧ a < 2 := ⟨_, rfl, Nat.mod_lt _ (by decide)⟩
    obtain ⟨b, hb', hb⟩ : ∃ b, x / 2 ^ j % 2 = b ∧ b < 2 := ⟨_, rfl, Nat.mod_lt _ (by decide)⟩
    rw [ha'] at ea e
    rw [hb'] at eb e
    by_cases h14 : k = 1 ∨ k = 4
    · have e2 : al1 k a b = a * b := if_pos h14
      rw [e2] at e
      by_cases h1 : k = 1
      · (first | (refine xbr_f ?_ ?_; (focus ((simp (disch := omega) only [ix_lt, ix_le, ix_eq, ix_0, nI_clamp, nI_toInt, ng_T, nI_add, nI_mul, nI_sub', Int.neg_zero, not_false_eq_true, not_true_eq_false] <;> omega); done))) | (refine xbr_t ?_ ?_; (focus ((simp (disch := omega) only [ix_lt, ix_le, ix_eq, ix_0, nI_clamp, nI_toInt, ng_T, nI_add, nI_mul, nI_sub', Int.neg_zero, not_false_eq_true, not_true_eq_false] <;> omega); done))) | refine ⟨Or.inl rfl, ?_⟩ | refine ⟨Or.inr rfl, ?_⟩ | (refine ⟨?_, ?_⟩; (focus (exact in_nI (by omega) (by omega)))))
        refine xgo_eq ih ?_ rfl rfl
        ((repeat' (first | (with_reducible rfl) | exact xv_nil | refine xv_cons ?_ ?_ | refine xv_i ?_ | refine xv_l ?_)) <;> (simp (disch := omega) only [↓reduceIte, Bool.false_eq_true, Nat.one_mul, Nat.zero_mul, Nat.or_zero, Nat.add_zero, Nat.zero_add, Bool.toNat_true, Bool.toNat_false, shl_n, shr_n, fa_and, fa_or, nx_xor, nI_add, nI_mul, nI_sub', and_1, and_7, and_3', and_15, e, ha', hb']))
      · (first | (refine xbr_f ?_ ?_; (focus ((simp (disch := omega) only [ix_lt, ix_le, ix_eq, ix_0, nI_clamp, nI_toInt, ng_T, nI_add, nI_mul, nI_sub', Int.neg_zero, not_false_eq_true, not_true_eq_false] <;> omega); done))) | (refine xbr_t ?_ ?_; (focus ((simp (disch := omega) only [ix_lt, ix_le, ix_eq, ix_0, nI_clamp, nI_toInt, ng_T, nI_add, nI_mul, nI_sub', Int.neg_zero, not_false_eq_true, not_true_eq_false] <;> omega); done))) | refine ⟨Or.inl rfl, ?_⟩ | refine ⟨Or.inr rfl, ?_⟩ | (refine ⟨?_, ?_⟩; (focus (exact in_nI (by omega) (by omega)))))
        (first | (refine xbr_f ?_ ?_; (focus ((simp (disch := omega) only [ix_lt, ix_le, ix_eq, ix_0, nI_clamp, nI_toInt, ng_T, nI_add, nI_mul, nI_sub', Int.neg_zero, not_false_eq_true, not_true_eq_false] <;> omega); done))) | (refine xbr_t ?_ ?_; (focus ((simp (disch := omega) only [ix_lt, ix_le, ix_eq, ix_0, nI_clamp, nI_toInt, ng_T, nI_add, nI_mul, nI_sub', Int.neg_zero, not_false_eq_true, not_true_eq_false] <;> omega); done))) | refine ⟨Or.inl rfl, ?_⟩ | refine ⟨Or.inr rfl, ?_⟩ | (refine ⟨?_, ?_⟩; (focus (exact in_nI (by omega) (by omega)))))
        refine xgo_eq ih ?_ rfl rfl
        ((repeat' (first | (with_reducible rfl) | exact xv_nil | refine xv_cons ?_ ?_ | refine xv_i ?_ | refine xv_l ?_)) <;> (simp (disch := omega) only [↓reduceIte, Bool.false_eq_true, Nat.one_mul, Nat.zero_mul, Nat.or_zero, Nat.add_zero, Nat.zero_add, Bool.toNat_true, Bool.toNat_false, shl_n, shr_n, fa_and, fa_or, nx_xor, nI_add, nI_mul, nI_sub', and_1, and_7, and_3', and_15, e, ha', hb']))
    · have e2 : al1 k a b = if a = b then 1 else 0 := if_neg h14
      rw [e2] at e
      (first | (refine xbr_f ?_ ?_; (focus ((simp (disch := omega) only [ix_lt, ix_le, ix_eq, ix_0, nI_clamp, nI_toInt, ng_T, nI_add, nI_mul, nI_sub', Int.neg_zero, not_false_eq_true, not_true_eq_false] <;> omega); done))) | (refine xbr_t ?_ ?_; (focus ((simp (disch := omega) only [ix_lt, ix_le, ix_eq, ix_0, nI_clamp, nI_toInt, ng_T, nI_add, nI_mul, nI_sub', Int.neg_zero, not_false_eq_true, not_true_eq_false] <;> omega); done))) | refine ⟨Or.inl rfl, ?_⟩ | refine ⟨Or.inr rfl, ?_⟩ | (refine ⟨?_, ?_⟩; (focus (exact in_nI (by omega) (by omega)))))
      (first | (refine xbr_f ?_ ?_; (focus ((simp (disch := omega) only [ix_lt, ix_le, ix_eq, ix_0, nI_clamp, nI_toInt, ng_T, nI_add, nI_mul, nI_sub', Int.neg_zero, not_false_eq_true, not_true_eq_false] <;> omega); done))) | (refine xbr_t ?_ ?_; (focus ((simp (disch := omega) only [ix_lt, ix_le, ix_eq, ix_0, nI_clamp, nI_toInt, ng_T, nI_add, nI_mul, nI_sub', Int.neg_zero, not_false_eq_true, not_true_eq_false] <;> omega); done))) | refine ⟨Or.inl rfl, ?_⟩ | refine ⟨Or.inr rfl, ?_⟩ | (refine ⟨?_, ?_⟩; (focus (exact in_nI (by omega) (by omega)))))
      by_cases hab : a = b
      · rw [if_pos hab] at e
        (first | (refine xbr_f ?_ ?_; (focus ((simp (disch := omega) only [ix_lt, ix_le, ix_eq, ix_0, nI_clamp, nI_toInt, ng_T, nI_add, nI_mul, nI_sub', Int.neg_zero, not_false_eq_true, not_true_eq_false, ea, eb] <;> omega); done))) | (refine xbr_t ?_ ?_; (focus ((simp (disch := omega) only [ix_lt, ix_le, ix_eq, ix_0, nI_clamp, nI_toInt, ng_T, nI_add, nI_mul, nI_sub', Int.neg_zero, not_false_eq_true, not_true_eq_false, ea, eb] <;> omega); done))) | refine ⟨Or.inl rfl, ?_⟩ | refine ⟨Or.inr rfl, ?_⟩ | (refine ⟨?_, ?_⟩; (focus ((try simp (disch := omega) only [ea, eb, nI_mul, nI_add, nI_sub']); exact in_nI (by omega) (by omega)))))
        refine xgo_eq ih ?_ rfl rfl
        ((repeat' (first | (with_reducible rfl) | exact xv_nil | refine xv_cons ?_ ?_ | refine xv_i ?_ | refine xv_l ?_)) <;> (simp (disch := omega) only [↓reduceIte, Bool.false_eq_true, Nat.one_mul, Nat.zero_mul, Nat.or_zero, Nat.add_zero, Nat.zero_add, Bool.toNat_true, Bool.toNat_false, shl_n, shr_n, fa_and, fa_or, nx_xor, nI_add, nI_mul, nI_sub', and_1, and_7, and_3', and_15, e]))
      · rw [if_neg hab] at e
        (first | (refine xbr_f ?_ ?_; (focus ((simp (disch := omega) only [ix_lt, ix_le, ix_eq, ix_0, nI_clamp, nI_toInt, ng_T, nI_add, nI_mul, nI_sub', Int.neg_zero, not_false_eq_true, not_true_eq_false, ea, eb] <;> omega); done))) | (refine xbr_t ?_ ?_; (focus ((simp (disch := omega) only [ix_lt, ix_le, ix_eq, ix_0, nI_clamp, nI_toInt, ng_T, nI_add, nI_mul, nI_sub', Int.neg_zero, not_false_eq_true, not_true_eq_false, ea, eb] <;> omega); done))) | refine ⟨Or.inl rfl, ?_⟩ | refine ⟨Or.inr rfl, ?_⟩ | (refine ⟨?_, ?_⟩; (focus ((try simp (disch := omega) only [ea, eb, nI_mul, nI_add, nI_sub']); exact in_nI (by omega) (by omega)))))
        refine xgo_eq ih ?_ rfl rfl
        ((repeat' (first | (with_reducible rfl) | exact xv_nil | refine xv_cons ?_ ?_ | refine xv_i ?_ | refine xv_l ?_)) <;> (simp (disch := omega) only [↓reduceIte, Bool.false_eq_true, Nat.one_mul, Nat.zero_mul, Nat.or_zero, Nat.add_zero, Nat.zero_add, Bool.toNat_true, Bool.toNat_false, shl_n, shr_n, fa_and, fa_or, nx_xor, nI_add, nI_mul, nI_sub', and_1, and_7, and_3', and_15, e]))
  · have e := al_lk k hk m hm x hx
    have hn := alN_le k m x 4
    rw [← e] at hQ
    refine xrun okL_alike hhL_alike [] 60 ?_
    (first | (refine xbr_f ?_ ?_; (focus ((simp (disch := omega) only [ix_lt, ix_le, ix_eq, ix_0, nI_clamp, nI_toInt, ng_T, nI_add, nI_mul, nI_sub', Int.neg_zero, not_false_eq_true, not_true_eq_false] <;> omega); done))) | (refine xbr_t ?_ ?_; (focus ((simp (disch := omega) only [ix_lt, ix_le, ix_eq, ix_0, nI_clamp, nI_toInt, ng_T, nI_add, nI_mul, nI_sub', Int.neg_zero, not_false_eq_true, not_true_eq_false] <;> omega); done))) | refine ⟨Or.inl rfl, ?_⟩ | refine ⟨Or.inr rfl, ?_⟩ | (refine ⟨?_, ?_⟩; (focus (exact in_nI (by omega) (by omega)))))
    by_cases h4 : k = 4
    · rw [if_pos h4, ← nI_add] at hQ
      repeat (first | (refine xbr_f ?_ ?_; (focus ((simp (disch := omega) only [ix_lt, ix_le, ix_eq, ix_0, nI_clamp, nI_toInt, ng_T, nI_add, nI_mul, nI_sub', Int.neg_zero, not_false_eq_true, not_true_eq_false] <;> omega); done))) | (refine xbr_t ?_ ?_; (focus ((simp (disch := omega) only [ix_lt, ix_le, ix_eq, ix_0, nI_clamp, nI_toInt, ng_T, nI_add, nI_mul, nI_sub', Int.neg_zero, not_false_eq_true, not_true_eq_false] <;> omega); done))) | refine ⟨Or.inl rfl, ?_⟩ | refine ⟨Or.inr rfl, ?_⟩ | (refine ⟨?_, ?_⟩; (focus (exact in_nI (by omega) (by omega)))))
      exact hQ
    · rw [if_neg h4] at hQ
      repeat (first | (refine xbr_f ?_ ?_; (focus ((simp (disch := omega) only [ix_lt, ix_le, ix_eq, ix_0, nI_clamp, nI_toInt, ng_T, nI_add, nI_mul, nI_sub', Int.neg_zero, not_false_eq_true, not_true_eq_false] <;> omega); done))) | (refine xbr_t ?_ ?_; (focus ((simp (disch := omega) only [ix_lt, ix_le, ix_eq, ix_0, nI_clamp, nI_toInt, ng_T, nI_add, nI_mul, nI_sub', Int.neg_zero, not_false_eq_true, not_true_eq_false] <;> omega); done))) | refine ⟨Or.inl rfl, ?_⟩ | refine ⟨Or.inr rfl, ?_⟩ | (refine ⟨?_, ?_⟩; (focus (exact in_nI (by omega) (by omega)))))
      exact hQ
theorem ix3 {c k : Nat} (h : c + 3 * k < 2 ^ 31) : (nI c + nI 3 * nI k).toNatClampNeg = c + 3 * k := by rw [nI_mul, nI_add, nI_clamp h]
theorem in3 {c k : Nat} (h : c + 3 * k < 64) : vp_in (nI c + nI 3 * nI k) 64 := by
  rw [nI_mul, nI_add]
  exact in_nI h (by decide)
def csL_like : xCs := [(mL_alike, sL_alike)]
theorem okL_like : xOkM mL_like csL_like := ⟨dL_like, by decide +kernel, by decide +kernel, ⟨wdL_39, trivial⟩⟩
theorem hhL_like : ∀ q ∈ csL_like, xHd q.1 := xall1 hL_alike (xall0)
theorem kkL_like : ∀ q ∈ csL_like, ∀ l, xCon l q.1 q.2 := xall1 kL_alike (xall0)
def sL_like : xSpec := xRg7 fun as I L Q => ∃ (d : PD) (X i l : Nat), as = [.ref 27, .int (nI i), .int (nI l)] ∧ d.ok ∧ WA d X (I 27) ∧ i < d.nA ∧ l < d.nL ∧ Q (some (.int (nI (lkN (kdN d i) (meN X i) (mkN X l))))) I L
set_option maxRecDepth 100000 in
theorem kL_like : ∀ l, xCon l mL_like sL_like := by
  refine xcon_of okL_like hL_like rfl hhL_like kkL_like ?_
  rintro as n0 I L P Q ⟨hn9, rfl, d, X, i, l, rfl, hd, ⟨w0, w1, w2, w3, w4⟩, hi, hl, hQ⟩
  obtain ⟨e9, rfl⟩ := xe7 hn9
  refine ⟨Nat.le_of_ble_eq_true rfl, ?_⟩
  have h4 := hd.a4
  have h5 := hd.l5
  refine xrun okL_like hhL_like [] 40 ?_
  refine ⟨in3 (by omega), in3 (by omega), in3 (by omega), rfl, rfl, kdN d i, meN X i, mkN X l, ?_, hd.k6 i, meN_16 X i, mkN_16 X l, hQ⟩
  rw [ix3 (by omega), ix3 (by omega), ix3 (by omega), (w3 i hi).1, (w3 i hi).2.1, (w4 l hl).1]
def csL_home : xCs := []
theorem okL_home : xOkM mL_home csL_home := ⟨dL_home, by decide +kernel, by decide +kernel, trivial⟩
theorem hhL_home : ∀ q ∈ csL_home, xHd q.1 := xall0
theorem kkL_home : ∀ q ∈ csL_home, ∀ l, xCon l q.1 q.2 := xall0
def sL_home : xSpec := xRg7 fun as I L Q => ∃ (d : PD) (X l : Nat), as = [.ref 27, .int (nI l)] ∧ d.ok ∧ WA d X (I 27) ∧ l < d.nL ∧ Q (some (.int (bI (hmB d X l)))) I L
set_option maxRecDepth 100000 in
theorem kL_home : ∀ l, xCon l mL_home sL_home := by
  refine xcon_of okL_home hL_home rfl hhL_home kkL_home ?_
  rintro as n0 I L P Q ⟨hn9, rfl, d, X, l, rfl, hd, ⟨w0, w1, w2, w3, w4⟩, hl, hQ⟩
  obtain ⟨e9, rfl⟩ := xe7 hn9
  refine ⟨Nat.le_of_ble_eq_true rfl, ?_⟩
  have h4 := hd.a4
  have h5 := hd.l5
  refine xrun okL_home hhL_home [] 40 ?_
  refine ⟨in3 (by omega), in3 (by omega), ?_⟩
  have e1 : I 27 (nI 22 + nI 3 * nI l).toNatClampNeg = nI (plN X l) := by rw [ix3 (by omega), (w4 l hl).2.1]
  have e2 : I 27 (nI 23 + nI 3 * nI l).toNatClampNeg = nI (hmN d l) := by rw [ix3 (by omega), (w4 l hl).2.2]
  have h1 := plN_8 X l
  have h2 := hmN_8 d l
  by_cases h : plN X l = hmN d l
  · have e : hmB d X l = true := decide_eq_true h
    rw [e] at hQ
    rw [e1, e2]
    (first | (refine xbr_f ?_ ?_; (focus ((simp (disch := omega) only [ix_lt, ix_le, ix_eq, ix_0, nI_clamp, nI_toInt, ng_T, nI_add, nI_mul, nI_sub', Int.neg_zero, not_false_eq_true, not_true_eq_false] <;> omega); done))) | (refine xbr_t ?_ ?_; (focus ((simp (disch := omega) only [ix_lt, ix_le, ix_eq, ix_0, nI_clamp, nI_toInt, ng_T, nI_add, nI_mul, nI_sub', Int.neg_zero, not_false_eq_true, not_true_eq_false] <;> omega); done))) | refine ⟨Or.inl rfl, ?_⟩ | refine ⟨Or.inr rfl, ?_⟩ | (refine ⟨?_, ?_⟩; (focus (exact in_nI (by omega) (by omega)))))
    repeat (first | (refine xbr_f ?_ ?_; (focus ((simp (disch := omega) only [ix_lt, ix_le, ix_eq, ix_0, nI_clamp, nI_toInt, ng_T, nI_add, nI_mul, nI_sub', Int.neg_zero, not_false_eq_true, not_true_eq_false] <;> omega); done))) | (refine xbr_t ?_ ?_; (focus ((simp (disch := omega) only [ix_lt, ix_le, ix_eq, ix_0, nI_clamp, nI_toInt, ng_T, nI_add, nI_mul, nI_sub', Int.neg_zero, not_false_eq_true, not_true_eq_false] <;> omega); done))) | refine ⟨Or.inl rfl, ?_⟩ | refine ⟨Or.inr rfl, ?_⟩ | (refine ⟨?_, ?_⟩; (focus (exact in_nI (by omega) (by omega)))))
    exact hQ
  · have e : hmB d X l = false := decide_eq_false h
    rw [e] at hQ
    rw [e1, e2]
    (first | (refine xbr_f ?_ ?_; (focus ((simp (disch := omega) only [ix_lt, ix_le, ix_eq, ix_0, nI_clamp, nI_toInt, ng_T, nI_add, nI_mul, nI_sub', Int.neg_zero, not_false_eq_true, not_true_eq_false] <;> omega); done))) | (refine xbr_t ?_ ?_; (focus ((simp (disch := omega) only [ix_lt, ix_le, ix_eq, ix_0, nI_clamp, nI_toInt, ng_T, nI_add, nI_mul, nI_sub', Int.neg_zero, not_false_eq_true, not_true_eq_false] <;> omega); done))) | refine ⟨Or.inl rfl, ?_⟩ | refine ⟨Or.inr rfl, ?_⟩ | (refine ⟨?_, ?_⟩; (focus (exact in_nI (by omega) (by omega)))))
    repeat (first | (refine xbr_f ?_ ?_; (focus ((simp (disch := omega) only [ix_lt, ix_le, ix_eq, ix_0, nI_clamp, nI_toInt, ng_T, nI_add, nI_mul, nI_sub', Int.neg_zero, not_false_eq_true, not_true_eq_false] <;> omega); done))) | (refine xbr_t ?_ ?_; (focus ((simp (disch := omega) only [ix_lt, ix_le, ix_eq, ix_0, nI_clamp, nI_toInt, ng_T, nI_add, nI_mul, nI_sub', Int.neg_zero, not_false_eq_true, not_true_eq_false] <;> omega); done))) | refine ⟨Or.inl rfl, ?_⟩ | refine ⟨Or.inr rfl, ?_⟩ | (refine ⟨?_, ?_⟩; (focus (exact in_nI (by omega) (by omega)))))
    exact hQ
/-- the most so far, as the law has it -/
def mtN (d : PD) (X i g l : Nat) : Nat := if (chN d X i g l).1 = 0 then lsN (kdN d i) - 1 else (chN d X i g l).2
theorem mt_skip {d : PD} {X i g l : Nat} (h : puN d X i g l ≤ (chN d X i g l).2) : chN d X i g (l + 1) = chN d X i g l := by
  rw [chN_s, if_neg (by unfold puN at h; omega)]
theorem mt_iff {d : PD} {X i g l : Nat} (h1 : plN X l = inN X i) (h2 : hmB d X l = false) (h3 : tbB g l = false) : (chN d X i g l).2 < puN d X i g l ↔ mtN d X i g l < lkN (kdN d i) (meN X i) (mkN X l) := by
  rw [puN_g h3, pullN_of h1 (of_decide_eq_false h2)]
  have hn := lsN_1 (kdN d i)
  rcases chN_sp d X i g l with ⟨q1, q2, _⟩ | ⟨t, q1, q2, q3, q4, _⟩
  · have e : mtN d X i g l = lsN (kdN d i) - 1 := if_pos q1
    rw [e, q2]
    split <;> omega
  · have e : mtN d X i g l = (chN d X i g l).2 := if_neg (by omega)
    rw [e, q3]
    obtain ⟨p1, p2⟩ := puN_p q4
    rw [p2] at q4 ⊢
    obtain ⟨_, _, p3, p4⟩ := pullN_p q4
    rw [p4]
    split <;> omega
theorem mt_take {d : PD} {X i g l : Nat} (h1 : plN X l = inN X i) (h2 : hmB d X l = false) (h3 : tbB g l = false) (h : mtN d X i g l < lkN (kdN d i) (meN X i) (mkN X l)) : (chN d X i g (l + 1)).1 = l + 1 ∧ mtN d X i g (l + 1) = lkN (kdN d i) (meN X i) (mkN X l) := by
  have h' := (mt_iff h1 h2 h3).mpr h
  have e : chN d X i g (l + 1) = (l + 1, puN d X i g l) := by
    rw [chN_s]
    exact if_pos h'
  have hp : 0 < puN d X i g l := by omega
  obtain ⟨p1, p2⟩ := puN_p hp
  rw [p2] at hp
  obtain ⟨_, _, p3, p4⟩ := pullN_p hp
  refine ⟨by rw [e], ?_⟩
  unfold mtN
  rw [e, if_neg (by show ¬ l + 1 = 0; omega)]
  show puN d X i g l = _
  rw [p2, p4]
theorem mt_le (d : PD) (X i g l : Nat) : mtN d X i g l ≤ 8 := by
  have h1 := lsN_le (kdN d i)
  have h2 := (chN_le d X i g l).2
  unfold mtN
  split <;> omega
theorem pu_h {d : PD} {X i g l : Nat} (h : hmB d X l = true) : puN d X i g l = 0 := by
  have e : pullN d X i l = 0 := if_neg (fun q => q.2 (of_decide_eq_true h))
  unfold puN
  rw [e]
  split <;> rfl
theorem pu_p {d : PD} {X i g l : Nat} (h : ¬ plN X l = inN X i) : puN d X i g l = 0 := by
  have e : pullN d X i l = 0 := if_neg (fun q => h q.1)
  unfold puN
  rw [e]
  split <;> rfl
def csL_takes : xCs := [(mL_need, sL_need), (mL_home, sL_home), (mL_like, sL_like)]
theorem okL_takes : xOkM mL_takes csL_takes := ⟨dL_takes, by decide +kernel, by decide +kernel, ⟨wdL_46, wdL_42, wdL_49, wdL_49, trivial⟩⟩
theorem hhL_takes : ∀ q ∈ csL_takes, xHd q.1 := xall1 hL_need (xall1 hL_home (xall1 hL_like (xall0)))
theorem kkL_takes : ∀ q ∈ csL_takes, ∀ l, xCon l q.1 q.2 := xall1 kL_need (xall1 kL_home (xall1 kL_like (xall0)))
def sL_takes : xSpec := xRg7 fun as I L Q => ∃ (d : PD) (X i g : Nat), as = [.ref 27, .int (nI i), .int (nI g)] ∧ d.ok ∧ WA d X (I 27) ∧ i < d.nA ∧ g < 32 ∧ Q (some (.int (cI (chN d X i g d.nL).1))) I L
set_option maxRecDepth 100000 in
theorem kL_takes : ∀ l, xCon l mL_takes sL_takes := by
  refine xcon_of okL_takes hL_takes rfl hhL_takes kkL_takes ?_
  rintro as n0 I L P Q ⟨hn9, rfl, d, X, i, g, rfl, hd, hW, hi, hg, hQ⟩
  obtain ⟨e9, rfl⟩ := xe7 hn9
  obtain ⟨w0, w1, w2, w3, w4⟩ := hW
  have hW : WA d X (I 27) := ⟨w0, w1, w2, w3, w4⟩
  refine ⟨Nat.le_of_ble_eq_true rfl, ?_⟩
  have h4 := hd.a4
  have h5 := hd.l5
  have hs := lsN_1 (kdN d i)
  have hs2 := lsN_le (kdN d i)
  refine xrun okL_takes hhL_takes [(21, [true, true, true, true, true, true])] 30 ?_
  refine ⟨in3 (by omega), rfl, rfl, kdN d i, ?_, hd.k6 i, ?_⟩
  · rw [ix3 (by omega), (w3 i hi).1]
  refine xgo_eq (xlp (M := mL_takes) (cs := csL_takes) (pc := 21) d.nL (fun l => [some (.ref 27), some (.int (nI i)), some (.int (nI g)), some (.int (cI (chN d X i g l).1)), some (.int (nI (mtN d X i g l))), some (.int (nI l))]) (fun _ => I) (fun _ => L) ?_ ?_) ?_ rfl rfl
  · intro l hl ih
    refine xrun okL_takes hhL_takes [(21, [true, true, true, true, true, true])] 80 ?_
    (first | (refine xbr_f ?_ ?_; (focus ((simp (disch := omega) only [ix_lt, ix_le, ix_eq, ix_0, nI_clamp, nI_toInt, ng_T, nI_add, nI_mul, nI_sub', Int.neg_zero, not_false_eq_true, not_true_eq_false] <;> omega); done))) | (refine xbr_t ?_ ?_; (focus ((simp (disch := omega) only [ix_lt, ix_le, ix_eq, ix_0, nI_clamp, nI_toInt, ng_T, nI_add, nI_mul, nI_sub', Int.neg_zero, not_false_eq_true, not_true_eq_false] <;> omega); done))) | refine ⟨Or.inl rfl, ?_⟩ | refine ⟨Or.inr rfl, ?_⟩ | (refine ⟨?_, ?_⟩; (focus (exact in_nI (by omega) (by omega)))))
    (first | (refine xbr_f ?_ ?_; (focus ((simp (disch := omega) only [ix_lt, ix_le, ix_eq, ix_0, nI_clamp, nI_toInt, ng_T, nI_add, nI_mul, nI_sub', Int.neg_zero, not_false_eq_true, not_true_eq_false, w1] <;> omega); done))) | (refine xbr_t ?_ ?_; (focus ((simp (disch := omega) only [ix_lt, ix_le, ix_eq, ix_0, nI_clamp, nI_toInt, ng_T, nI_add, nI_mul, nI_sub', Int.neg_zero, not_false_eq_true, not_true_eq_false, w1] <;> omega); done))) | refine ⟨Or.inl rfl, ?_⟩ | refine ⟨Or.inr rfl, ?_⟩ | (refine ⟨?_, ?_⟩; (focus ((try simp (disch := omega) only [w1, nI_mul, nI_add, nI_sub']); exact in_nI (by omega) (by omega)))))
    refine ⟨in3 (by omega), in3 (by omega), ?_⟩
    have e1 : I 27 (nI 22 + nI 3 * nI l).toNatClampNeg = nI (plN X l) := by rw [ix3 (by omega), (w4 l hl).2.1]
    have e2 : I 27 (nI 11 + nI 3 * nI i).toNatClampNeg = nI (inN X i) := by rw [ix3 (by omega), (w3 i hi).2.2]
    have b1 := plN_8 X l
    have b2 := inN_8 X i
    have b3 := mt_le d X i g l
    have b4 := lkN_le (k := kdN d i) (m := meN X i) (x := mkN X l) (meN_16 X i)
    rw [e1, e2]
    by_cases h1 : plN X l = inN X i
    · (first | (refine xbr_f ?_ ?_; (focus ((simp (disch := omega) only [ix_lt, ix_le, ix_eq, ix_0, nI_clamp, nI_toInt, ng_T, nI_add, nI_mul, nI_sub', Int.neg_zero, not_false_eq_true, not_true_eq_false] <;> omega); done))) | (refine xbr_t ?_ ?_; (focus ((simp (disch := omega) only [ix_lt, ix_le, ix_eq, ix_0, nI_clamp, nI_toInt, ng_T, nI_add, nI_mul, nI_sub', Int.neg_zero, not_false_eq_true, not_true_eq_false] <;> omega); done))) | refine ⟨Or.inl rfl, ?_⟩ | refine ⟨Or.inr rfl, ?_⟩ | (refine ⟨?_, ?_⟩; (focus (exact in_nI (by omega) (by omega)))))
      refine ⟨rfl, rfl, d, X, l, rfl, hd, hW, hl, ?_⟩
      cases h2 : hmB d X l
      · (first | refine xbr_t (by decide) ?_ | refine xbr_f (by decide) ?_)
        have e3 : (nI g >>> (nI l &&& 31)) &&& nI 1 = bI (tbB g l) := bit_i (by omega) (by omega)
        cases h3 : tbB g l
        · have e4 : (nI g >>> (nI l &&& 31)) &&& nI 1 = 0 := by rw [e3, h3]; rfl
          (first | refine xbr_t e4 ?_ | refine xbr_f e4 ?_)
          refine ⟨rfl, rfl, d, X, i, l, rfl, hd, hW, hi, hl, ?_⟩
          by_cases h : mtN d X i g l < lkN (kdN d i) (meN X i) (mkN X l)
          · (first | (refine xbr_f ?_ ?_; (focus ((simp (disch := omega) only [ix_lt, ix_le, ix_eq, ix_0, nI_clamp, nI_toInt, ng_T, nI_add, nI_mul, nI_sub', Int.neg_zero, not_false_eq_true, not_true_eq_false] <;> omega); done))) | (refine xbr_t ?_ ?_; (focus ((simp (disch := omega) only [ix_lt, ix_le, ix_eq, ix_0, nI_clamp, nI_toInt, ng_T, nI_add, nI_mul, nI_sub', Int.neg_zero, not_false_eq_true, not_true_eq_false] <;> omega); done))) | refine ⟨Or.inl rfl, ?_⟩ | refine ⟨Or.inr rfl, ?_⟩ | (refine ⟨?_, ?_⟩; (focus (exact in_nI (by omega) (by omega)))))
            refine ⟨rfl, rfl, d, X, i, l, rfl, hd, hW, hi, hl, ?_⟩
            obtain ⟨q1, q2⟩ := mt_take h1 h2 h3 h
            refine xgo_eq ih ?_ rfl rfl
            ((repeat' (first | (with_reducible rfl) | exact xv_nil | refine xv_cons ?_ ?_ | refine xv_i ?_ | refine xv_l ?_)) <;> (simp (disch := omega) only [↓reduceIte, Bool.false_eq_true, Nat.one_mul, Nat.zero_mul, Nat.or_zero, Nat.add_zero, Nat.zero_add, Bool.toNat_true, Bool.toNat_false, shl_n, shr_n, fa_and, fa_or, nx_xor, nI_add, nI_mul, nI_sub', and_1, and_7, and_3', and_15, q1, q2, cI_s]))
          · (first | (refine xbr_f ?_ ?_; (focus ((simp (disch := omega) only [ix_lt, ix_le, ix_eq, ix_0, nI_clamp, nI_toInt, ng_T, nI_add, nI_mul, nI_sub', Int.neg_zero, not_false_eq_true, not_true_eq_false] <;> omega); done))) | (refine xbr_t ?_ ?_; (focus ((simp (disch := omega) only [ix_lt, ix_le, ix_eq, ix_0, nI_clamp, nI_toInt, ng_T, nI_add, nI_mul, nI_sub', Int.neg_zero, not_false_eq_true, not_true_eq_false] <;> omega); done))) | refine ⟨Or.inl rfl, ?_⟩ | refine ⟨Or.inr rfl, ?_⟩ | (refine ⟨?_, ?_⟩; (focus (exact in_nI (by omega) (by omega)))))
            have q := mt_skip (d := d) (X := X) (i := i) (g := g) (l := l) (by have := mt_iff h1 h2 h3; omega)
            refine xgo_eq ih ?_ rfl rfl
            ((repeat' (first | (with_reducible rfl) | exact xv_nil | refine xv_cons ?_ ?_ | refine xv_i ?_ | refine xv_l ?_)) <;> (simp (disch := omega) only [↓reduceIte, Bool.false_eq_true, Nat.one_mul, Nat.zero_mul, Nat.or_zero, Nat.add_zero, Nat.zero_add, Bool.toNat_true, Bool.toNat_false, shl_n, shr_n, fa_and, fa_or, nx_xor, nI_add, nI_mul, nI_sub', and_1, and_7, and_3', and_15, q, mtN]))
        · have e4 : ¬ (nI g >>> (nI l &&& 31)) &&& nI 1 = 0 := by rw [e3, h3]; decide
          (first | refine xbr_t e4 ?_ | refine xbr_f e4 ?_)
          have q := mt_skip (d := d) (X := X) (i := i) (g := g) (l := l) (by unfold puN; rw [h3]; exact Nat.zero_le _)
          refine xgo_eq ih ?_ rfl rfl
          ((repeat' (first | (with_reducible rfl) | exact xv_nil | refine xv_cons ?_ ?_ | refine xv_i ?_ | refine xv_l ?_)) <;> (simp (disch := omega) only [↓reduceIte, Bool.false_eq_true, Nat.one_mul, Nat.zero_mul, Nat.or_zero, Nat.add_zero, Nat.zero_add, Bool.toNat_true, Bool.toNat_false, shl_n, shr_n, fa_and, fa_or, nx_xor, nI_add, nI_mul, nI_sub', and_1, and_7, and_3', and_15, q, mtN]))
      · (first | refine xbr_t (by decide) ?_ | refine xbr_f (by decide) ?_)
        have q := mt_skip (d := d) (X := X) (i := i) (g := g) (l := l) (by rw [pu_h h2]; exact Nat.zero_le _)
        refine xgo_eq ih ?_ rfl rfl
        ((repeat' (first | (with_reducible rfl) | exact xv_nil | refine xv_cons ?_ ?_ | refine xv_i ?_ | refine xv_l ?_)) <;> (simp (disch := omega) only [↓reduceIte, Bool.false_eq_true, Nat.one_mul, Nat.zero_mul, Nat.or_zero, Nat.add_zero, Nat.zero_add, Bool.toNat_true, Bool.toNat_false, shl_n, shr_n, fa_and, fa_or, nx_xor, nI_add, nI_mul, nI_sub', and_1, and_7, and_3', and_15, q, mtN]))
    · (first | (refine xbr_f ?_ ?_; (focus ((simp (disch := omega) only [ix_lt, ix_le, ix_eq, ix_0, nI_clamp, nI_toInt, ng_T, nI_add, nI_mul, nI_sub', Int.neg_zero, not_false_eq_true, not_true_eq_false] <;> omega); done))) | (refine xbr_t ?_ ?_; (focus ((simp (disch := omega) only [ix_lt, ix_le, ix_eq, ix_0, nI_clamp, nI_toInt, ng_T, nI_add, nI_mul, nI_sub', Int.neg_zero, not_false_eq_true, not_true_eq_false] <;> omega); done))) | refine ⟨Or.inl rfl, ?_⟩ | refine ⟨Or.inr rfl, ?_⟩ | (refine ⟨?_, ?_⟩; (focus (exact in_nI (by omega) (by omega)))))
      have q := mt_skip (d := d) (X := X) (i := i) (g := g) (l := l) (by rw [pu_p h1]; exact Nat.zero_le _)
      refine xgo_eq ih ?_ rfl rfl
      ((repeat' (first | (with_reducible rfl) | exact xv_nil | refine xv_cons ?_ ?_ | refine xv_i ?_ | refine xv_l ?_)) <;> (simp (disch := omega) only [↓reduceIte, Bool.false_eq_true, Nat.one_mul, Nat.zero_mul, Nat.or_zero, Nat.add_zero, Nat.zero_add, Bool.toNat_true, Bool.toNat_false, shl_n, shr_n, fa_and, fa_or, nx_xor, nI_add, nI_mul, nI_sub', and_1, and_7, and_3', and_15, q, mtN]))
  · refine xrun okL_takes hhL_takes [] 60 ?_
    (first | (refine xbr_f ?_ ?_; (focus ((simp (disch := omega) only [ix_lt, ix_le, ix_eq, ix_0, nI_clamp, nI_toInt, ng_T, nI_add, nI_mul, nI_sub', Int.neg_zero, not_false_eq_true, not_true_eq_false] <;> omega); done))) | (refine xbr_t ?_ ?_; (focus ((simp (disch := omega) only [ix_lt, ix_le, ix_eq, ix_0, nI_clamp, nI_toInt, ng_T, nI_add, nI_mul, nI_sub', Int.neg_zero, not_false_eq_true, not_true_eq_false] <;> omega); done))) | refine ⟨Or.inl rfl, ?_⟩ | refine ⟨Or.inr rfl, ?_⟩ | (refine ⟨?_, ?_⟩; (focus (exact in_nI (by omega) (by omega)))))
    (first | (refine xbr_f ?_ ?_; (focus ((simp (disch := omega) only [ix_lt, ix_le, ix_eq, ix_0, nI_clamp, nI_toInt, ng_T, nI_add, nI_mul, nI_sub', Int.neg_zero, not_false_eq_true, not_true_eq_false, w1] <;> omega); done))) | (refine xbr_t ?_ ?_; (focus ((simp (disch := omega) only [ix_lt, ix_le, ix_eq, ix_0, nI_clamp, nI_toInt, ng_T, nI_add, nI_mul, nI_sub', Int.neg_zero, not_false_eq_true, not_true_eq_false, w1] <;> omega); done))) | refine ⟨Or.inl rfl, ?_⟩ | refine ⟨Or.inr rfl, ?_⟩ | (refine ⟨?_, ?_⟩; (focus ((try simp (disch := omega) only [w1, nI_mul, nI_add, nI_sub']); exact in_nI (by omega) (by omega)))))
    exact hQ
  · have e : mtN d X i g 0 = lsN (kdN d i) - 1 := if_pos rfl
    have e2 : cI (chN d X i g 0).1 = -(nI 9) := rfl
    ((repeat' (first | (with_reducible rfl) | exact xv_nil | refine xv_cons ?_ ?_ | refine xv_i ?_ | refine xv_l ?_)) <;> (simp (disch := omega) only [↓reduceIte, Bool.false_eq_true, Nat.one_mul, Nat.zero_mul, Nat.or_zero, Nat.add_zero, Nat.zero_add, Bool.toNat_true, Bool.toNat_false, shl_n, shr_n, fa_and, fa_or, nx_xor, nI_add, nI_mul, nI_sub', and_1, and_7, and_3', and_15, e, e2]))
/-- the law's row of who takes what -/
def dgN (c : Nat) : Nat := if c = 0 then 9 else c - 1
def rwN (d : PD) (X : Nat) : Nat → Nat
  | 0 => 0
  | i + 1 => 10 * rwN d X i + dgN (coN d X 15 i)
theorem dg_lt {d : PD} (hd : d.ok) (X i : Nat) : dgN (coN d X 15 i) < 10 := by
  have := coN_le d X 15 i
  have := hd.l5
  unfold dgN
  split <;> omega
theorem rwN_lt {d : PD} (hd : d.ok) (X : Nat) : ∀ i, rwN d X i < 10 ^ i
  | 0 => Nat.one_pos
  | i + 1 => by
    have ih := rwN_lt hd X i
    have := dg_lt hd X i
    show 10 * rwN d X i + dgN (coN d X 15 i) < 10 ^ (i + 1)
    rw [Nat.pow_succ]
    omega
theorem rwN_b {d : PD} (hd : d.ok) (X : Nat) {i : Nat} (hi : i ≤ 4) : rwN d X i < 10000 := Nat.lt_of_lt_of_le (rwN_lt hd X i) (Nat.pow_le_pow_right (n := 10) (j := 4) (by decide) hi)
theorem tb_15 : ∀ i, i < 4 → tbB 15 i = true := by decide
theorem tk27_32 {d : PD} (hd : d.ok) (X w p : Nat) : (tkN d X 27 w p).2 < 32 := (tkN_lt hd X 27 w p).2
def csL_line : xCs := [(mL_takes, sL_takes)]
theorem okL_line : xOkM mL_line csL_line := ⟨dL_line, by decide +kernel, by decide +kernel, ⟨wdL_53, trivial⟩⟩
theorem hhL_line : ∀ q ∈ csL_line, xHd q.1 := xall1 hL_takes (xall0)
theorem kkL_line : ∀ q ∈ csL_line, ∀ l, xCon l q.1 q.2 := xall1 kL_takes (xall0)
def sL_line : xSpec := xRg7 fun as I L Q => ∃ (d : PD) (X : Nat), as = [.ref 27, .int (nI 0)] ∧ d.ok ∧ WA d X (I 27) ∧ Q (some (.int (nI (rwN d X d.nA)))) I L
set_option maxRecDepth 100000 in
theorem kL_line : ∀ l, xCon l mL_line sL_line := by
  refine xcon_of okL_line hL_line rfl hhL_line kkL_line ?_
  rintro as n0 I L P Q ⟨hn9, rfl, d, X, rfl, hd, hW, hQ⟩
  obtain ⟨e9, rfl⟩ := xe7 hn9
  have w0 := hW.1
  refine ⟨Nat.le_of_ble_eq_true rfl, ?_⟩
  have h4 := hd.a4
  have h5 := hd.l5
  refine xrun okL_line hhL_line [(7, [true, true, true, true, true, false])] 20 ?_
  refine xlp (M := mL_line) (cs := csL_line) (pc := 7) d.nA (fun i => [some (.ref 27), some (.int (nI 0)), some (.int (nI (tkN d X 27 15 i).2)), some (.int (nI (rwN d X i))), some (.int (nI i)), none]) (fun _ => I) (fun _ => L) ?_ ?_
  · intro i hi ih
    have b1 := tk27_32 hd X 15 i
    have b2 := rwN_b hd X (i := i) (by omega)
    have e0 : (nI 0 >>> (nI i &&& 31)) &&& nI 1 = nI 0 := by
      rw [shr_n (by decide) (by omega), Nat.zero_div]
      decide
    refine xrun okL_line hhL_line [(7, [true, true, true, true, true, false])] 80 ?_
    (first | (refine xbr_f ?_ ?_; (focus ((simp (disch := omega) only [ix_lt, ix_le, ix_eq, ix_0, nI_clamp, nI_toInt, ng_T, nI_add, nI_mul, nI_sub', Int.neg_zero, not_false_eq_true, not_true_eq_false] <;> omega); done))) | (refine xbr_t ?_ ?_; (focus ((simp (disch := omega) only [ix_lt, ix_le, ix_eq, ix_0, nI_clamp, nI_toInt, ng_T, nI_add, nI_mul, nI_sub', Int.neg_zero, not_false_eq_true, not_true_eq_false] <;> omega); done))) | refine ⟨Or.inl rfl, ?_⟩ | refine ⟨Or.inr rfl, ?_⟩ | (refine ⟨?_, ?_⟩; (focus (exact in_nI (by omega) (by omega)))))
    (first | (refine xbr_f ?_ ?_; (focus ((simp (disch := omega) only [ix_lt, ix_le, ix_eq, ix_0, nI_clamp, nI_toInt, ng_T, nI_add, nI_mul, nI_sub', Int.neg_zero, not_false_eq_true, not_true_eq_false, w0] <;> omega); done))) | (refine xbr_t ?_ ?_; (focus ((simp (disch := omega) only [ix_lt, ix_le, ix_eq, ix_0, nI_clamp, nI_toInt, ng_T, nI_add, nI_mul, nI_sub', Int.neg_zero, not_false_eq_true, not_true_eq_false, w0] <;> omega); done))) | refine ⟨Or.inl rfl, ?_⟩ | refine ⟨Or.inr rfl, ?_⟩ | (refine ⟨?_, ?_⟩; (focus ((try simp (disch := omega) only [w0, nI_mul, nI_add, nI_sub']); exact in_nI (by omega) (by omega)))))
    (first | (refine xbr_f ?_ ?_; (focus ((simp (disch := omega) only [ix_lt, ix_le, ix_eq, ix_0, nI_clamp, nI_toInt, ng_T, nI_add, nI_mul, nI_sub', Int.neg_zero, not_false_eq_true, not_true_eq_false, e0] <;> omega); done))) | (refine xbr_t ?_ ?_; (focus ((simp (disch := omega) only [ix_lt, ix_le, ix_eq, ix_0, nI_clamp, nI_toInt, ng_T, nI_add, nI_mul, nI_sub', Int.neg_zero, not_false_eq_true, not_true_eq_false, e0] <;> omega); done))) | refine ⟨Or.inl rfl, ?_⟩ | refine ⟨Or.inr rfl, ?_⟩ | (refine ⟨?_, ?_⟩; (focus ((try simp (disch := omega) only [e0, nI_mul, nI_add, nI_sub']); exact in_nI (by omega) (by omega)))))
    refine ⟨rfl, rfl, d, X, i, (tkN d X 27 15 i).2, rfl, hd, hW, hi, b1, ?_⟩
    have e : (chN d X i (tkN d X 27 15 i).2 d.nL).1 = coN d X 15 i := (if_pos (tb_15 i (by omega))).symm
    rw [e]
    have hc := coN_le d X 15 i
    have er : rwN d X (i + 1) = 10 * rwN d X i + dgN (coN d X 15 i) := rfl
    have et := tk27_s d X 15 (p := i) (by omega)
    generalize coN d X 15 i = c at *
    rcases c with _ | c
    · rw [cI_0]
      have et : tkN d X 27 15 (i + 1) = tkN d X 27 15 i := et
      have er : rwN d X (i + 1) = 10 * rwN d X i + 9 := er
      (first | (refine xbr_f ?_ ?_; (focus ((simp (disch := omega) only [ix_lt, ix_le, ix_eq, ix_0, nI_clamp, nI_toInt, ng_T, nI_add, nI_mul, nI_sub', Int.neg_zero, not_false_eq_true, not_true_eq_false] <;> omega); done))) | (refine xbr_t ?_ ?_; (focus ((simp (disch := omega) only [ix_lt, ix_le, ix_eq, ix_0, nI_clamp, nI_toInt, ng_T, nI_add, nI_mul, nI_sub', Int.neg_zero, not_false_eq_true, not_true_eq_false] <;> omega); done))) | refine ⟨Or.inl rfl, ?_⟩ | refine ⟨Or.inr rfl, ?_⟩ | (refine ⟨?_, ?_⟩; (focus (exact in_nI (by omega) (by omega)))))
      (first | (refine xbr_f ?_ ?_; (focus ((simp (disch := omega) only [ix_lt, ix_le, ix_eq, ix_0, nI_clamp, nI_toInt, ng_T, nI_add, nI_mul, nI_sub', Int.neg_zero, not_false_eq_true, not_true_eq_false] <;> omega); done))) | (refine xbr_t ?_ ?_; (focus ((simp (disch := omega) only [ix_lt, ix_le, ix_eq, ix_0, nI_clamp, nI_toInt, ng_T, nI_add, nI_mul, nI_sub', Int.neg_zero, not_false_eq_true, not_true_eq_false] <;> omega); done))) | refine ⟨Or.inl rfl, ?_⟩ | refine ⟨Or.inr rfl, ?_⟩ | (refine ⟨?_, ?_⟩; (focus (exact in_nI (by omega) (by omega)))))
      refine xgo_eq ih ?_ rfl rfl
      ((repeat' (first | (with_reducible rfl) | exact xv_nil | refine xv_cons ?_ ?_ | refine xv_i ?_ | refine xv_l ?_)) <;> (simp (disch := omega) only [↓reduceIte, Bool.false_eq_true, Nat.one_mul, Nat.zero_mul, Nat.or_zero, Nat.add_zero, Nat.zero_add, Bool.toNat_true, Bool.toNat_false, shl_n, shr_n, fa_and, fa_or, nx_xor, nI_add, nI_mul, nI_sub', and_1, and_7, and_3', and_15, et, er]))
    · rw [cI_s]
      have et : (tkN d X 27 15 (i + 1)).2 = (tkN d X 27 15 i).2 ||| 2 ^ c := by rw [et]; rfl
      have er : rwN d X (i + 1) = 10 * rwN d X i + c := er
      (first | (refine xbr_f ?_ ?_; (focus ((simp (disch := omega) only [ix_lt, ix_le, ix_eq, ix_0, nI_clamp, nI_toInt, ng_T, nI_add, nI_mul, nI_sub', Int.neg_zero, not_false_eq_true, not_true_eq_false] <;> omega); done))) | (refine xbr_t ?_ ?_; (focus ((simp (disch := omega) only [ix_lt, ix_le, ix_eq, ix_0, nI_clamp, nI_toInt, ng_T, nI_add, nI_mul, nI_sub', Int.neg_zero, not_false_eq_true, not_true_eq_false] <;> omega); done))) | refine ⟨Or.inl rfl, ?_⟩ | refine ⟨Or.inr rfl, ?_⟩ | (refine ⟨?_, ?_⟩; (focus (exact in_nI (by omega) (by omega)))))
      (first | (refine xbr_f ?_ ?_; (focus ((simp (disch := omega) only [ix_lt, ix_le, ix_eq, ix_0, nI_clamp, nI_toInt, ng_T, nI_add, nI_mul, nI_sub', Int.neg_zero, not_false_eq_true, not_true_eq_false] <;> omega); done))) | (refine xbr_t ?_ ?_; (focus ((simp (disch := omega) only [ix_lt, ix_le, ix_eq, ix_0, nI_clamp, nI_toInt, ng_T, nI_add, nI_mul, nI_sub', Int.neg_zero, not_false_eq_true, not_true_eq_false] <;> omega); done))) | refine ⟨Or.inl rfl, ?_⟩ | refine ⟨Or.inr rfl, ?_⟩ | (refine ⟨?_, ?_⟩; (focus (exact in_nI (by omega) (by omega)))))
      refine xgo_eq ih ?_ rfl rfl
      ((repeat' (first | (with_reducible rfl) | exact xv_nil | refine xv_cons ?_ ?_ | refine xv_i ?_ | refine xv_l ?_)) <;> (simp (disch := omega) only [↓reduceIte, Bool.false_eq_true, Nat.one_mul, Nat.zero_mul, Nat.or_zero, Nat.add_zero, Nat.zero_add, Bool.toNat_true, Bool.toNat_false, shl_n, shr_n, fa_and, fa_or, nx_xor, nI_add, nI_mul, nI_sub', and_1, and_7, and_3', and_15, et, er]))
  · refine xrun okL_line hhL_line [] 60 ?_
    (first | (refine xbr_f ?_ ?_; (focus ((simp (disch := omega) only [ix_lt, ix_le, ix_eq, ix_0, nI_clamp, nI_toInt, ng_T, nI_add, nI_mul, nI_sub', Int.neg_zero, not_false_eq_true, not_true_eq_false] <;> omega); done))) | (refine xbr_t ?_ ?_; (focus ((simp (disch := omega) only [ix_lt, ix_le, ix_eq, ix_0, nI_clamp, nI_toInt, ng_T, nI_add, nI_mul, nI_sub', Int.neg_zero, not_false_eq_true, not_true_eq_false] <;> omega); done))) | refine ⟨Or.inl rfl, ?_⟩ | refine ⟨Or.inr rfl, ?_⟩ | (refine ⟨?_, ?_⟩; (focus (exact in_nI (by omega) (by omega)))))
    (first | (refine xbr_f ?_ ?_; (focus ((simp (disch := omega) only [ix_lt, ix_le, ix_eq, ix_0, nI_clamp, nI_toInt, ng_T, nI_add, nI_mul, nI_sub', Int.neg_zero, not_false_eq_true, not_true_eq_false, w0] <;> omega); done))) | (refine xbr_t ?_ ?_; (focus ((simp (disch := omega) only [ix_lt, ix_le, ix_eq, ix_0, nI_clamp, nI_toInt, ng_T, nI_add, nI_mul, nI_sub', Int.neg_zero, not_false_eq_true, not_true_eq_false, w0] <;> omega); done))) | refine ⟨Or.inl rfl, ?_⟩ | refine ⟨Or.inr rfl, ?_⟩ | (refine ⟨?_, ?_⟩; (focus ((try simp (disch := omega) only [w0, nI_mul, nI_add, nI_sub']); exact in_nI (by omega) (by omega)))))
    exact hQ
