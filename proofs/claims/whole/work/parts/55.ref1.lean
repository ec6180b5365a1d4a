/-! THE REFERENCE: its cells; statics; rows and texts -/
theorem lc_lt (x y : Int32) : lg_cmp x.toInt64 y.toInt64 < 0 ↔ x.toInt < y.toInt := by rw [lg_cmp_lt, Int64.lt_iff_toInt_lt, Int32.toInt_toInt64, Int32.toInt_toInt64]
theorem lc_gt (x y : Int32) : 0 < lg_cmp x.toInt64 y.toInt64 ↔ y.toInt < x.toInt := by rw [lg_cmp_gt, Int64.lt_iff_toInt_lt, Int32.toInt_toInt64, Int32.toInt_toInt64]
def csX11_in : xCs := []
theorem okX11_in : xOkM mX11_in csX11_in := ⟨dX11_in, by decide +kernel, by decide +kernel, trivial⟩
theorem hhX11_in : ∀ q ∈ csX11_in, xHd q.1 := xall0
theorem kkX11_in : ∀ q ∈ csX11_in, ∀ l, xCon l q.1 q.2 := xall0
def sX11_in : xSpec := xReg fun as I L Q => ∃ (a b c : Int64) (x y z : Int32), as = [.long a, .long b, .long c] ∧ a = x.toInt64 ∧ b = y.toInt64 ∧ c = z.toInt64 ∧ Q (some (.int (bI (decide (y.toInt ≤ x.toInt ∧ x.toInt ≤ z.toInt))))) I L
set_option maxRecDepth 100000 in
theorem kX11_in : ∀ l, xCon l mX11_in sX11_in := by
  refine xcon_of okX11_in hX11_in rfl (by decide) hhX11_in kkX11_in ?_
  rintro as n0 I L P Q ⟨rfl, rfl, a, b, c, x, y, z, rfl, rfl, rfl, rfl, hQ⟩
  refine ⟨Nat.le_of_ble_eq_true rfl, ?_⟩
  refine xrun okX11_in hhX11_in [] 60 ?_
  have e1 := lc_lt x y
  have e2 := lc_gt x z
  by_cases h1 : x.toInt < y.toInt
  · rw [decide_eq_false (by omega)] at hQ
    (first | refine xbr_t (e1.mpr h1) ?_ | refine xbr_f (e1.mpr h1) ?_)
    exact ⟨Or.inl rfl, hQ⟩
  · have n1 : ¬ lg_cmp x.toInt64 y.toInt64 < 0 := fun q => h1 (e1.mp q)
    (first | refine xbr_t n1 ?_ | refine xbr_f n1 ?_)
    by_cases h2 : z.toInt < x.toInt
    · rw [decide_eq_false (by omega)] at hQ
      (first | refine xbr_t (e2.mpr h2) ?_ | refine xbr_f (e2.mpr h2) ?_)
      exact ⟨Or.inl rfl, hQ⟩
    · have n2 : ¬ 0 < lg_cmp x.toInt64 z.toInt64 := fun q => h2 (e2.mp q)
      rw [decide_eq_true (by omega)] at hQ
      (first | refine xbr_t n2 ?_ | refine xbr_f n2 ?_)
      exact ⟨Or.inr rfl, hQ⟩
theorem in_c {r : Int32} {n : Nat} (hn : n < 2 ^ 30) : decide ((nI 0).toInt ≤ r.toInt ∧ r.toInt ≤ (nI n).toInt) = ibB r (n + 1) := by
  unfold ibB
  rw [nI_toInt (by decide), nI_toInt (by omega)]
  exact decide_eq_decide.mpr (by omega)
theorem sub1_T {s : Nat} (hs : s < 2 ^ 30) : (nI s - nI 1).toInt = (s : Int) - 1 := by
  rw [sub_T (by rw [nI_toInt (by omega), nI_toInt (by decide)]; omega), nI_toInt (by omega), nI_toInt (by decide)]
  rfl
theorem in_s {r : Int32} {s : Nat} (hs : s < 2 ^ 30) : decide ((nI 0).toInt ≤ r.toInt ∧ r.toInt ≤ (nI s - nI 1).toInt) = ibB r s := by
  unfold ibB
  rw [nI_toInt (by decide), sub1_T hs]
  exact decide_eq_decide.mpr (by omega)
def csX11_isRow : xCs := [(mX11_in, sX11_in)]
theorem okX11_isRow : xOkM mX11_isRow csX11_isRow := ⟨dX11_isRow, by decide +kernel, by decide +kernel, ⟨wdX11_88, wdX11_90, trivial⟩⟩
theorem hhX11_isRow : ∀ q ∈ csX11_isRow, xHd q.1 := xall1 hX11_in (xall0)
theorem kkX11_isRow : ∀ q ∈ csX11_isRow, ∀ l, xCon l q.1 q.2 := xall1 kX11_in (xall0)
def sX11_isRow : xSpec := xReg fun as I L Q => ∃ (r : Int32), as = [.int r] ∧ Q (some (.int (bI (ibB r 6)))) I L
set_option maxRecDepth 100000 in
theorem kX11_isRow : ∀ l, xCon l mX11_isRow sX11_isRow := by
  refine xcon_of okX11_isRow hX11_isRow rfl (by decide) hhX11_isRow kkX11_isRow ?_
  rintro as n0 I L P Q ⟨rfl, rfl, r, rfl, hQ⟩
  refine ⟨Nat.le_of_ble_eq_true rfl, ?_⟩
  refine xrun okX11_isRow hhX11_isRow [] 60 ?_
  refine ⟨rfl, rfl, _, _, _, r, nI 0, nI 5, rfl, rfl, by decide, by decide, ?_⟩
  rw [in_c (by decide)]
  exact ⟨bI_01 _, hQ⟩
def csX11_isText : xCs := [(mX11_in, sX11_in)]
theorem okX11_isText : xOkM mX11_isText csX11_isText := ⟨dX11_isText, by decide +kernel, by decide +kernel, ⟨wdX11_94, wdX11_90, trivial⟩⟩
theorem hhX11_isText : ∀ q ∈ csX11_isText, xHd q.1 := xall1 hX11_in (xall0)
theorem kkX11_isText : ∀ q ∈ csX11_isText, ∀ l, xCon l q.1 q.2 := xall1 kX11_in (xall0)
def sX11_isText : xSpec := xReg fun as I L Q => ∃ (r : Int32), as = [.int r] ∧ Q (some (.int (bI (ibB r 4)))) I L
set_option maxRecDepth 100000 in
theorem kX11_isText : ∀ l, xCon l mX11_isText sX11_isText := by
  refine xcon_of okX11_isText hX11_isText rfl (by decide) hhX11_isText kkX11_isText ?_
  rintro as n0 I L P Q ⟨rfl, rfl, r, rfl, hQ⟩
  refine ⟨Nat.le_of_ble_eq_true rfl, ?_⟩
  refine xrun okX11_isText hhX11_isText [] 60 ?_
  refine ⟨rfl, rfl, _, _, _, r, nI 0, nI 3, rfl, rfl, by decide, by decide, ?_⟩
  rw [in_c (by decide)]
  exact ⟨bI_01 _, hQ⟩
def csX11_isMarks : xCs := [(mX11_in, sX11_in)]
theorem okX11_isMarks : xOkM mX11_isMarks csX11_isMarks := ⟨dX11_isMarks, by decide +kernel, by decide +kernel, ⟨wdX11_124, wdX11_90, trivial⟩⟩
theorem hhX11_isMarks : ∀ q ∈ csX11_isMarks, xHd q.1 := xall1 hX11_in (xall0)
theorem kkX11_isMarks : ∀ q ∈ csX11_isMarks, ∀ l, xCon l q.1 q.2 := xall1 kX11_in (xall0)
def sX11_isMarks : xSpec := xReg fun as I L Q => ∃ (r : Int32), as = [.int r] ∧ Q (some (.int (bI (ibB r 16)))) I L
set_option maxRecDepth 100000 in
theorem kX11_isMarks : ∀ l, xCon l mX11_isMarks sX11_isMarks := by
  refine xcon_of okX11_isMarks hX11_isMarks rfl (by decide) hhX11_isMarks kkX11_isMarks ?_
  rintro as n0 I L P Q ⟨rfl, rfl, r, rfl, hQ⟩
  refine ⟨Nat.le_of_ble_eq_true rfl, ?_⟩
  refine xrun okX11_isMarks hhX11_isMarks [] 60 ?_
  refine ⟨rfl, rfl, _, _, _, r, nI 0, nI 15, rfl, rfl, by decide, by decide, ?_⟩
  rw [in_c (by decide)]
  exact ⟨bI_01 _, hQ⟩
def csX11_many : xCs := []
theorem okX11_many : xOkM mX11_many csX11_many := ⟨dX11_many, by decide +kernel, by decide +kernel, trivial⟩
theorem hhX11_many : ∀ q ∈ csX11_many, xHd q.1 := xall0
theorem kkX11_many : ∀ q ∈ csX11_many, ∀ l, xCon l q.1 q.2 := xall0
def sX11_many : xSpec := xReg fun as I L Q => ∃ n : Nat, as = [.int (nI n)] ∧ n < 2 ^ 31 ∧ Q (some (.int (nI (pcf 32 n)))) I L
set_option maxRecDepth 100000 in
theorem kX11_many : ∀ l, xCon l mX11_many sX11_many := by
  refine xcon_of okX11_many hX11_many rfl (by decide) hhX11_many kkX11_many ?_
  rintro as n0 I L P Q ⟨rfl, rfl, n, rfl, hn, hQ⟩
  refine ⟨Nat.le_of_ble_eq_true rfl, ?_⟩
  have loop : ∀ f x, pcf 32 x = f → x < 2 ^ 31 → f ≤ pcf 32 n → xGo mX11_many csX11_many 4 Q [some (.int (nI n)), some (.int (nI (pcf 32 n - f))), some (.int (nI x))] [] 0 xN I L xP0 := by
    intro f
    induction f with
    | zero =>
      intro x e hx _
      refine xrun okX11_many hhX11_many [] 60 ?_
      have h0 : x = 0 := by
        by_cases h : x = 0
        · exact h
        · have := pcf_pos (f := 32) (by omega) h
          omega
      repeat (first | (refine xbr_f ?_ ?_; (focus ((simp (disch := omega) only [ix_lt, ix_le, ix_eq, ix_0, nI_clamp, nI_toInt, ng_T, nI_add, nI_mul, nI_sub', Int.neg_zero, not_false_eq_true, not_true_eq_false] <;> omega); done))) | (refine xbr_t ?_ ?_; (focus ((simp (disch := omega) only [ix_lt, ix_le, ix_eq, ix_0, nI_clamp, nI_toInt, ng_T, nI_add, nI_mul, nI_sub', Int.neg_zero, not_false_eq_true, not_true_eq_false] <;> omega); done))) | refine ⟨Or.inl rfl, ?_⟩ | refine ⟨Or.inr rfl, ?_⟩ | (refine ⟨?_, ?_⟩; (focus (exact in_nI (by omega) (by omega)))))
      exact hQ
    | succ f ih =>
      intro x e hx hf
      refine xrun okX11_many hhX11_many [(4, [true, true, true])] 60 ?_
      have h0 : ¬ x = 0 := fun q => by
        rw [q, pcf_0] at e
        omega
      have hl := pcf_low (f := 32) (show x < 2 ^ 32 by omega) h0
      have hs := pcf_and_lt h0
      (first | (refine xbr_f ?_ ?_; (focus ((simp (disch := omega) only [ix_lt, ix_le, ix_eq, ix_0, nI_clamp, nI_toInt, ng_T, nI_add, nI_mul, nI_sub', Int.neg_zero, not_false_eq_true, not_true_eq_false] <;> omega); done))) | (refine xbr_t ?_ ?_; (focus ((simp (disch := omega) only [ix_lt, ix_le, ix_eq, ix_0, nI_clamp, nI_toInt, ng_T, nI_add, nI_mul, nI_sub', Int.neg_zero, not_false_eq_true, not_true_eq_false] <;> omega); done))) | refine ⟨Or.inl rfl, ?_⟩ | refine ⟨Or.inr rfl, ?_⟩ | (refine ⟨?_, ?_⟩; (focus (exact in_nI (by omega) (by omega)))))
      refine xgo_eq (ih (x &&& (x - 1)) (by omega) (by omega) (by omega)) ?_ rfl rfl
      have e4 : pcf 32 n - (f + 1) + 1 = pcf 32 n - f := by omega
      ((repeat' (first | (with_reducible rfl) | exact xv_nil | refine xv_cons ?_ ?_ | refine xv_i ?_ | refine xv_l ?_)) <;> (simp (disch := omega) only [↓reduceIte, Bool.false_eq_true, Nat.one_mul, Nat.zero_mul, Nat.or_zero, Nat.add_zero, Nat.zero_add, Bool.toNat_true, Bool.toNat_false, shl_n, shr_n, fa_and, fa_or, nx_xor, nI_add, nI_mul, nI_sub', and_1, and_7, and_3', and_15, e4]))
  refine xrun okX11_many hhX11_many [(4, [true, true, true])] 60 ?_
  refine xgo_eq (loop (pcf 32 n) n rfl hn (Nat.le_refl _)) ?_ rfl rfl
  rw [Nat.sub_self]
  rfl
def csX11_likeBy : xCs := [(mX11_many, sX11_many)]
theorem okX11_likeBy : xOkM mX11_likeBy csX11_likeBy := ⟨dX11_likeBy, by decide +kernel, by decide +kernel, ⟨wdX11_126, wdX11_126, trivial⟩⟩
theorem hhX11_likeBy : ∀ q ∈ csX11_likeBy, xHd q.1 := xall1 hX11_many (xall0)
theorem kkX11_likeBy : ∀ q ∈ csX11_likeBy, ∀ l, xCon l q.1 q.2 := xall1 kX11_many (xall0)
def sX11_likeBy : xSpec := xReg fun as I L Q => ∃ k m x : Nat, as = [.int (nI k), .int (nI m), .int (nI x)] ∧ k < 8 ∧ m < 16 ∧ x < 16 ∧ Q (some (.int (nI (lkN k m x)))) I L
set_option maxRecDepth 100000 in
theorem kX11_likeBy : ∀ l, xCon l mX11_likeBy sX11_likeBy := by
  refine xcon_of okX11_likeBy hX11_likeBy rfl (by decide) hhX11_likeBy kkX11_likeBy ?_
  rintro as n0 I L P Q ⟨rfl, rfl, k, m, x, rfl, hk, hm, hx, hQ⟩
  refine ⟨Nat.le_of_ble_eq_true rfl, ?_⟩
  refine xrun okX11_likeBy hhX11_likeBy [] 60 ?_
  have a16 := and_16 (x := x) hm
  have x16 := xor_16 hm hx
  have px := pc_4 _ x16
  have pa := pc_4 _ a16
  refine ⟨rfl, rfl, m &&& x, by rw [fa_and, Nat.and_comm], by omega, ?_⟩
  by_cases h1 : k = 1
  · subst h1
    repeat (first | (refine xbr_f ?_ ?_; (focus ((simp (disch := omega) only [ix_lt, ix_le, ix_eq, ix_0, nI_clamp, nI_toInt, ng_T, nI_add, nI_mul, nI_sub', Int.neg_zero, not_false_eq_true, not_true_eq_false] <;> omega); done))) | (refine xbr_t ?_ ?_; (focus ((simp (disch := omega) only [ix_lt, ix_le, ix_eq, ix_0, nI_clamp, nI_toInt, ng_T, nI_add, nI_mul, nI_sub', Int.neg_zero, not_false_eq_true, not_true_eq_false] <;> omega); done))) | refine ⟨Or.inl rfl, ?_⟩ | refine ⟨Or.inr rfl, ?_⟩ | (refine ⟨?_, ?_⟩; (focus (exact in_nI (by omega) (by omega)))))
    exact hQ
  · by_cases h4 : k = 4
    · subst h4
      repeat (first | (refine xbr_f ?_ ?_; (focus ((simp (disch := omega) only [ix_lt, ix_le, ix_eq, ix_0, nI_clamp, nI_toInt, ng_T, nI_add, nI_mul, nI_sub', Int.neg_zero, not_false_eq_true, not_true_eq_false] <;> omega); done))) | (refine xbr_t ?_ ?_; (focus ((simp (disch := omega) only [ix_lt, ix_le, ix_eq, ix_0, nI_clamp, nI_toInt, ng_T, nI_add, nI_mul, nI_sub', Int.neg_zero, not_false_eq_true, not_true_eq_false] <;> omega); done))) | refine ⟨Or.inl rfl, ?_⟩ | refine ⟨Or.inr rfl, ?_⟩ | (refine ⟨?_, ?_⟩; (focus (exact in_nI (by omega) (by omega)))))
      have e : nI (lkN 4 m x) = nI 2 * nI (pcf 32 (m &&& x)) := by rw [nI_mul]; rfl
      rw [e] at hQ
      exact hQ
    · repeat (first | (refine xbr_f ?_ ?_; (focus ((simp (disch := omega) only [ix_lt, ix_le, ix_eq, ix_0, nI_clamp, nI_toInt, ng_T, nI_add, nI_mul, nI_sub', Int.neg_zero, not_false_eq_true, not_true_eq_false] <;> omega); done))) | (refine xbr_t ?_ ?_; (focus ((simp (disch := omega) only [ix_lt, ix_le, ix_eq, ix_0, nI_clamp, nI_toInt, ng_T, nI_add, nI_mul, nI_sub', Int.neg_zero, not_false_eq_true, not_true_eq_false] <;> omega); done))) | refine ⟨Or.inl rfl, ?_⟩ | refine ⟨Or.inr rfl, ?_⟩ | (refine ⟨?_, ?_⟩; (focus (exact in_nI (by omega) (by omega)))))
      refine ⟨rfl, rfl, m ^^^ x, by rw [nx_xor, Nat.xor_comm], by omega, ?_⟩
      have e : nI (lkN k m x) = nI 4 - nI (pcf 32 (m ^^^ x)) := by
        rw [nI_sub' px]
        unfold lkN
        rw [if_neg h4, if_neg h1]
      rw [e] at hQ
      exact hQ
def csX11_least : xCs := []
theorem okX11_least : xOkM mX11_least csX11_least := ⟨dX11_least, by decide +kernel, by decide +kernel, trivial⟩
theorem hhX11_least : ∀ q ∈ csX11_least, xHd q.1 := xall0
theorem kkX11_least : ∀ q ∈ csX11_least, ∀ l, xCon l q.1 q.2 := xall0
def sX11_least : xSpec := xReg fun as I L Q => ∃ k : Nat, as = [.int (nI k)] ∧ k < 8 ∧ Q (some (.int (nI (lsN k)))) I L
set_option maxRecDepth 100000 in
theorem kX11_least : ∀ l, xCon l mX11_least sX11_least := by
  refine xcon_of okX11_least hX11_least rfl (by decide) hhX11_least kkX11_least ?_
  rintro as n0 I L P Q ⟨rfl, rfl, k, rfl, hk, hQ⟩
  refine ⟨Nat.le_of_ble_eq_true rfl, ?_⟩
  refine xrun okX11_least hhX11_least [] 60 ?_
  by_cases h3 : k = 3
  · subst h3
    repeat (first | (refine xbr_f ?_ ?_; (focus ((simp (disch := omega) only [ix_lt, ix_le, ix_eq, ix_0, nI_clamp, nI_toInt, ng_T, nI_add, nI_mul, nI_sub', Int.neg_zero, not_false_eq_true, not_true_eq_false] <;> omega); done))) | (refine xbr_t ?_ ?_; (focus ((simp (disch := omega) only [ix_lt, ix_le, ix_eq, ix_0, nI_clamp, nI_toInt, ng_T, nI_add, nI_mul, nI_sub', Int.neg_zero, not_false_eq_true, not_true_eq_false] <;> omega); done))) | refine ⟨Or.inl rfl, ?_⟩ | refine ⟨Or.inr rfl, ?_⟩ | (refine ⟨?_, ?_⟩; (focus (exact in_nI (by omega) (by omega)))))
    exact hQ
  · by_cases h5 : k = 5
    · subst h5
      repeat (first | (refine xbr_f ?_ ?_; (focus ((simp (disch := omega) only [ix_lt, ix_le, ix_eq, ix_0, nI_clamp, nI_toInt, ng_T, nI_add, nI_mul, nI_sub', Int.neg_zero, not_false_eq_true, not_true_eq_false] <;> omega); done))) | (refine xbr_t ?_ ?_; (focus ((simp (disch := omega) only [ix_lt, ix_le, ix_eq, ix_0, nI_clamp, nI_toInt, ng_T, nI_add, nI_mul, nI_sub', Int.neg_zero, not_false_eq_true, not_true_eq_false] <;> omega); done))) | refine ⟨Or.inl rfl, ?_⟩ | refine ⟨Or.inr rfl, ?_⟩ | (refine ⟨?_, ?_⟩; (focus (exact in_nI (by omega) (by omega)))))
      exact hQ
    · repeat (first | (refine xbr_f ?_ ?_; (focus ((simp (disch := omega) only [ix_lt, ix_le, ix_eq, ix_0, nI_clamp, nI_toInt, ng_T, nI_add, nI_mul, nI_sub', Int.neg_zero, not_false_eq_true, not_true_eq_false] <;> omega); done))) | (refine xbr_t ?_ ?_; (focus ((simp (disch := omega) only [ix_lt, ix_le, ix_eq, ix_0, nI_clamp, nI_toInt, ng_T, nI_add, nI_mul, nI_sub', Int.neg_zero, not_false_eq_true, not_true_eq_false] <;> omega); done))) | refine ⟨Or.inl rfl, ?_⟩ | refine ⟨Or.inr rfl, ?_⟩ | (refine ⟨?_, ?_⟩; (focus (exact in_nI (by omega) (by omega)))))
      unfold lsN at hQ
      rw [if_neg h5, if_neg h3] at hQ
      exact hQ
def csX11_isTaken : xCs := [(mX11_likeBy, sX11_likeBy), (mX11_least, sX11_least)]
theorem okX11_isTaken : xOkM mX11_isTaken csX11_isTaken := ⟨dX11_isTaken, by decide +kernel, by decide +kernel, ⟨wdX11_129, wdX11_133, trivial⟩⟩
theorem hhX11_isTaken : ∀ q ∈ csX11_isTaken, xHd q.1 := xall1 hX11_likeBy (xall1 hX11_least (xall0))
theorem kkX11_isTaken : ∀ q ∈ csX11_isTaken, ∀ l, xCon l q.1 q.2 := xall1 kX11_likeBy (xall1 kX11_least (xall0))
def sX11_isTaken : xSpec := xReg fun as I L Q => ∃ k m x : Nat, as = [.int (nI k), .int (nI m), .int (nI x)] ∧ k < 8 ∧ m < 16 ∧ x < 16 ∧ Q (some (.int (bI (wtN k m x)))) I L
set_option maxRecDepth 100000 in
theorem kX11_isTaken : ∀ l, xCon l mX11_isTaken sX11_isTaken := by
  refine xcon_of okX11_isTaken hX11_isTaken rfl (by decide) hhX11_isTaken kkX11_isTaken ?_
  rintro as n0 I L P Q ⟨rfl, rfl, k, m, x, rfl, hk, hm, hx, hQ⟩
  refine ⟨Nat.le_of_ble_eq_true rfl, ?_⟩
  refine xrun okX11_isTaken hhX11_isTaken [] 60 ?_
  refine ⟨rfl, rfl, k, m, x, rfl, hk, hm, hx, rfl, rfl, k, rfl, hk, ?_⟩
  have h1 := lkN_le (k := k) (x := x) hm
  have h2 := lsN_le k
  unfold wtN at hQ
  by_cases h : lsN k ≤ lkN k m x
  · rw [decide_eq_true h] at hQ
    repeat (first | (refine xbr_f ?_ ?_; (focus ((simp (disch := omega) only [ix_lt, ix_le, ix_eq, ix_0, nI_clamp, nI_toInt, ng_T, nI_add, nI_mul, nI_sub', Int.neg_zero, not_false_eq_true, not_true_eq_false] <;> omega); done))) | (refine xbr_t ?_ ?_; (focus ((simp (disch := omega) only [ix_lt, ix_le, ix_eq, ix_0, nI_clamp, nI_toInt, ng_T, nI_add, nI_mul, nI_sub', Int.neg_zero, not_false_eq_true, not_true_eq_false] <;> omega); done))) | refine ⟨Or.inl rfl, ?_⟩ | refine ⟨Or.inr rfl, ?_⟩ | (refine ⟨?_, ?_⟩; (focus (exact in_nI (by omega) (by omega)))))
    exact hQ
  · rw [decide_eq_false h] at hQ
    repeat (first | (refine xbr_f ?_ ?_; (focus ((simp (disch := omega) only [ix_lt, ix_le, ix_eq, ix_0, nI_clamp, nI_toInt, ng_T, nI_add, nI_mul, nI_sub', Int.neg_zero, not_false_eq_true, not_true_eq_false] <;> omega); done))) | (refine xbr_t ?_ ?_; (focus ((simp (disch := omega) only [ix_lt, ix_le, ix_eq, ix_0, nI_clamp, nI_toInt, ng_T, nI_add, nI_mul, nI_sub', Int.neg_zero, not_false_eq_true, not_true_eq_false] <;> omega); done))) | refine ⟨Or.inl rfl, ?_⟩ | refine ⟨Or.inr rfl, ?_⟩ | (refine ⟨?_, ?_⟩; (focus (exact in_nI (by omega) (by omega)))))
    exact hQ
-- the reference's cells
def pdR (d : PD) (I : xI) : Prop := I 27 10 = nI d.nA ∧ I 27 11 = nI d.nL ∧ (∀ k, k < 5 → I 34 k = nI (rdN d k)) ∧ (∀ i, i < d.nA → I 35 i = nI (kdN d i)) ∧ (∀ l, l < d.nL → I 36 l = nI (hmN d l)) ∧ d.ok
theorem pdR.a {d : PD} {I : xI} (h : pdR d I) : I 27 10 = nI d.nA := h.1
theorem pdR.l {d : PD} {I : xI} (h : pdR d I) : I 27 11 = nI d.nL := h.2.1
theorem pdR.r {d : PD} {I : xI} (h : pdR d I) : ∀ k, k < 5 → I 34 k = nI (rdN d k) := h.2.2.1
theorem pdR.k {d : PD} {I : xI} (h : pdR d I) : ∀ i, i < d.nA → I 35 i = nI (kdN d i) := h.2.2.2.1
theorem pdR.h {d : PD} {I : xI} (h : pdR d I) : ∀ l, l < d.nL → I 36 l = nI (hmN d l) := h.2.2.2.2.1
theorem pdR.ok {d : PD} {I : xI} (h : pdR d I) : d.ok := h.2.2.2.2.2
def nwR (d : PD) (X c : Nat) (f : Nat → Int32) : Prop := f 0 = nI c ∧ (∀ i, i < d.nA → f (1 + i) = nI (meN X i) ∧ f (5 + i) = nI (inN X i)) ∧ (∀ l, l < d.nL → f (9 + l) = nI (mkN X l) ∧ f (14 + l) = nI (plN X l))
theorem nwR.c {d : PD} {X c : Nat} {f : Nat → Int32} (h : nwR d X c f) : f 0 = nI c := h.1
theorem nwR.m {d : PD} {X c : Nat} {f : Nat → Int32} (h : nwR d X c f) {i : Nat} (hi : i < d.nA) : f (1 + i) = nI (meN X i) := (h.2.1 i hi).1
theorem nwR.i {d : PD} {X c : Nat} {f : Nat → Int32} (h : nwR d X c f) {i : Nat} (hi : i < d.nA) : f (5 + i) = nI (inN X i) := (h.2.1 i hi).2
theorem nwR.k {d : PD} {X c : Nat} {f : Nat → Int32} (h : nwR d X c f) {l : Nat} (hl : l < d.nL) : f (9 + l) = nI (mkN X l) := (h.2.2 l hl).1
theorem nwR.p {d : PD} {X c : Nat} {f : Nat → Int32} (h : nwR d X c f) {l : Nat} (hl : l < d.nL) : f (14 + l) = nI (plN X l) := (h.2.2 l hl).2
theorem nwR_eq {d : PD} {X c : Nat} {f g : Nat → Int32} (hd : d.ok) (h : nwR d X c f) (e : ∀ k, k < 19 → g k = f k) : nwR d X c g := by
  have h4 := hd.a4
  have h5 := hd.l5
  exact ⟨(e 0 (by decide)).trans h.1, fun i hi => ⟨(e _ (by omega)).trans (h.m hi), (e _ (by omega)).trans (h.i hi)⟩, fun l hl => ⟨(e _ (by omega)).trans (h.k hl), (e _ (by omega)).trans (h.p hl)⟩⟩
def dnR (d : PD) (D : DD) (f : Nat → Int32) (s : Int32) (g : Nat → Int32) : Prop := nwR d D.X (pcf 64 D.b) f ∧ s = nI (D.z - 1) ∧ ∀ n, n < D.z - 1 → nwR d (D.be n) (pcf 64 (D.b % 2 ^ n)) (fun k => g (19 * n + k))
def kpR (d : PD) (kp : Nat → DD) (a b : Nat → Int32) : Prop := ∀ k, k < 3 → a k = szI (kp k).z ∧ (0 < (kp k).z → dnR d (kp k) (fun v => b (779 * k + v)) (nI ((kp k).z - 1)) (fun v => b (779 * k + 19 + v)))
def rwR (N mo : Nat) (z : Nat → Nat) (v : Nat → Int32) (a b : Nat → Int32) : Prop := ∀ r, r < N → a r = szI (z r) ∧ ∀ k, k < z r - 1 → b (mo * r + k) = v (r * mo + k)
def mcR (S : ST) (I : xI) (L : xL) : Prop := (∀ j, j < 6 → I 28 j = S.fc j) ∧ I 27 3 = S.lf ∧ I 27 0 = S.to ∧ L 27 1 = S.ov ∧ L 27 2 = S.un
def Ref (S : ST) (I : xI) (L : xL) : Prop := SOk S ∧ pdR S.d I ∧ dnR S.d S.D (I 37) (I 27 22) (I 40) ∧ kpR S.d S.kp (I 41) (I 42) ∧ rwR 6 40 S.rz S.rv (I 29) (I 30) ∧ rwR 4 60 S.tz S.tv (I 31) (I 32) ∧ mcR S I L
theorem Ref.ok {S : ST} {I : xI} {L : xL} (h : Ref S I L) : SOk S := h.1
theorem Ref.pd {S : ST} {I : xI} {L : xL} (h : Ref S I L) : pdR S.d I := h.2.1
theorem Ref.dn {S : ST} {I : xI} {L : xL} (h : Ref S I L) : dnR S.d S.D (I 37) (I 27 22) (I 40) := h.2.2.1
theorem Ref.nw {S : ST} {I : xI} {L : xL} (h : Ref S I L) : nwR S.d S.D.X (pcf 64 S.D.b) (I 37) := h.2.2.1.1
theorem Ref.sz {S : ST} {I : xI} {L : xL} (h : Ref S I L) : I 27 22 = nI (S.D.z - 1) := h.2.2.1.2.1
theorem Ref.hi {S : ST} {I : xI} {L : xL} (h : Ref S I L) : ∀ n, n < S.D.z - 1 → nwR S.d (S.D.be n) (pcf 64 (S.D.b % 2 ^ n)) (fun k => I 40 (19 * n + k)) := h.2.2.1.2.2
theorem Ref.kp {S : ST} {I : xI} {L : xL} (h : Ref S I L) : kpR S.d S.kp (I 41) (I 42) := h.2.2.2.1
theorem Ref.rw {S : ST} {I : xI} {L : xL} (h : Ref S I L) : rwR 6 40 S.rz S.rv (I 29) (I 30) := h.2.2.2.2.1
theorem Ref.tx {S : ST} {I : xI} {L : xL} (h : Ref S I L) : rwR 4 60 S.tz S.tv (I 31) (I 32) := h.2.2.2.2.2.1
theorem Ref.mc {S : ST} {I : xI} {L : xL} (h : Ref S I L) : mcR S I L := h.2.2.2.2.2.2
theorem Ref.rz {S : ST} {I : xI} {L : xL} (h : Ref S I L) {r : Nat} (hr : r < 6) : I 29 r = szI (S.rz r) := (h.rw r hr).1
theorem Ref.rv {S : ST} {I : xI} {L : xL} (h : Ref S I L) {r k : Nat} (hr : r < 6) (hk : k < S.rz r - 1) : I 30 (40 * r + k) = S.rv (r * 40 + k) := (h.rw r hr).2 k hk
theorem Ref.tz {S : ST} {I : xI} {L : xL} (h : Ref S I L) {r : Nat} (hr : r < 4) : I 31 r = szI (S.tz r) := (h.tx r hr).1
theorem Ref.tv {S : ST} {I : xI} {L : xL} (h : Ref S I L) {r k : Nat} (hr : r < 4) (hk : k < S.tz r - 1) : I 32 (60 * r + k) = S.tv (r * 60 + k) := (h.tx r hr).2 k hk
def frM (I : xI) (L : xL) (I' : xI) (L' : xL) : Prop := ∀ c, c < 27 → I' c = I c ∧ L' c = L c
theorem frM_0 (I : xI) (L : xL) : frM I L I L := fun _ _ => ⟨rfl, rfl⟩
theorem frM_t {I I' I'' : xI} {L L' L'' : xL} (h : frM I L I' L') (h2 : frM I' L' I'' L'') : frM I L I'' L'' := fun c a => ⟨(h2 c a).1.trans (h c a).1, (h2 c a).2.trans (h c a).2⟩
theorem frM_I {k : Nat} (hk : 27 ≤ k) (I : xI) (L : xL) (j : Nat) (x : Int32) : frM I L (xup I k j x) L := fun c a => ⟨xup_c _ _ _ _ (by omega), rfl⟩
theorem frM_W {k : Nat} (hk : 27 ≤ k) (I : xI) (L : xL) (f : Nat → Int32) : frM I L (xrw I k f) L := fun c a => ⟨xrw_c _ _ _ (by omega), rfl⟩
theorem frM_L {k : Nat} (hk : 27 ≤ k) (I : xI) (L : xL) (j : Nat) (x : Int64) : frM I L I (xup L k j x) := fun c a => ⟨rfl, xup_c _ _ _ _ (by omega)⟩
theorem frM_M {k : Nat} (hk : 27 ≤ k) (I : xI) (L : xL) (f : Nat → Int64) : frM I L I (xrw L k f) := fun c a => ⟨rfl, xrw_c _ _ _ (by omega)⟩
/-- scratch cells may change -/
def scr (I : xI) (L : xL) (I' : xI) (L' : xL) : Prop := (∀ c, c ≠ 27 → c ≠ 33 → c ≠ 38 → c ≠ 39 → c ≠ 43 → (c < 45 ∨ 48 < c) → I' c = I c) ∧ (∀ j, (j < 17 ∨ 20 < j) → I' 27 j = I 27 j) ∧ (∀ c, c ≠ 44 → L' c = L c)
theorem scr_0 (I : xI) (L : xL) : scr I L I L := ⟨fun _ _ _ _ _ _ _ => rfl, fun _ _ => rfl, fun _ _ => rfl⟩
theorem scr_t {I I' I'' : xI} {L L' L'' : xL} (h : scr I L I' L') (h2 : scr I' L' I'' L'') : scr I L I'' L'' := ⟨fun c a b d e f g => (h2.1 c a b d e f g).trans (h.1 c a b d e f g), fun j a => (h2.2.1 j a).trans (h.2.1 j a), fun c a => (h2.2.2 c a).trans (h.2.2 c a)⟩
theorem scr_fr {I I' : xI} {L L' : xL} (h : scr I L I' L') : frM I L I' L' := fun c a => ⟨h.1 c (by omega) (by omega) (by omega) (by omega) (by omega) (by omega), h.2.2 c (by omega)⟩
theorem scr_W {k : Nat} (hk : k = 33 ∨ k = 38 ∨ k = 39 ∨ k = 43 ∨ (45 ≤ k ∧ k ≤ 48)) (I : xI) (L : xL) (f : Nat → Int32) : scr I L (xrw I k f) L := ⟨fun c _ _ _ _ _ _ => xrw_c _ _ _ (by omega), fun j _ => by rw [xrw_c _ _ _ (by omega)], fun _ _ => rfl⟩
theorem scr_I {k : Nat} (hk : k = 33 ∨ k = 38 ∨ k = 39 ∨ k = 43 ∨ (45 ≤ k ∧ k ≤ 48)) (I : xI) (L : xL) (j : Nat) (x : Int32) : scr I L (xup I k j x) L := ⟨fun c _ _ _ _ _ _ => xup_c _ _ _ _ (by omega), fun j _ => by rw [xup_c _ _ _ _ (by omega)], fun _ _ => rfl⟩
theorem scr_M (I : xI) (L : xL) (f : Nat → Int64) : scr I L I (xrw L 44 f) := ⟨fun _ _ _ _ _ _ _ => rfl, fun _ _ => rfl, fun c a => xrw_c _ _ _ a⟩
theorem scr_27 {k : Nat} (hk : 17 ≤ k ∧ k ≤ 20) (I : xI) (L : xL) (x : Int32) : scr I L (xup I 27 k x) L := ⟨fun c a _ _ _ _ _ => xup_c _ _ _ _ a, fun j h => by rw [xup_at, if_neg (by omega)], fun _ _ => rfl⟩
theorem Ref_s {S : ST} {I I' : xI} {L L' : xL} (h : Ref S I L) (s : scr I L I' L') : Ref S I' L' := by
  obtain ⟨h1, h2, h3⟩ := s
  have e : ∀ c, c = 28 ∨ c = 29 ∨ c = 30 ∨ c = 31 ∨ c = 32 ∨ c = 34 ∨ c = 35 ∨ c = 36 ∨ c = 37 ∨ c = 40 ∨ c = 41 ∨ c = 42 → I' c = I c := fun c a => h1 c (by omega) (by omega) (by omega) (by omega) (by omega) (by omega)
  unfold Ref pdR mcR at *
  rw [h2 10 (by omega), h2 11 (by omega), h2 22 (by omega), h2 3 (by omega), h2 0 (by omega), e 28 (by omega), e 29 (by omega), e 30 (by omega), e 31 (by omega), e 32 (by omega), e 34 (by omega), e 35 (by omega), e 36 (by omega), e 37 (by omega), e 40 (by omega), e 41 (by omega), e 42 (by omega), h3 27 (by omega)]
  exact h
theorem Ref_T {S : ST} {I : xI} {L : xL} (h : Ref S I L) (v : Int32) : Ref (S.wT v) (xup I 27 0 v) L := ⟨h.ok, h.pd, h.dn, h.kp, h.rw, h.tx, h.mc.1, h.mc.2.1, rfl, h.mc.2.2.2.1, h.mc.2.2.2.2⟩
theorem Ref_F {S : ST} {I : xI} {L : xL} (h : Ref S I L) {f : Nat} (hf : f < 6) : Ref (S.wF f) (xup (xup I 27 3 (nI f)) 28 f (I 28 f + nI 1)) L := ⟨h.ok, h.pd, h.dn, h.kp, h.rw, h.tx, fun j hj => by
  show (if j = f then I 28 f + nI 1 else I 28 j) = if j = f then S.fc f + nI 1 else S.fc j
  rw [h.mc.1 f hf, h.mc.1 j hj], rfl, h.mc.2.2.1, h.mc.2.2.2.1, h.mc.2.2.2.2⟩
theorem Ref_R {S : ST} {I : xI} {L : xL} (h : Ref S I L) {a b : Nat → Int32} {z : Nat → Nat} {v : Nat → Int32} (hz : ∀ r, r < 6 → z r ≤ 41) (hr : rwR 6 40 z v a b) : Ref (S.wR z v) (xrw (xrw I 29 a) 30 b) L := ⟨⟨h.ok.1, h.ok.2.1, h.ok.2.2.1, h.ok.kp, hz, h.ok.2.2.2.2.2⟩, h.pd, h.dn, h.kp, hr, h.tx, h.mc⟩
theorem Ref_X {S : ST} {I : xI} {L : xL} (h : Ref S I L) {a b : Nat → Int32} {z : Nat → Nat} {v : Nat → Int32} (hz : SOk (S.wX z v)) (hr : rwR 4 60 z v a b) : Ref (S.wX z v) (xrw (xrw I 31 a) 32 b) L := ⟨hz, h.pd, h.dn, h.kp, h.rw, hr, h.mc⟩
theorem Ref_C {S : ST} {I : xI} {L : xL} (h : Ref S I L) (a b : Int64) : Ref (S.wC a b) I (xup (xup L 27 1 a) 27 2 b) := ⟨h.ok, h.pd, h.dn, h.kp, h.rw, h.tx, h.mc.1, h.mc.2.1, h.mc.2.2.1, rfl, rfl⟩
theorem rw_new {N mo : Nat} {z : Nat → Nat} {v w a b f : Nat → Int32} (h : rwR N mo z v a b) (hz : ∀ r, r < N → z r ≤ mo + 1) {j m : Nat} (hm : m ≤ mo) (h1 : ∀ k, k < m → f (mo * j + k) = w (j * mo + k)) (h2 : ∀ t, (t < mo * j ∨ mo * j + mo ≤ t) → f t = b t) (h3 : ∀ t, (t < mo * j ∨ mo * j + mo ≤ t) → w t = v t) : rwR N mo (fun t => if t = j then m + 1 else z t) w (fun t => if t = j then nI m else a t) f := by
  intro r hr
  by_cases e : r = j
  · subst e
    refine ⟨?_, fun k hk => ?_⟩
    · show (if r = r then nI m else a r) = szI (if r = r then m + 1 else z r)
      rw [if_pos rfl, if_pos rfl, szI_s]
    · have hk' : k < (if r = r then m + 1 else z r) - 1 := hk
      rw [if_pos rfl] at hk'
      exact h1 k (by omega)
  · refine ⟨?_, fun k hk => ?_⟩
    · show (if r = j then nI m else a r) = szI (if r = j then m + 1 else z r)
      rw [if_neg e, if_neg e]
      exact (h r hr).1
    · have hk' : k < (if r = j then m + 1 else z r) - 1 := hk
      rw [if_neg e] at hk'
      have hzr := hz r hr
      have out : mo * r + k < mo * j ∨ mo * j + mo ≤ mo * r + k := by
        rcases Nat.lt_or_gt_of_ne e with h' | h'
        · have := Nat.mul_le_mul_left mo (show r + 1 ≤ j from h')
          rw [Nat.mul_add, Nat.mul_one] at this
          omega
        · have := Nat.mul_le_mul_left mo (show j + 1 ≤ r from h')
          rw [Nat.mul_add, Nat.mul_one] at this
          omega
      rw [h2 _ out, (h r hr).2 k hk', Nat.mul_comm r mo, h3 _ out]
