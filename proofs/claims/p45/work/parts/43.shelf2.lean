/-! SHELF, the rest -/
theorem szI_T {z : Nat} (h : z < 2 ^ 30) : (szI z).toInt = (z : Int) - 1 := by
  rcases z with _ | s
  · rw [szI_0, ng_T (by decide)]
    rfl
  · rw [szI_s, nI_toInt (by omega)]
    omega
def wplN (z : Nat) (i : Int32) : Nat := if z = 0 then 1 else if ibB i (z - 1) then 0 else 2
def csX8_wrongPlace : xCs := [(mX8_isThere, sX8_isThere), (mX8_holds, sX8_holds)]
theorem okX8_wrongPlace : xOkM mX8_wrongPlace csX8_wrongPlace := ⟨dX8_wrongPlace, by decide +kernel, by decide +kernel, ⟨wdX8_32, wdX8_36, trivial⟩⟩
theorem hhX8_wrongPlace : ∀ q ∈ csX8_wrongPlace, xHd q.1 := xall1 hX8_isThere (xall1 hX8_holds (xall0))
theorem kkX8_wrongPlace : ∀ q ∈ csX8_wrongPlace, ∀ l, xCon l q.1 q.2 := xall1 kX8_isThere (xall1 kX8_holds (xall0))
def sX8_wrongPlace : xSpec := xReg fun as I L Q => ∃ (c a d N mo r z : Nat) (i : Int32), xShf c a d N mo ∧ as = [.ref c, .int (nI r), .int i] ∧ r < N ∧ z ≤ mo + 1 ∧ I a r = szI z ∧ Q (some (.int (nI (wplN z i)))) I L
set_option maxRecDepth 100000 in
theorem kX8_wrongPlace : ∀ l, xCon l mX8_wrongPlace sX8_wrongPlace := by
  refine xcon_of okX8_wrongPlace hX8_wrongPlace rfl hhX8_wrongPlace kkX8_wrongPlace ?_
  rintro as n0 I L P Q ⟨hn9, rfl, c, a, d, N, mo, r, z, i, hc, rfl, hr, hzm, hz, hQ⟩
  obtain ⟨e9, rfl⟩ := xe9 hn9
  refine ⟨Nat.le_of_ble_eq_true rfl, ?_⟩
  refine xrun okX8_wrongPlace hhX8_wrongPlace [] 200 ?_
  rcases z with _ | s
  · rw [szI_0] at hz
    rcases hc with ⟨rfl, rfl, rfl, rfl, rfl⟩ | ⟨rfl, rfl, rfl, rfl, rfl⟩ <;> (
      repeat (first | (refine xbr_f ?_ ?_; (focus ((simp (disch := omega) only [ix_lt, ix_le, ix_eq, ix_0, nI_clamp, nI_toInt, ng_T, nI_add, nI_mul, nI_sub', Int.neg_zero, not_false_eq_true, not_true_eq_false, hz] <;> omega); done))) | (refine xbr_t ?_ ?_; (focus ((simp (disch := omega) only [ix_lt, ix_le, ix_eq, ix_0, nI_clamp, nI_toInt, ng_T, nI_add, nI_mul, nI_sub', Int.neg_zero, not_false_eq_true, not_true_eq_false, hz] <;> omega); done))) | refine ⟨Or.inl rfl, ?_⟩ | refine ⟨Or.inr rfl, ?_⟩ | (refine ⟨?_, ?_⟩; (focus ((try simp (disch := omega) only [hz, nI_mul, nI_add, nI_sub']); exact in_nI (by omega) (by omega)))))
      exact hQ)
  · rw [szI_s] at hz
    have hw : wplN (s + 1) i = if ibB i s then 0 else 2 := rfl
    rw [hw] at hQ
    rcases hc with ⟨rfl, rfl, rfl, rfl, rfl⟩ | ⟨rfl, rfl, rfl, rfl, rfl⟩ <;> (
      cases hb : ibB i s
      · rw [hb, if_neg (by decide)] at hQ
        have h := of_decide_eq_false hb
        by_cases h0 : 0 ≤ i.toInt
        · by_cases h1 : i.toInt ≤ s
          · obtain ⟨j, hj, rfl⟩ := ibB_t (x := i) (n := s + 1) (decide_eq_true ⟨h0, by omega⟩) (by omega)
            rw [nI_toInt (by omega)] at *
            repeat (first | (refine xbr_f ?_ ?_; (focus ((simp (disch := omega) only [ix_lt, ix_le, ix_eq, ix_0, nI_clamp, nI_toInt, ng_T, nI_add, nI_mul, nI_sub', Int.neg_zero, not_false_eq_true, not_true_eq_false, hz] <;> omega); done))) | (refine xbr_t ?_ ?_; (focus ((simp (disch := omega) only [ix_lt, ix_le, ix_eq, ix_0, nI_clamp, nI_toInt, ng_T, nI_add, nI_mul, nI_sub', Int.neg_zero, not_false_eq_true, not_true_eq_false, hz] <;> omega); done))) | refine ⟨Or.inl rfl, ?_⟩ | refine ⟨Or.inr rfl, ?_⟩ | (refine ⟨?_, ?_⟩; (focus ((try simp (disch := omega) only [hz, nI_mul, nI_add, nI_sub']); exact in_nI (by omega) (by omega)))))
            exact hQ
          · repeat (first | (refine xbr_f ?_ ?_; (focus ((simp (disch := omega) only [ix_lt, ix_le, ix_eq, ix_0, nI_clamp, nI_toInt, ng_T, nI_add, nI_mul, nI_sub', Int.neg_zero, not_false_eq_true, not_true_eq_false, hz] <;> omega); done))) | (refine xbr_t ?_ ?_; (focus ((simp (disch := omega) only [ix_lt, ix_le, ix_eq, ix_0, nI_clamp, nI_toInt, ng_T, nI_add, nI_mul, nI_sub', Int.neg_zero, not_false_eq_true, not_true_eq_false, hz] <;> omega); done))) | refine ⟨Or.inl rfl, ?_⟩ | refine ⟨Or.inr rfl, ?_⟩ | (refine ⟨?_, ?_⟩; (focus ((try simp (disch := omega) only [hz, nI_mul, nI_add, nI_sub']); exact in_nI (by omega) (by omega)))))
            exact hQ
        · repeat (first | (refine xbr_f ?_ ?_; (focus ((simp (disch := omega) only [ix_lt, ix_le, ix_eq, ix_0, nI_clamp, nI_toInt, ng_T, nI_add, nI_mul, nI_sub', Int.neg_zero, not_false_eq_true, not_true_eq_false, hz] <;> omega); done))) | (refine xbr_t ?_ ?_; (focus ((simp (disch := omega) only [ix_lt, ix_le, ix_eq, ix_0, nI_clamp, nI_toInt, ng_T, nI_add, nI_mul, nI_sub', Int.neg_zero, not_false_eq_true, not_true_eq_false, hz] <;> omega); done))) | refine ⟨Or.inl rfl, ?_⟩ | refine ⟨Or.inr rfl, ?_⟩ | (refine ⟨?_, ?_⟩; (focus ((try simp (disch := omega) only [hz, nI_mul, nI_add, nI_sub']); exact in_nI (by omega) (by omega)))))
          exact hQ
      · rw [hb, if_pos rfl] at hQ
        obtain ⟨j, hj, rfl⟩ := ibB_t hb (by omega)
        repeat (first | (refine xbr_f ?_ ?_; (focus ((simp (disch := omega) only [ix_lt, ix_le, ix_eq, ix_0, nI_clamp, nI_toInt, ng_T, nI_add, nI_mul, nI_sub', Int.neg_zero, not_false_eq_true, not_true_eq_false, hz] <;> omega); done))) | (refine xbr_t ?_ ?_; (focus ((simp (disch := omega) only [ix_lt, ix_le, ix_eq, ix_0, nI_clamp, nI_toInt, ng_T, nI_add, nI_mul, nI_sub', Int.neg_zero, not_false_eq_true, not_true_eq_false, hz] <;> omega); done))) | refine ⟨Or.inl rfl, ?_⟩ | refine ⟨Or.inr rfl, ?_⟩ | (refine ⟨?_, ?_⟩; (focus ((try simp (disch := omega) only [hz, nI_mul, nI_add, nI_sub']); exact in_nI (by omega) (by omega)))))
        exact hQ)
theorem nn_lt {n : Nat} (h : n < 2 ^ 31) : ¬ nI n < 0 := by
  rw [ix_lt, nI_toInt h, ix_0]
  omega
def csX8_move : xCs := [(mX8_holds, sX8_holds)]
theorem okX8_move : xOkM mX8_move csX8_move := ⟨dX8_move, by decide +kernel, by decide +kernel, ⟨wdX8_36, wdX8_36, wdX8_25, wdX8_15, wdX8_25, wdX8_15, ⟨wdX8_47, wdCpy.1, wdCpy.2.1, wdCpy.2.2⟩, trivial⟩⟩
theorem hhX8_move : ∀ q ∈ csX8_move, xHd q.1 := xall1 hX8_holds (xall0)
theorem kkX8_move : ∀ q ∈ csX8_move, ∀ l, xCon l q.1 q.2 := xall1 kX8_holds (xall0)
def sX8_move : xSpec := xReg fun as I L Q => ∃ (c a d N mo r i t j n s s' : Nat), xShf c a d N mo ∧ as = [.ref c, .int (nI r), .int (nI i), .int (nI t), .int (nI j), .int (nI n)] ∧ r < N ∧ t < N ∧ i + n ≤ s ∧ j + n ≤ s' ∧ s ≤ mo ∧ s' ≤ mo ∧ I a r = nI s ∧ I a t = nI s' ∧ I c 0 = nI mo ∧ Q none (xrw I d (va_cpy (I d) (I d) (r * mo + i) (t * mo + j) n)) L
set_option maxRecDepth 100000 in
theorem kX8_move : ∀ l, xCon l mX8_move sX8_move := by
  refine xcon_of okX8_move hX8_move rfl hhX8_move kkX8_move ?_
  rintro as n0 I L P Q ⟨hn9, rfl, c, a, d, N, mo, r, i, t, j, n, s, s', hc, rfl, hr, ht, hi, hj, hs, hs', hz, hz', hmo, hQ⟩
  obtain ⟨e9, rfl⟩ := xe9 hn9
  refine ⟨Nat.le_of_ble_eq_true rfl, ?_⟩
  refine xrun okX8_move hhX8_move [] 200 ?_
  have e1 : nI r * I c 0 + nI i = nI (r * mo + i) := by rw [hmo, nI_mul, nI_add]
  have e2 : nI t * I c 0 + nI j = nI (t * mo + j) := by rw [hmo, nI_mul, nI_add]
  rcases hc with ⟨rfl, rfl, rfl, rfl, rfl⟩ | ⟨rfl, rfl, rfl, rfl, rfl⟩ <;> (
    repeat (first | (refine xbr_f ?_ ?_; (focus ((simp (disch := omega) only [ix_lt, ix_le, ix_eq, ix_0, nI_clamp, nI_toInt, ng_T, nI_add, nI_mul, nI_sub', Int.neg_zero, not_false_eq_true, not_true_eq_false, hz, hz', hmo] <;> omega); done))) | (refine xbr_t ?_ ?_; (focus ((simp (disch := omega) only [ix_lt, ix_le, ix_eq, ix_0, nI_clamp, nI_toInt, ng_T, nI_add, nI_mul, nI_sub', Int.neg_zero, not_false_eq_true, not_true_eq_false, hz, hz', hmo] <;> omega); done))) | refine ⟨Or.inl rfl, ?_⟩ | refine ⟨Or.inr rfl, ?_⟩ | (refine ⟨?_, ?_⟩; (focus ((try simp (disch := omega) only [hz, hz', hmo, nI_mul, nI_add, nI_sub']); exact in_nI (by omega) (by omega)))))
    refine ⟨?_, ?_, ?_, ?_, ?_, ?_⟩
    · rw [e1]
      exact nn_lt (by omega)
    · rw [e2]
      exact nn_lt (by omega)
    · exact nn_lt (by omega)
    · rw [e1, nI_clamp (by omega), nI_clamp (by omega)]
      show _ ≤ 240
      omega
    · rw [e2, nI_clamp (by omega), nI_clamp (by omega)]
      show _ ≤ 240
      omega
    · rw [e1, e2, nI_clamp (by omega), nI_clamp (by omega), nI_clamp (by omega)]
      exact hQ)
def suL (v : Nat → Int32) (lo : Nat) : Nat → Int64
  | 0 => lN 0
  | n + 1 => suL v lo n + (v (lo + n)).toInt64
def thB (z : Nat → Nat) : Nat → Bool := fun r => decide (¬ z r = 0)
def csX8_howManyThere : xCs := [(mX8_isThere, sX8_isThere)]
theorem okX8_howManyThere : xOkM mX8_howManyThere csX8_howManyThere := ⟨dX8_howManyThere, by decide +kernel, by decide +kernel, ⟨wdX8_21, wdX8_32, trivial⟩⟩
theorem hhX8_howManyThere : ∀ q ∈ csX8_howManyThere, xHd q.1 := xall1 hX8_isThere (xall0)
theorem kkX8_howManyThere : ∀ q ∈ csX8_howManyThere, ∀ l, xCon l q.1 q.2 := xall1 kX8_isThere (xall0)
def sX8_howManyThere : xSpec := xReg fun as I L Q => ∃ (c a d N mo : Nat) (z : Nat → Nat), xShf c a d N mo ∧ as = [.ref c] ∧ (∀ r, r < N → I a r = szI (z r) ∧ z r ≤ mo + 1) ∧ Q (some (.int (nI (cnN (thB z) N)))) I L
set_option maxRecDepth 100000 in
theorem kX8_howManyThere : ∀ l, xCon l mX8_howManyThere sX8_howManyThere := by
  refine xcon_of okX8_howManyThere hX8_howManyThere rfl hhX8_howManyThere kkX8_howManyThere ?_
  rintro as n0 I L P Q ⟨hn9, rfl, c, a, d, N, mo, z, hc, rfl, hz, hQ⟩
  obtain ⟨e9, rfl⟩ := xe9 hn9
  refine ⟨Nat.le_of_ble_eq_true rfl, ?_⟩
  refine xrun okX8_howManyThere hhX8_howManyThere [(4, [true, true, true])] 20 ?_
  refine xlp (M := mX8_howManyThere) (cs := csX8_howManyThere) (pc := 4) N (fun k => [some (.ref c), some (.int (nI (cnN (thB z) k))), some (.int (nI k))]) (fun _ => I) (fun _ => L) ?_ ?_
  · intro k hk ih
    refine xrun okX8_howManyThere hhX8_howManyThere [(4, [true, true, true])] 90 ?_
    obtain ⟨hz1, hz2⟩ := hz k hk
    have hcl := cnN_le (thB z) k
    have e : thB z k = decide (¬ z k = 0) := rfl
    rcases hc with ⟨rfl, rfl, rfl, rfl, rfl⟩ | ⟨rfl, rfl, rfl, rfl, rfl⟩ <;> (
      by_cases h0 : z k = 0
      · rw [decide_eq_false (fun q => q h0)] at e
        rw [h0, szI_0] at hz1
        repeat (first | (refine xbr_f ?_ ?_; (focus ((simp (disch := omega) only [ix_lt, ix_le, ix_eq, ix_0, nI_clamp, nI_toInt, ng_T, nI_add, nI_mul, nI_sub', Int.neg_zero, not_false_eq_true, not_true_eq_false, hz1] <;> omega); done))) | (refine xbr_t ?_ ?_; (focus ((simp (disch := omega) only [ix_lt, ix_le, ix_eq, ix_0, nI_clamp, nI_toInt, ng_T, nI_add, nI_mul, nI_sub', Int.neg_zero, not_false_eq_true, not_true_eq_false, hz1] <;> omega); done))) | refine ⟨Or.inl rfl, ?_⟩ | refine ⟨Or.inr rfl, ?_⟩ | (refine ⟨?_, ?_⟩; (focus ((try simp (disch := omega) only [hz1, nI_mul, nI_add, nI_sub']); exact in_nI (by omega) (by omega)))))
        refine xgo_eq ih ?_ rfl rfl
        ((repeat' (first | (with_reducible rfl) | exact xv_nil | refine xv_cons ?_ ?_ | refine xv_i ?_ | refine xv_l ?_)) <;> (simp (disch := omega) only [↓reduceIte, Bool.false_eq_true, Nat.one_mul, Nat.zero_mul, Nat.or_zero, Nat.add_zero, Nat.zero_add, Bool.toNat_true, Bool.toNat_false, shl_n, shr_n, fa_and, fa_or, nx_xor, nI_add, nI_mul, nI_sub', and_1, and_7, and_3', and_15, cnN, e]))
      · rw [decide_eq_true h0] at e
        obtain ⟨s, hs⟩ : ∃ s, z k = s + 1 := ⟨z k - 1, by omega⟩
        rw [hs, szI_s] at hz1
        repeat (first | (refine xbr_f ?_ ?_; (focus ((simp (disch := omega) only [ix_lt, ix_le, ix_eq, ix_0, nI_clamp, nI_toInt, ng_T, nI_add, nI_mul, nI_sub', Int.neg_zero, not_false_eq_true, not_true_eq_false, hz1] <;> omega); done))) | (refine xbr_t ?_ ?_; (focus ((simp (disch := omega) only [ix_lt, ix_le, ix_eq, ix_0, nI_clamp, nI_toInt, ng_T, nI_add, nI_mul, nI_sub', Int.neg_zero, not_false_eq_true, not_true_eq_false, hz1] <;> omega); done))) | refine ⟨Or.inl rfl, ?_⟩ | refine ⟨Or.inr rfl, ?_⟩ | (refine ⟨?_, ?_⟩; (focus ((try simp (disch := omega) only [hz1, nI_mul, nI_add, nI_sub']); exact in_nI (by omega) (by omega)))))
        refine xgo_eq ih ?_ rfl rfl
        ((repeat' (first | (with_reducible rfl) | exact xv_nil | refine xv_cons ?_ ?_ | refine xv_i ?_ | refine xv_l ?_)) <;> (simp (disch := omega) only [↓reduceIte, Bool.false_eq_true, Nat.one_mul, Nat.zero_mul, Nat.or_zero, Nat.add_zero, Nat.zero_add, Bool.toNat_true, Bool.toNat_false, shl_n, shr_n, fa_and, fa_or, nx_xor, nI_add, nI_mul, nI_sub', and_1, and_7, and_3', and_15, cnN, e])))
  · refine xrun okX8_howManyThere hhX8_howManyThere [] 60 ?_
    rcases hc with ⟨rfl, rfl, rfl, rfl, rfl⟩ | ⟨rfl, rfl, rfl, rfl, rfl⟩ <;> (
      repeat (first | (refine xbr_f ?_ ?_; (focus ((simp (disch := omega) only [ix_lt, ix_le, ix_eq, ix_0, nI_clamp, nI_toInt, ng_T, nI_add, nI_mul, nI_sub', Int.neg_zero, not_false_eq_true, not_true_eq_false] <;> omega); done))) | (refine xbr_t ?_ ?_; (focus ((simp (disch := omega) only [ix_lt, ix_le, ix_eq, ix_0, nI_clamp, nI_toInt, ng_T, nI_add, nI_mul, nI_sub', Int.neg_zero, not_false_eq_true, not_true_eq_false] <;> omega); done))) | refine ⟨Or.inl rfl, ?_⟩ | refine ⟨Or.inr rfl, ?_⟩ | (refine ⟨?_, ?_⟩; (focus (exact in_nI (by omega) (by omega)))))
      exact hQ)
def mxC (v : Nat → Int32) (lo : Nat) (h : Int64) : Nat → Int64
  | 0 => h
  | n + 1 => lN 31 * mxC v lo h n + (v (lo + n)).toInt64
def mxS (v : Nat → Int32) (z : Nat → Nat) (mo : Nat) (h : Int64) : Nat → Int64
  | 0 => h
  | r + 1 => mxC v (r * mo) (lN 31 * mxS v z mo h r + (szI (z r)).toInt64) (z r - 1)