/-! DEEDS -/
def csX1_begin : xCs := []
theorem okX1_begin : xOkM mX1_begin csX1_begin := ⟨dX1_begin, by decide +kernel, by decide +kernel, ⟨⟨wdX1_19, fun h => Bool.noConfusion h⟩, ⟨wdX1_23, fun h => Bool.noConfusion h⟩, ⟨wdX1_15, fun h => Bool.noConfusion h⟩, trivial⟩⟩
theorem hhX1_begin : ∀ q ∈ csX1_begin, xHd q.1 := xall0
theorem kkX1_begin : ∀ q ∈ csX1_begin, ∀ l, xCon l q.1 q.2 := xall0
def sX1_begin : xSpec := xTr mX1_begin csX1_begin 80
theorem kX1_begin : ∀ l, xCon l mX1_begin sX1_begin := xTr_con okX1_begin hX1_begin rfl rfl hhX1_begin kkX1_begin
def csX1_drop : xCs := []
theorem okX1_drop : xOkM mX1_drop csX1_drop := ⟨dX1_drop, by decide +kernel, by decide +kernel, ⟨⟨wdX1_15, fun h => Bool.noConfusion h⟩, trivial⟩⟩
theorem hhX1_drop : ∀ q ∈ csX1_drop, xHd q.1 := xall0
theorem kkX1_drop : ∀ q ∈ csX1_drop, ∀ l, xCon l q.1 q.2 := xall0
def sX1_drop : xSpec := xTr mX1_drop csX1_drop 80
theorem kX1_drop : ∀ l, xCon l mX1_drop sX1_drop := xTr_con okX1_drop hX1_drop rfl rfl hhX1_drop kkX1_drop
def csX1_isMissing : xCs := []
theorem okX1_isMissing : xOkM mX1_isMissing csX1_isMissing := ⟨dX1_isMissing, by decide +kernel, by decide +kernel, ⟨wdX1_15, trivial⟩⟩
theorem hhX1_isMissing : ∀ q ∈ csX1_isMissing, xHd q.1 := xall0
theorem kkX1_isMissing : ∀ q ∈ csX1_isMissing, ∀ l, xCon l q.1 q.2 := xall0
def sX1_isMissing : xSpec := xTr mX1_isMissing csX1_isMissing 80
theorem kX1_isMissing : ∀ l, xCon l mX1_isMissing sX1_isMissing := xTr_con okX1_isMissing hX1_isMissing rfl rfl hhX1_isMissing kkX1_isMissing
def csX1_become : xCs := []
theorem okX1_become : xOkM mX1_become csX1_become := ⟨dX1_become, by decide +kernel, by decide +kernel, ⟨wdX1_9, wdX1_9, ⟨wdX1_32, wdCpy.1, wdCpy.2.1, wdCpy.2.2⟩, wdX1_19, ⟨wdX1_19, fun h => Bool.noConfusion h⟩, wdX1_23, ⟨wdX1_23, fun h => Bool.noConfusion h⟩, wdX1_15, ⟨wdX1_15, fun h => Bool.noConfusion h⟩, trivial⟩⟩
theorem hhX1_become : ∀ q ∈ csX1_become, xHd q.1 := xall0
theorem kkX1_become : ∀ q ∈ csX1_become, ∀ l, xCon l q.1 q.2 := xall0
def sX1_become : xSpec := xTr mX1_become csX1_become 80
theorem kX1_become : ∀ l, xCon l mX1_become sX1_become := xTr_con okX1_become hX1_become rfl rfl hhX1_become kkX1_become
def csX1_hasRoomFor : xCs := []
theorem okX1_hasRoomFor : xOkM mX1_hasRoomFor csX1_hasRoomFor := ⟨dX1_hasRoomFor, by decide +kernel, by decide +kernel, ⟨wdX1_9, wdX1_15, trivial⟩⟩
theorem hhX1_hasRoomFor : ∀ q ∈ csX1_hasRoomFor, xHd q.1 := xall0
theorem kkX1_hasRoomFor : ∀ q ∈ csX1_hasRoomFor, ∀ l, xCon l q.1 q.2 := xall0
def sX1_hasRoomFor : xSpec := xReg fun as I L Q => ∃ (s n : Nat), as = [.ref 12, .int (nI n)] ∧ I 12 3 = nI s ∧ s ≤ 40 ∧ n < 100 ∧ Q (some (.int (bI (decide (n ≤ 40 - s))))) I L
set_option maxRecDepth 100000 in
theorem kX1_hasRoomFor : ∀ l, xCon l mX1_hasRoomFor sX1_hasRoomFor := by
  refine xcon_of okX1_hasRoomFor hX1_hasRoomFor rfl hhX1_hasRoomFor kkX1_hasRoomFor ?_
  rintro as n0 I L P Q ⟨hn9, rfl, s, n, rfl, hs, hs40, hn, hQ⟩
  obtain ⟨e9, rfl⟩ := xe9 hn9
  refine ⟨Nat.le_of_ble_eq_true rfl, ?_⟩
  refine xrun okX1_hasRoomFor hhX1_hasRoomFor [] 30 ?_
  have e : nI 40 - I 12 3 = nI (40 - s) := by rw [hs, nI_sub' hs40]
  by_cases h : n ≤ 40 - s
  · rw [decide_eq_true h] at hQ
    repeat (first | (refine xbr_f ?_ ?_; (focus ((simp (disch := omega) only [ix_lt, ix_le, ix_eq, ix_0, nI_clamp, nI_toInt, ng_T, nI_add, nI_mul, nI_sub', Int.neg_zero, not_false_eq_true, not_true_eq_false, e] <;> omega); done))) | (refine xbr_t ?_ ?_; (focus ((simp (disch := omega) only [ix_lt, ix_le, ix_eq, ix_0, nI_clamp, nI_toInt, ng_T, nI_add, nI_mul, nI_sub', Int.neg_zero, not_false_eq_true, not_true_eq_false, e] <;> omega); done))) | refine ⟨Or.inl rfl, ?_⟩ | refine ⟨Or.inr rfl, ?_⟩ | (refine ⟨?_, ?_⟩; (focus ((try simp (disch := omega) only [e, nI_mul, nI_add, nI_sub']); exact in_nI (by omega) (by omega)))))
    exact hQ
  · rw [decide_eq_false h] at hQ
    repeat (first | (refine xbr_f ?_ ?_; (focus ((simp (disch := omega) only [ix_lt, ix_le, ix_eq, ix_0, nI_clamp, nI_toInt, ng_T, nI_add, nI_mul, nI_sub', Int.neg_zero, not_false_eq_true, not_true_eq_false, e] <;> omega); done))) | (refine xbr_t ?_ ?_; (focus ((simp (disch := omega) only [ix_lt, ix_le, ix_eq, ix_0, nI_clamp, nI_toInt, ng_T, nI_add, nI_mul, nI_sub', Int.neg_zero, not_false_eq_true, not_true_eq_false, e] <;> omega); done))) | refine ⟨Or.inl rfl, ?_⟩ | refine ⟨Or.inr rfl, ?_⟩ | (refine ⟨?_, ?_⟩; (focus ((try simp (disch := omega) only [e, nI_mul, nI_add, nI_sub']); exact in_nI (by omega) (by omega)))))
    exact hQ
def csX1_add : xCs := []
theorem okX1_add : xOkM mX1_add csX1_add := ⟨dX1_add, by decide +kernel, by decide +kernel, ⟨wdX1_15, wdX1_15, wdX1_9, wdX1_9, wdX1_15, wdX1_19, wdX1_23, wdX1_15, ⟨wdX1_23, fun h => Bool.noConfusion h⟩, ⟨wdX1_19, fun h => Bool.noConfusion h⟩, wdX1_15, ⟨wdX1_15, fun h => Bool.noConfusion h⟩, trivial⟩⟩
theorem hhX1_add : ∀ q ∈ csX1_add, xHd q.1 := xall0
theorem kkX1_add : ∀ q ∈ csX1_add, ∀ l, xCon l q.1 q.2 := xall0
def sX1_add : xSpec := xReg fun as I L Q => ∃ (X Y b s : Nat) (c : Bool), as = [.ref 12, .long (lN X), .int (bI c)] ∧ I 12 3 = nI s ∧ s < 40 ∧ L 12 1 = lN Y ∧ L 12 2 = lN b ∧ b < 2 ^ 63 ∧ Q none (xup I 12 3 (nI (s + 1))) (xup (xup (xup L 13 s (lN Y)) 12 2 (lN (if c then b ||| 2 ^ s else b))) 12 1 (lN X))
set_option maxRecDepth 100000 in
theorem kX1_add : ∀ l, xCon l mX1_add sX1_add := by
  refine xcon_of okX1_add hX1_add rfl hhX1_add kkX1_add ?_
  rintro as n0 I L P Q ⟨hn9, rfl, X, Y, b, s, c, rfl, hs, hs40, hY, hb, hb63, hQ⟩
  obtain ⟨e9, rfl⟩ := xe9 hn9
  refine ⟨Nat.le_of_ble_eq_true rfl, ?_⟩
  refine xrun okX1_add hhX1_add [] 60 ?_
  (first | (refine xbr_f ?_ ?_; (focus ((simp (disch := omega) only [ix_lt, ix_le, ix_eq, ix_0, nI_clamp, nI_toInt, ng_T, nI_add, nI_mul, nI_sub', Int.neg_zero, not_false_eq_true, not_true_eq_false, hs] <;> omega); done))) | (refine xbr_t ?_ ?_; (focus ((simp (disch := omega) only [ix_lt, ix_le, ix_eq, ix_0, nI_clamp, nI_toInt, ng_T, nI_add, nI_mul, nI_sub', Int.neg_zero, not_false_eq_true, not_true_eq_false, hs] <;> omega); done))) | refine ⟨Or.inl rfl, ?_⟩ | refine ⟨Or.inr rfl, ?_⟩ | (refine ⟨?_, ?_⟩; (focus ((try simp (disch := omega) only [hs, nI_mul, nI_add, nI_sub']); exact in_nI (by omega) (by omega)))))
  (first | (refine xbr_f ?_ ?_; (focus ((simp (disch := omega) only [ix_lt, ix_le, ix_eq, ix_0, nI_clamp, nI_toInt, ng_T, nI_add, nI_mul, nI_sub', Int.neg_zero, not_false_eq_true, not_true_eq_false, hs] <;> omega); done))) | (refine xbr_t ?_ ?_; (focus ((simp (disch := omega) only [ix_lt, ix_le, ix_eq, ix_0, nI_clamp, nI_toInt, ng_T, nI_add, nI_mul, nI_sub', Int.neg_zero, not_false_eq_true, not_true_eq_false, hs] <;> omega); done))) | refine ⟨Or.inl rfl, ?_⟩ | refine ⟨Or.inr rfl, ?_⟩ | (refine ⟨?_, ?_⟩; (focus ((try simp (disch := omega) only [hs, nI_mul, nI_add, nI_sub']); exact in_nI (by omega) (by omega)))))
  have hs2 : (I 12 3).toNatClampNeg = s := by rw [hs, nI_clamp (by omega)]
  refine ⟨?_, ?_⟩
  · rw [hs]
    exact in_nI hs40 (by omega)
  have hp : (2 : Nat) ^ s < 2 ^ 63 := Nat.pow_lt_pow_right (by decide) (by omega)
  cases c
  · (first | refine xbr_t (by decide) ?_ | refine xbr_f (by decide) ?_)
    refine xq_eq (R := fun W V => Q none (e9 + 26) W V xP0) hQ (by rw [hs, nI_add]) ?_
    rw [hs2, hY, show xup L 13 s (lN Y) 12 2 = lN b from hb, wb_or (by omega) (by decide), Nat.or_zero]
    rfl
  · (first | refine xbr_t (by decide) ?_ | refine xbr_f (by decide) ?_)
    refine xq_eq (R := fun W V => Q none (e9 + 26) W V xP0) hQ (by rw [hs, nI_add]) ?_
    rw [hs2, hY, show xup L 13 s (lN Y) 12 2 = lN b from hb, hs, wb_shl 1 (by omega), wb_or (by omega) (by omega), Nat.one_mul]
    rfl
def csX1_takeBack : xCs := []
theorem okX1_takeBack : xOkM mX1_takeBack csX1_takeBack := ⟨dX1_takeBack, by decide +kernel, by decide +kernel, ⟨wdX1_15, wdX1_9, wdX1_15, wdX1_9, ⟨wdX1_19, fun h => Bool.noConfusion h⟩, wdX1_23, ⟨wdX1_23, fun h => Bool.noConfusion h⟩, ⟨wdX1_15, fun h => Bool.noConfusion h⟩, trivial⟩⟩
theorem hhX1_takeBack : ∀ q ∈ csX1_takeBack, xHd q.1 := xall0
theorem kkX1_takeBack : ∀ q ∈ csX1_takeBack, ∀ l, xCon l q.1 q.2 := xall0
def sX1_takeBack : xSpec := xReg fun as I L Q => ∃ (n s b Y : Nat), as = [.ref 12, .int (nI n)] ∧ I 12 3 = nI s ∧ s ≤ 40 ∧ n ≤ s ∧ L 12 2 = lN b ∧ b < 2 ^ 63 ∧ (n = s → Q (some (.int (nI 0))) I L) ∧ (n < s → L 13 n = lN Y ∧ Q (some (.int (nI (s - n)))) (xup I 12 3 (nI n)) (xup (xup L 12 1 (lN Y)) 12 2 (lN (b % 2 ^ n))))
set_option maxRecDepth 100000 in
theorem kX1_takeBack : ∀ l, xCon l mX1_takeBack sX1_takeBack := by
  refine xcon_of okX1_takeBack hX1_takeBack rfl hhX1_takeBack kkX1_takeBack ?_
  rintro as n0 I L P Q ⟨hn9, rfl, n, s, b, Y, rfl, hs, hs40, hn, hb, hb63, h1, h2⟩
  obtain ⟨e9, rfl⟩ := xe9 hn9
  refine ⟨Nat.le_of_ble_eq_true rfl, ?_⟩
  refine xrun okX1_takeBack hhX1_takeBack [] 60 ?_
  (first | (refine xbr_f ?_ ?_; (focus ((simp (disch := omega) only [ix_lt, ix_le, ix_eq, ix_0, nI_clamp, nI_toInt, ng_T, nI_add, nI_mul, nI_sub', Int.neg_zero, not_false_eq_true, not_true_eq_false, hs] <;> omega); done))) | (refine xbr_t ?_ ?_; (focus ((simp (disch := omega) only [ix_lt, ix_le, ix_eq, ix_0, nI_clamp, nI_toInt, ng_T, nI_add, nI_mul, nI_sub', Int.neg_zero, not_false_eq_true, not_true_eq_false, hs] <;> omega); done))) | refine ⟨Or.inl rfl, ?_⟩ | refine ⟨Or.inr rfl, ?_⟩ | (refine ⟨?_, ?_⟩; (focus ((try simp (disch := omega) only [hs, nI_mul, nI_add, nI_sub']); exact in_nI (by omega) (by omega)))))
  by_cases hc : n < s
  · obtain ⟨hY, hQ⟩ := h2 hc
    (first | (refine xbr_f ?_ ?_; (focus ((simp (disch := omega) only [ix_lt, ix_le, ix_eq, ix_0, nI_clamp, nI_toInt, ng_T, nI_add, nI_mul, nI_sub', Int.neg_zero, not_false_eq_true, not_true_eq_false, hs] <;> omega); done))) | (refine xbr_t ?_ ?_; (focus ((simp (disch := omega) only [ix_lt, ix_le, ix_eq, ix_0, nI_clamp, nI_toInt, ng_T, nI_add, nI_mul, nI_sub', Int.neg_zero, not_false_eq_true, not_true_eq_false, hs] <;> omega); done))) | refine ⟨Or.inl rfl, ?_⟩ | refine ⟨Or.inr rfl, ?_⟩ | (refine ⟨?_, ?_⟩; (focus ((try simp (disch := omega) only [hs, nI_mul, nI_add, nI_sub']); exact in_nI (by omega) (by omega)))))
    (first | (refine xbr_f ?_ ?_; (focus ((simp (disch := omega) only [ix_lt, ix_le, ix_eq, ix_0, nI_clamp, nI_toInt, ng_T, nI_add, nI_mul, nI_sub', Int.neg_zero, not_false_eq_true, not_true_eq_false, hs] <;> omega); done))) | (refine xbr_t ?_ ?_; (focus ((simp (disch := omega) only [ix_lt, ix_le, ix_eq, ix_0, nI_clamp, nI_toInt, ng_T, nI_add, nI_mul, nI_sub', Int.neg_zero, not_false_eq_true, not_true_eq_false, hs] <;> omega); done))) | refine ⟨Or.inl rfl, ?_⟩ | refine ⟨Or.inr rfl, ?_⟩ | (refine ⟨?_, ?_⟩; (focus ((try simp (disch := omega) only [hs, nI_mul, nI_add, nI_sub']); exact in_nI (by omega) (by omega)))))
    refine ⟨in_nI (by omega) (by omega), ?_⟩
    have hp : (2 : Nat) ^ n < 2 ^ 63 := Nat.pow_lt_pow_right (by decide) (by omega)
    have hp1 := Nat.two_pow_pos n
    have e : I 12 3 - nI n = nI (s - n) := by rw [hs, nI_sub' hn]
    rw [← e] at hQ
    refine xq_eq (R := fun W V => Q (some (.int (I 12 3 - nI n))) (e9 + 26) W V xP0) hQ rfl ?_
    have e2 : (lN 1 <<< ((nI n).toInt64 &&& 63)) - lN 1 = lN (2 ^ n - 1) := by rw [wb_shl 1 (by omega), Nat.one_mul, lN_sub hp1]
    rw [nI_clamp (by omega), hY, show xup L 12 1 (lN Y) 12 2 = lN b from hb, e2, wb_mask (by omega) (by omega)]
  · (first | (refine xbr_f ?_ ?_; (focus ((simp (disch := omega) only [ix_lt, ix_le, ix_eq, ix_0, nI_clamp, nI_toInt, ng_T, nI_add, nI_mul, nI_sub', Int.neg_zero, not_false_eq_true, not_true_eq_false, hs] <;> omega); done))) | (refine xbr_t ?_ ?_; (focus ((simp (disch := omega) only [ix_lt, ix_le, ix_eq, ix_0, nI_clamp, nI_toInt, ng_T, nI_add, nI_mul, nI_sub', Int.neg_zero, not_false_eq_true, not_true_eq_false, hs] <;> omega); done))) | refine ⟨Or.inl rfl, ?_⟩ | refine ⟨Or.inr rfl, ?_⟩ | (refine ⟨?_, ?_⟩; (focus ((try simp (disch := omega) only [hs, nI_mul, nI_add, nI_sub']); exact in_nI (by omega) (by omega)))))
    exact h1 (by omega)
def csX1_howManyDays : xCs := [(mJ13_bitCount_95d88, sJ13_bitCount_95d88)]
theorem okX1_howManyDays : xOkM mX1_howManyDays csX1_howManyDays := ⟨dX1_howManyDays, by decide +kernel, by decide +kernel, ⟨wdX1_23, wdX1_26, trivial⟩⟩
theorem hhX1_howManyDays : ∀ q ∈ csX1_howManyDays, xHd q.1 := xall1 hJ13_bitCount_95d88 (xall0)
theorem kkX1_howManyDays : ∀ q ∈ csX1_howManyDays, ∀ l, xCon l q.1 q.2 := xall1 kJ13_bitCount_95d88 (xall0)
def sX1_howManyDays : xSpec := xReg fun as I L Q => ∃ (b : Nat), as = [.ref 12] ∧ L 12 2 = lN b ∧ b < 2 ^ 63 ∧ Q (some (.int (nI (pcf 64 b)))) I L
set_option maxRecDepth 100000 in
theorem kX1_howManyDays : ∀ l, xCon l mX1_howManyDays sX1_howManyDays := by
  refine xcon_of okX1_howManyDays hX1_howManyDays rfl hhX1_howManyDays kkX1_howManyDays ?_
  rintro as n0 I L P Q ⟨hn9, rfl, b, rfl, hb, hb63, hQ⟩
  obtain ⟨e9, rfl⟩ := xe9 hn9
  refine ⟨Nat.le_of_ble_eq_true rfl, ?_⟩
  refine xrun okX1_howManyDays hhX1_howManyDays [] 60 ?_
  exact ⟨rfl, rfl, b, by rw [hb], hb63, hQ⟩
