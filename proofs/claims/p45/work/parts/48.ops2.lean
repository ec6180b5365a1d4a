theorem ib_no {r : Int32} {n : Nat} (hn : n < 2 ^ 31) (hr : ¬ vp_in r n) : ibB r n = false := by
  cases h : ibB r n
  · rfl
  · exact absurd ((in_ib hn).mpr h) hr
def tearR (S : ST) (r o : Int32) (S' : ST) : Prop := (ibB r 6 = false ∧ o = -(nI 1) ∧ S' = S) ∨ (∃ j, r = nI j ∧ j < 6 ∧ ((S.rz j = 0 ∧ fin S 1 o S') ∨ (0 < S.rz j ∧ o = nI 1 ∧ S' = S.wR (fun t => if t = j then 0 else S.rz t) S.rv)))
def meanR (S : ST) (r o : Int32) (S' : ST) : Prop := (ibB r 6 = false ∧ o = -(nI 1) ∧ S' = S) ∨ (∃ j, r = nI j ∧ j < 6 ∧ ((S.rz j = 0 ∧ fin S 1 o S') ∨ (S.rz j = 1 ∧ fin S 4 o S') ∨ (∃ s, S.rz j = s + 2 ∧ o = nI 1 ∧ S' = S.wT (suL S.rv (j * 40) (s + 1) / (nI (s + 1)).toInt64).toInt32)))
def textR (S : ST) (r n o : Int32) (S' : ST) : Prop := (¬ (ibB r 4 = true ∧ n.toInt ≤ 60) ∧ o = -(nI 1) ∧ S' = S) ∨ (ibB r 4 = true ∧ n.toInt < 0 ∧ fin S 5 o S') ∨ (∃ j m, r = nI j ∧ j < 4 ∧ n = nI m ∧ m ≤ 60 ∧ o = nI m ∧ S' = S.wX (fun t => if t = j then m + 1 else S.tz t) (xfil S.tv (j * 60) m (nI 32)))
def csX10_text : xCs := [(mX8_isNumber, sX8_isNumber), (mX10_refuse, sX10_refuse), (mX8_renew, sX8_renew)]
theorem okX10_text : xOkM mX10_text csX10_text := ⟨dX10_text, by decide +kernel, by decide +kernel, ⟨wdX10_18, wdX10_75, wdX10_79, wdX10_18, wdX10_83, trivial⟩⟩
theorem hhX10_text : ∀ q ∈ csX10_text, xHd q.1 := xall1 hX8_isNumber (xall1 hX10_refuse (xall1 hX8_renew (xall0)))
theorem kkX10_text : ∀ q ∈ csX10_text, ∀ l, xCon l q.1 q.2 := xall1 kX8_isNumber (xall1 kX10_refuse (xall1 kX8_renew (xall0)))
def sX10_text : xSpec := xReg fun as I L Q => ∃ (S : ST) (r n : Int32), as = [.ref 1, .int r, .int n] ∧ Cls S I L ∧ (∀ o S' I' L', textR S r n o S' → frC I L I' L' → Cls S' I' L' → Q (some (.int o)) I' L')
set_option maxRecDepth 100000 in
theorem kX10_text : ∀ l, xCon l mX10_text sX10_text := by
  refine xcon_of okX10_text hX10_text rfl hhX10_text kkX10_text ?_
  rintro as n0 I L P Q ⟨hn9, rfl, S, r, n, rfl, hC, hQ⟩
  obtain ⟨e9, rfl⟩ := xe9 hn9
  refine ⟨Nat.le_of_ble_eq_true rfl, ?_⟩
  refine xrun okX10_text hhX10_text [] 60 ?_
  refine ⟨rfl, rfl, 5, 6, 7, 4, 60, r, Or.inr ⟨rfl, rfl, rfl, rfl, rfl⟩, rfl, fun hr => ?_, fun hr => ?_⟩
  · have hb := (in_ib (by decide)).mp hr
    (first | refine xbr_t (by decide) ?_ | refine xbr_f (by decide) ?_)
    by_cases h1 : n.toInt ≤ 60
    · by_cases h2 : n.toInt < 0
      · repeat (first | (refine xbr_f ?_ ?_; (focus ((simp (disch := omega) only [ix_lt, ix_le, ix_eq, ix_0, nI_clamp, nI_toInt, ng_T, nI_add, nI_mul, nI_sub', Int.neg_zero, not_false_eq_true, not_true_eq_false] <;> omega); done))) | (refine xbr_t ?_ ?_; (focus ((simp (disch := omega) only [ix_lt, ix_le, ix_eq, ix_0, nI_clamp, nI_toInt, ng_T, nI_add, nI_mul, nI_sub', Int.neg_zero, not_false_eq_true, not_true_eq_false] <;> omega); done))) | refine ⟨Or.inl rfl, ?_⟩ | refine ⟨Or.inr rfl, ?_⟩ | (refine ⟨?_, ?_⟩; (focus (exact in_nI (by omega) (by omega)))))
        refine ⟨rfl, rfl, S, 5, rfl, by decide, hC, fun I' hf hC' => ?_⟩
        exact hQ _ _ _ _ (Or.inr (Or.inl ⟨hb, h2, rfl, rfl⟩)) hf hC'
      · obtain ⟨m, hm, rfl⟩ := ibB_t (x := n) (n := 61) (decide_eq_true ⟨by omega, by omega⟩) (by decide)
        obtain ⟨j, hj, rfl⟩ := ibB_t hb (by decide)
        repeat (first | (refine xbr_f ?_ ?_; (focus ((simp (disch := omega) only [ix_lt, ix_le, ix_eq, ix_0, nI_clamp, nI_toInt, ng_T, nI_add, nI_mul, nI_sub', Int.neg_zero, not_false_eq_true, not_true_eq_false] <;> omega); done))) | (refine xbr_t ?_ ?_; (focus ((simp (disch := omega) only [ix_lt, ix_le, ix_eq, ix_0, nI_clamp, nI_toInt, ng_T, nI_add, nI_mul, nI_sub', Int.neg_zero, not_false_eq_true, not_true_eq_false] <;> omega); done))) | refine ⟨Or.inl rfl, ?_⟩ | refine ⟨Or.inr rfl, ?_⟩ | (refine ⟨?_, ?_⟩; (focus (exact in_nI (by omega) (by omega)))))
        refine ⟨rfl, rfl, 5, 6, 7, 4, 60, j, m, nI 32, Or.inr ⟨rfl, rfl, rfl, rfl, rfl⟩, rfl, hj, by omega, hC.m5, ?_⟩
        have h2 := Cls_X hC (g := fun r => if r = j then nI m else I 6 r) (z := fun t => if t = j then m + 1 else S.tz t) (v := xfil S.tv (j * 60) m (nI 32)) (fun t ht => by
          show (if t = j then nI m else I 6 t) = szI (if t = j then m + 1 else S.tz t)
          by_cases e : t = j
          · rw [if_pos e, if_pos e, szI_s]
          · rw [if_neg e, if_neg e, hC.tz t ht]) (fun t ht => by
          show (if t = j then m + 1 else S.tz t) ≤ 61
          have := hC.ok.tz t ht
          split <;> omega) (fun k => by
          show -128 ≤ (if j * 60 ≤ k ∧ k < j * 60 + m then nI 32 else S.tv k).toInt ∧ (if j * 60 ≤ k ∧ k < j * 60 + m then nI 32 else S.tv k).toInt < 128
          split
          · decide
          · exact hC.ok.tv k)
        rw [← hC.tv] at h2
        refine hQ _ _ _ _ (Or.inr (Or.inr ⟨j, m, rfl, hj, rfl, by omega, rfl, rfl⟩)) (frC_t (frC_I (by decide) _ _ _ _) (frC_W (by decide) _ _ _)) ?_
        rw [← hC.tv]
        exact h2
    · repeat (first | (refine xbr_f ?_ ?_; (focus ((simp (disch := omega) only [ix_lt, ix_le, ix_eq, ix_0, nI_clamp, nI_toInt, ng_T, nI_add, nI_mul, nI_sub', Int.neg_zero, not_false_eq_true, not_true_eq_false] <;> omega); done))) | (refine xbr_t ?_ ?_; (focus ((simp (disch := omega) only [ix_lt, ix_le, ix_eq, ix_0, nI_clamp, nI_toInt, ng_T, nI_add, nI_mul, nI_sub', Int.neg_zero, not_false_eq_true, not_true_eq_false] <;> omega); done))) | refine ⟨Or.inl rfl, ?_⟩ | refine ⟨Or.inr rfl, ?_⟩ | (refine ⟨?_, ?_⟩; (focus (exact in_nI (by omega) (by omega)))))
      exact hQ _ _ _ _ (Or.inl ⟨fun q => h1 q.2, rfl, rfl⟩) (frC_0 _ _) hC
  · (first | refine xbr_t (by decide) ?_ | refine xbr_f (by decide) ?_)
    exact hQ _ _ _ _ (Or.inl ⟨fun q => hr ((in_ib (by decide)).mpr q.1), rfl, rfl⟩) (frC_0 _ _) hC
def putR (S : ST) (r i v o : Int32) (S' : ST) : Prop := (ibB r 4 = false ∧ o = -(nI 1) ∧ S' = S) ∨ (∃ j, r = nI j ∧ j < 4 ∧ ((S.tz j = 0 ∧ fin S 1 o S') ∨ (0 < S.tz j ∧ ibB i (S.tz j - 1) = false ∧ fin S 2 o S') ∨ (∃ m, i = nI m ∧ m < S.tz j - 1 ∧ o = nI 1000 + S.tv (j * 60 + m) ∧ S' = S.wX S.tz (fun t => if t = j * 60 + m then v.toInt8.toInt32 else S.tv t))))
def csX10_put : xCs := [(mX8_isNumber, sX8_isNumber), (mX8_wrongPlace, sX8_wrongPlace), (mX10_refuse, sX10_refuse), (mX8_swap, sX8_swap)]
theorem okX10_put : xOkM mX10_put csX10_put := ⟨dX10_put, by decide +kernel, by decide +kernel, ⟨wdX10_18, wdX10_75, wdX10_18, wdX10_87, wdX10_79, wdX10_18, wdX10_91, trivial⟩⟩
theorem hhX10_put : ∀ q ∈ csX10_put, xHd q.1 := xall1 hX8_isNumber (xall1 hX8_wrongPlace (xall1 hX10_refuse (xall1 hX8_swap (xall0))))
theorem kkX10_put : ∀ q ∈ csX10_put, ∀ l, xCon l q.1 q.2 := xall1 kX8_isNumber (xall1 kX8_wrongPlace (xall1 kX10_refuse (xall1 kX8_swap (xall0))))
def sX10_put : xSpec := xReg fun as I L Q => ∃ (S : ST) (r i v : Int32), as = [.ref 1, .int r, .int i, .int v] ∧ Cls S I L ∧ (∀ o S' I' L', putR S r i v o S' → frC I L I' L' → Cls S' I' L' → Q (some (.int o)) I' L')
set_option maxRecDepth 100000 in
theorem kX10_put : ∀ l, xCon l mX10_put sX10_put := by
  refine xcon_of okX10_put hX10_put rfl hhX10_put kkX10_put ?_
  rintro as n0 I L P Q ⟨hn9, rfl, S, r, i, v, rfl, hC, hQ⟩
  obtain ⟨e9, rfl⟩ := xe9 hn9
  refine ⟨Nat.le_of_ble_eq_true rfl, ?_⟩
  refine xrun okX10_put hhX10_put [] 60 ?_
  refine ⟨rfl, rfl, 5, 6, 7, 4, 60, r, Or.inr ⟨rfl, rfl, rfl, rfl, rfl⟩, rfl, fun hr => ?_, fun hr => ?_⟩
  · have hb := (in_ib (by decide)).mp hr
    obtain ⟨j, hj, rfl⟩ := ibB_t hb (by decide)
    (first | refine xbr_t (by decide) ?_ | refine xbr_f (by decide) ?_)
    have hz := hC.tz j hj
    have hz41 := hC.ok.tz j hj
    refine ⟨rfl, rfl, 5, 6, 7, 4, 60, j, S.tz j, i, Or.inr ⟨rfl, rfl, rfl, rfl, rfl⟩, rfl, hj, hz41, hz, ?_⟩
    by_cases h0 : S.tz j = 0
    · rw [h0, wpl_0]
      (first | refine xbr_t (by decide) ?_ | refine xbr_f (by decide) ?_)
      refine ⟨rfl, rfl, S, 1, rfl, by decide, hC, fun I' hf hC' => ?_⟩
      exact hQ _ _ _ _ (Or.inr ⟨j, rfl, hj, Or.inl ⟨h0, rfl, rfl⟩⟩) hf hC'
    · cases hi : ibB i (S.tz j - 1)
      · rw [wpl_f (by omega) hi]
        (first | refine xbr_t (by decide) ?_ | refine xbr_f (by decide) ?_)
        refine ⟨rfl, rfl, S, 2, rfl, by decide, hC, fun I' hf hC' => ?_⟩
        exact hQ _ _ _ _ (Or.inr ⟨j, rfl, hj, Or.inr (Or.inl ⟨by omega, hi, rfl, rfl⟩)⟩) hf hC'
      · rw [wpl_t (by omega) hi]
        (first | refine xbr_t (by decide) ?_ | refine xbr_f (by decide) ?_)
        obtain ⟨m, hm, rfl⟩ := ibB_t hi (by omega)
        obtain ⟨s, hs⟩ : ∃ s, S.tz j = s + 1 := ⟨S.tz j - 1, by omega⟩
        rw [hs, szI_s] at hz
        refine ⟨rfl, rfl, 5, 6, 7, 4, 60, j, m, s, v.toInt8.toInt32, Or.inr ⟨rfl, rfl, rfl, rfl, rfl⟩, rfl, hj, hz, by omega, by omega, hC.m5, ?_⟩
        have h2 := Cls_X hC (g := I 6) (z := S.tz) (v := fun t => if t = j * 60 + m then v.toInt8.toInt32 else S.tv t) hC.tz hC.ok.tz (fun k => by
          show -128 ≤ (if k = j * 60 + m then v.toInt8.toInt32 else S.tv k).toInt ∧ (if k = j * 60 + m then v.toInt8.toInt32 else S.tv k).toInt < 128
          split
          · exact lg_i2b_range v
          · exact hC.ok.tv k)
        rw [xrw_self, ← hC.tv] at h2
        refine hQ _ _ _ _ (Or.inr ⟨j, rfl, hj, Or.inr (Or.inr ⟨m, rfl, hm, by rw [hC.tv], rfl⟩)⟩) (frC_I (by decide) _ _ _ _) ?_
        rw [← hC.tv]
        exact h2
  · have hb := ib_no (by decide) hr
    (first | refine xbr_t (by decide) ?_ | refine xbr_f (by decide) ?_)
    exact hQ _ _ _ _ (Or.inl ⟨hb, rfl, rfl⟩) (frC_0 _ _) hC
def copyR (S : ST) (r i t j n o : Int32) (S' : ST) : Prop := (¬ (ibB r 6 = true ∧ ibB t 6 = true) ∧ o = -(nI 1) ∧ S' = S) ∨ (∃ a b, r = nI a ∧ a < 6 ∧ t = nI b ∧ b < 6 ∧ ((n.toInt < 0 ∧ fin S 5 o S') ∨ (0 ≤ n.toInt ∧ (S.rz a = 0 ∨ S.rz b = 0) ∧ fin S 1 o S') ∨ (0 ≤ n.toInt ∧ 0 < S.rz a ∧ 0 < S.rz b ∧ ¬ (0 ≤ i.toInt ∧ 0 ≤ j.toInt ∧ i.toInt + n.toInt ≤ (S.rz a - 1 : Nat) ∧ j.toInt + n.toInt ≤ (S.rz b - 1 : Nat)) ∧ fin S 2 o S') ∨
  (∃ p q m, i = nI p ∧ j = nI q ∧ n = nI m ∧ 0 < S.rz a ∧ 0 < S.rz b ∧ p + m ≤ S.rz a - 1 ∧ q + m ≤ S.rz b - 1 ∧ o = nI 1 ∧ S' = S.wR S.rz (va_cpy S.rv S.rv (a * 40 + p) (b * 40 + q) m))))
def csX10_copy : xCs := [(mX8_isNumber, sX8_isNumber), (mX10_refuse, sX10_refuse), (mX8_isThere, sX8_isThere), (mX8_holds, sX8_holds), (mX8_move, sX8_move)]
theorem okX10_copy : xOkM mX10_copy csX10_copy := ⟨dX10_copy, by decide +kernel, by decide +kernel, ⟨wdX10_14, wdX10_75, wdX10_14, wdX10_75, wdX10_79, wdX10_14, wdX10_101, wdX10_14, wdX10_101, wdX10_79, wdX10_14, wdX10_108, wdX10_14, wdX10_108, wdX10_79, wdX10_14, wdX10_112, trivial⟩⟩
theorem hhX10_copy : ∀ q ∈ csX10_copy, xHd q.1 := xall1 hX8_isNumber (xall1 hX10_refuse (xall1 hX8_isThere (xall1 hX8_holds (xall1 hX8_move (xall0)))))
theorem kkX10_copy : ∀ q ∈ csX10_copy, ∀ l, xCon l q.1 q.2 := xall1 kX8_isNumber (xall1 kX10_refuse (xall1 kX8_isThere (xall1 kX8_holds (xall1 kX8_move (xall0)))))
def sX10_copy : xSpec := xReg fun as I L Q => ∃ (S : ST) (r i t j n : Int32), as = [.ref 1, .int r, .int i, .int t, .int j, .int n] ∧ Cls S I L ∧ (∀ o S' I' L', copyR S r i t j n o S' → frC I L I' L' → Cls S' I' L' → Q (some (.int o)) I' L')
theorem sub_T {a b : Int32} (h : -2 ^ 31 ≤ a.toInt - b.toInt ∧ a.toInt - b.toInt < 2 ^ 31) : (a - b).toInt = a.toInt - b.toInt := by
  rw [Int32.toInt_sub]
  exact Int.bmod_eq_of_le (by omega) (by omega)
set_option maxRecDepth 100000 in
theorem kX10_copy : ∀ l, xCon l mX10_copy sX10_copy := by
  refine xcon_of okX10_copy hX10_copy rfl hhX10_copy kkX10_copy ?_
  rintro as n0 I L P Q ⟨hn9, rfl, S, r, i, t, j, n, rfl, hC, hQ⟩
  obtain ⟨e9, rfl⟩ := xe9 hn9
  refine ⟨Nat.le_of_ble_eq_true rfl, ?_⟩
  refine xrun okX10_copy hhX10_copy [] 60 ?_
  refine ⟨rfl, rfl, 2, 3, 4, 6, 40, r, Or.inl ⟨rfl, rfl, rfl, rfl, rfl⟩, rfl, fun hr => ?_, fun hr => ?_⟩
  · have hb := (in_ib (by decide)).mp hr
    (first | refine xbr_t (by decide) ?_ | refine xbr_f (by decide) ?_)
    refine ⟨rfl, rfl, 2, 3, 4, 6, 40, t, Or.inl ⟨rfl, rfl, rfl, rfl, rfl⟩, rfl, fun ht => ?_, fun ht => ?_⟩
    · have hb2 := (in_ib (by decide)).mp ht
      obtain ⟨a, ha, rfl⟩ := ibB_t hb (by decide)
      obtain ⟨b, hbb, rfl⟩ := ibB_t hb2 (by decide)
      (first | refine xbr_t (by decide) ?_ | refine xbr_f (by decide) ?_)
      have hQ := fun o S' I' L' h => hQ o S' I' L' (Or.inr ⟨a, b, rfl, ha, rfl, hbb, h⟩)
      have hza := hC.rz a ha
      have hzb := hC.rz b hbb
      have la := hC.ok.rz a ha
      have lb := hC.ok.rz b hbb
      by_cases hn : n.toInt < 0
      · repeat (first | (refine xbr_f ?_ ?_; (focus ((simp (disch := omega) only [ix_lt, ix_le, ix_eq, ix_0, nI_clamp, nI_toInt, ng_T, nI_add, nI_mul, nI_sub', Int.neg_zero, not_false_eq_true, not_true_eq_false] <;> omega); done))) | (refine xbr_t ?_ ?_; (focus ((simp (disch := omega) only [ix_lt, ix_le, ix_eq, ix_0, nI_clamp, nI_toInt, ng_T, nI_add, nI_mul, nI_sub', Int.neg_zero, not_false_eq_true, not_true_eq_false] <;> omega); done))) | refine ⟨Or.inl rfl, ?_⟩ | refine ⟨Or.inr rfl, ?_⟩ | (refine ⟨?_, ?_⟩; (focus (exact in_nI (by omega) (by omega)))))
        refine ⟨rfl, rfl, S, 5, rfl, by decide, hC, fun I' hf hC' => ?_⟩
        exact hQ _ _ _ _ (Or.inl ⟨hn, rfl, rfl⟩) hf hC'
      · by_cases h0 : S.rz a = 0
        · rw [h0, szI_0] at hza
          repeat (first | (refine xbr_f ?_ ?_; (focus ((simp (disch := omega) only [ix_lt, ix_le, ix_eq, ix_0, nI_clamp, nI_toInt, ng_T, nI_add, nI_mul, nI_sub', Int.neg_zero, not_false_eq_true, not_true_eq_false, hza] <;> omega); done))) | (refine xbr_t ?_ ?_; (focus ((simp (disch := omega) only [ix_lt, ix_le, ix_eq, ix_0, nI_clamp, nI_toInt, ng_T, nI_add, nI_mul, nI_sub', Int.neg_zero, not_false_eq_true, not_true_eq_false, hza] <;> omega); done))) | refine ⟨Or.inl rfl, ?_⟩ | refine ⟨Or.inr rfl, ?_⟩ | (refine ⟨?_, ?_⟩; (focus ((try simp (disch := omega) only [hza, nI_mul, nI_add, nI_sub']); exact in_nI (by omega) (by omega)))))
          refine ⟨rfl, rfl, S, 1, rfl, by decide, hC, fun I' hf hC' => ?_⟩
          exact hQ _ _ _ _ (Or.inr (Or.inl ⟨by omega, Or.inl h0, rfl, rfl⟩)) hf hC'
        · obtain ⟨s, hs⟩ : ∃ s, S.rz a = s + 1 := ⟨S.rz a - 1, by omega⟩
          rw [hs, szI_s] at hza
          by_cases h1 : S.rz b = 0
          · rw [h1, szI_0] at hzb
            repeat (first | (refine xbr_f ?_ ?_; (focus ((simp (disch := omega) only [ix_lt, ix_le, ix_eq, ix_0, nI_clamp, nI_toInt, ng_T, nI_add, nI_mul, nI_sub', Int.neg_zero, not_false_eq_true, not_true_eq_false, hza, hzb] <;> omega); done))) | (refine xbr_t ?_ ?_; (focus ((simp (disch := omega) only [ix_lt, ix_le, ix_eq, ix_0, nI_clamp, nI_toInt, ng_T, nI_add, nI_mul, nI_sub', Int.neg_zero, not_false_eq_true, not_true_eq_false, hza, hzb] <;> omega); done))) | refine ⟨Or.inl rfl, ?_⟩ | refine ⟨Or.inr rfl, ?_⟩ | (refine ⟨?_, ?_⟩; (focus ((try simp (disch := omega) only [hza, hzb, nI_mul, nI_add, nI_sub']); exact in_nI (by omega) (by omega)))))
            refine ⟨rfl, rfl, S, 1, rfl, by decide, hC, fun I' hf hC' => ?_⟩
            exact hQ _ _ _ _ (Or.inr (Or.inl ⟨by omega, Or.inr h1, rfl, rfl⟩)) hf hC'
          · obtain ⟨s', hs'⟩ : ∃ s, S.rz b = s + 1 := ⟨S.rz b - 1, by omega⟩
            rw [hs', szI_s] at hzb
            by_cases hc : 0 ≤ i.toInt ∧ 0 ≤ j.toInt ∧ i.toInt + n.toInt ≤ (S.rz a - 1 : Nat) ∧ j.toInt + n.toInt ≤ (S.rz b - 1 : Nat)
            · obtain ⟨p, hp, rfl⟩ := ibB_t (x := i) (n := 41) (decide_eq_true ⟨by omega, by omega⟩) (by decide)
              obtain ⟨q, hq, rfl⟩ := ibB_t (x := j) (n := 41) (decide_eq_true ⟨by omega, by omega⟩) (by decide)
              obtain ⟨m, hm, rfl⟩ := ibB_t (x := n) (n := 41) (decide_eq_true ⟨by omega, by omega⟩) (by decide)
              rw [nI_toInt (by omega), nI_toInt (by omega), nI_toInt (by omega)] at hc
              repeat (first | (refine xbr_f ?_ ?_; (focus ((simp (disch := omega) only [ix_lt, ix_le, ix_eq, ix_0, nI_clamp, nI_toInt, ng_T, nI_add, nI_mul, nI_sub', Int.neg_zero, not_false_eq_true, not_true_eq_false, hza, hzb] <;> omega); done))) | (refine xbr_t ?_ ?_; (focus ((simp (disch := omega) only [ix_lt, ix_le, ix_eq, ix_0, nI_clamp, nI_toInt, ng_T, nI_add, nI_mul, nI_sub', Int.neg_zero, not_false_eq_true, not_true_eq_false, hza, hzb] <;> omega); done))) | refine ⟨Or.inl rfl, ?_⟩ | refine ⟨Or.inr rfl, ?_⟩ | (refine ⟨?_, ?_⟩; (focus ((try simp (disch := omega) only [hza, hzb, nI_mul, nI_add, nI_sub']); exact in_nI (by omega) (by omega)))))
              refine ⟨rfl, rfl, 2, 3, 4, 6, 40, a, p, b, q, m, s, s', Or.inl ⟨rfl, rfl, rfl, rfl, rfl⟩, rfl, ha, hbb, by omega, by omega, by omega, by omega, hza, hzb, hC.m2, ?_⟩
              have h2 := Cls_R hC (g := I 3) (z := S.rz) (v := va_cpy (I 4) (I 4) (a * 40 + p) (b * 40 + q) m) hC.rz hC.ok.rz
              rw [xrw_self] at h2
              refine hQ _ _ _ _ (Or.inr (Or.inr (Or.inr ⟨p, q, m, rfl, rfl, rfl, by omega, by omega, by omega, by omega, rfl, rfl⟩))) (frC_W (by decide) _ _ _) ?_
              rw [← hC.rv]
              exact h2
            · have done : ∀ I', frC I L I' L → Cls (S.wF 2) I' L → Q (some (.int (-(nI 3)))) (e9 + 26) I' L xP0 := fun I' hf hC' => hQ _ _ _ _ (Or.inr (Or.inr (Or.inl ⟨by omega, by omega, by omega, hc, rfl, rfl⟩))) hf hC'
              rw [hs, hs'] at hc
              by_cases c1 : 0 ≤ i.toInt
              · by_cases c2 : i.toInt ≤ s
                · have e1 : (nI s - i).toInt = s - i.toInt := by rw [sub_T (by rw [nI_toInt (by omega)]; omega), nI_toInt (by omega)]
                  by_cases c3 : n.toInt ≤ s - i.toInt
                  · by_cases d1 : 0 ≤ j.toInt
                    · by_cases d2 : j.toInt ≤ s'
                      · have e2 : (nI s' - j).toInt = s' - j.toInt := by rw [sub_T (by rw [nI_toInt (by omega)]; omega), nI_toInt (by omega)]
                        repeat (first | (refine xbr_f ?_ ?_; (focus ((simp (disch := omega) only [ix_lt, ix_le, ix_eq, ix_0, nI_clamp, nI_toInt, ng_T, nI_add, nI_mul, nI_sub', Int.neg_zero, not_false_eq_true, not_true_eq_false, hza, hzb, e1, e2] <;> omega); done))) | (refine xbr_t ?_ ?_; (focus ((simp (disch := omega) only [ix_lt, ix_le, ix_eq, ix_0, nI_clamp, nI_toInt, ng_T, nI_add, nI_mul, nI_sub', Int.neg_zero, not_false_eq_true, not_true_eq_false, hza, hzb, e1, e2] <;> omega); done))) | refine ⟨Or.inl rfl, ?_⟩ | refine ⟨Or.inr rfl, ?_⟩ | (refine ⟨?_, ?_⟩; (focus ((try simp (disch := omega) only [hza, hzb, e1, e2, nI_mul, nI_add, nI_sub']); exact in_nI (by omega) (by omega)))))
                        exact ⟨rfl, rfl, S, 2, rfl, by decide, hC, done⟩
                      · repeat (first | (refine xbr_f ?_ ?_; (focus ((simp (disch := omega) only [ix_lt, ix_le, ix_eq, ix_0, nI_clamp, nI_toInt, ng_T, nI_add, nI_mul, nI_sub', Int.neg_zero, not_false_eq_true, not_true_eq_false, hza, hzb, e1] <;> omega); done))) | (refine xbr_t ?_ ?_; (focus ((simp (disch := omega) only [ix_lt, ix_le, ix_eq, ix_0, nI_clamp, nI_toInt, ng_T, nI_add, nI_mul, nI_sub', Int.neg_zero, not_false_eq_true, not_true_eq_false, hza, hzb, e1] <;> omega); done))) | refine ⟨Or.inl rfl, ?_⟩ | refine ⟨Or.inr rfl, ?_⟩ | (refine ⟨?_, ?_⟩; (focus ((try simp (disch := omega) only [hza, hzb, e1, nI_mul, nI_add, nI_sub']); exact in_nI (by omega) (by omega)))))
                        exact ⟨rfl, rfl, S, 2, rfl, by decide, hC, done⟩
                    · repeat (first | (refine xbr_f ?_ ?_; (focus ((simp (disch := omega) only [ix_lt, ix_le, ix_eq, ix_0, nI_clamp, nI_toInt, ng_T, nI_add, nI_mul, nI_sub', Int.neg_zero, not_false_eq_true, not_true_eq_false, hza, hzb, e1] <;> omega); done))) | (refine xbr_t ?_ ?_; (focus ((simp (disch := omega) only [ix_lt, ix_le, ix_eq, ix_0, nI_clamp, nI_toInt, ng_T, nI_add, nI_mul, nI_sub', Int.neg_zero, not_false_eq_true, not_true_eq_false, hza, hzb, e1] <;> omega); done))) | refine ⟨Or.inl rfl, ?_⟩ | refine ⟨Or.inr rfl, ?_⟩ | (refine ⟨?_, ?_⟩; (focus ((try simp (disch := omega) only [hza, hzb, e1, nI_mul, nI_add, nI_sub']); exact in_nI (by omega) (by omega)))))
                      exact ⟨rfl, rfl, S, 2, rfl, by decide, hC, done⟩
                  · repeat (first | (refine xbr_f ?_ ?_; (focus ((simp (disch := omega) only [ix_lt, ix_le, ix_eq, ix_0, nI_clamp, nI_toInt, ng_T, nI_add, nI_mul, nI_sub', Int.neg_zero, not_false_eq_true, not_true_eq_false, hza, hzb, e1] <;> omega); done))) | (refine xbr_t ?_ ?_; (focus ((simp (disch := omega) only [ix_lt, ix_le, ix_eq, ix_0, nI_clamp, nI_toInt, ng_T, nI_add, nI_mul, nI_sub', Int.neg_zero, not_false_eq_true, not_true_eq_false, hza, hzb, e1] <;> omega); done))) | refine ⟨Or.inl rfl, ?_⟩ | refine ⟨Or.inr rfl, ?_⟩ | (refine ⟨?_, ?_⟩; (focus ((try simp (disch := omega) only [hza, hzb, e1, nI_mul, nI_add, nI_sub']); exact in_nI (by omega) (by omega)))))
                    exact ⟨rfl, rfl, S, 2, rfl, by decide, hC, done⟩
                · repeat (first | (refine xbr_f ?_ ?_; (focus ((simp (disch := omega) only [ix_lt, ix_le, ix_eq, ix_0, nI_clamp, nI_toInt, ng_T, nI_add, nI_mul, nI_sub', Int.neg_zero, not_false_eq_true, not_true_eq_false, hza, hzb] <;> omega); done))) | (refine xbr_t ?_ ?_; (focus ((simp (disch := omega) only [ix_lt, ix_le, ix_eq, ix_0, nI_clamp, nI_toInt, ng_T, nI_add, nI_mul, nI_sub', Int.neg_zero, not_false_eq_true, not_true_eq_false, hza, hzb] <;> omega); done))) | refine ⟨Or.inl rfl, ?_⟩ | refine ⟨Or.inr rfl, ?_⟩ | (refine ⟨?_, ?_⟩; (focus ((try simp (disch := omega) only [hza, hzb, nI_mul, nI_add, nI_sub']); exact in_nI (by omega) (by omega)))))
                  exact ⟨rfl, rfl, S, 2, rfl, by decide, hC, done⟩
              · repeat (first | (refine xbr_f ?_ ?_; (focus ((simp (disch := omega) only [ix_lt, ix_le, ix_eq, ix_0, nI_clamp, nI_toInt, ng_T, nI_add, nI_mul, nI_sub', Int.neg_zero, not_false_eq_true, not_true_eq_false, hza, hzb] <;> omega); done))) | (refine xbr_t ?_ ?_; (focus ((simp (disch := omega) only [ix_lt, ix_le, ix_eq, ix_0, nI_clamp, nI_toInt, ng_T, nI_add, nI_mul, nI_sub', Int.neg_zero, not_false_eq_true, not_true_eq_false, hza, hzb] <;> omega); done))) | refine ⟨Or.inl rfl, ?_⟩ | refine ⟨Or.inr rfl, ?_⟩ | (refine ⟨?_, ?_⟩; (focus ((try simp (disch := omega) only [hza, hzb, nI_mul, nI_add, nI_sub']); exact in_nI (by omega) (by omega)))))
                exact ⟨rfl, rfl, S, 2, rfl, by decide, hC, done⟩
    · (first | refine xbr_t (by decide) ?_ | refine xbr_f (by decide) ?_)
      exact hQ _ _ _ _ (Or.inl ⟨fun q => ht ((in_ib (by decide)).mpr q.2), rfl, rfl⟩) (frC_0 _ _) hC
  · (first | refine xbr_t (by decide) ?_ | refine xbr_f (by decide) ?_)
    exact hQ _ _ _ _ (Or.inl ⟨fun q => hr ((in_ib (by decide)).mpr q.1), rfl, rfl⟩) (frC_0 _ _) hC
