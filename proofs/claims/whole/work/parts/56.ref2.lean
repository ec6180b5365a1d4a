/-! THE REFERENCE, 2: rows and texts -/
theorem ib_tt {j n : Nat} (h : j < n) (hn : n < 2 ^ 31) : ibB (nI j) n = true := decide_eq_true (by rw [nI_toInt (by omega)]; omega)
def csX11_finds : xCs := []
theorem okX11_finds : xOkM mX11_finds csX11_finds := ⟨dX11_finds, by decide +kernel, by decide +kernel, ⟨⟨wdX11_78, fun h => Bool.noConfusion h⟩, wdX11_7, trivial⟩⟩
theorem hhX11_finds : ∀ q ∈ csX11_finds, xHd q.1 := xall0
theorem kkX11_finds : ∀ q ∈ csX11_finds, ∀ l, xCon l q.1 q.2 := xall0
def sX11_finds : xSpec := xReg fun as I L Q => ∃ (S : ST) (f : Nat), as = [.ref 27, .int (nI f)] ∧ f < 6 ∧ Ref S I L ∧ (∀ I', frM I L I' L → Ref (S.wF f) I' L → Q (some (.int (-(nI 3)))) I' L)
set_option maxRecDepth 100000 in
theorem kX11_finds : ∀ l, xCon l mX11_finds sX11_finds := by
  refine xcon_of okX11_finds hX11_finds rfl (by decide) hhX11_finds kkX11_finds ?_
  rintro as n0 I L P Q ⟨rfl, rfl, S, f, rfl, hf, hC, hQ⟩
  refine ⟨Nat.le_of_ble_eq_true rfl, ?_⟩
  refine xrun okX11_finds hhX11_finds [] 60 ?_
  repeat (first | (refine xbr_f ?_ ?_; (focus ((simp (disch := omega) only [ix_lt, ix_le, ix_eq, ix_0, nI_clamp, nI_toInt, ng_T, nI_add, nI_mul, nI_sub', Int.neg_zero, not_false_eq_true, not_true_eq_false, nI_add] <;> omega); done))) | (refine xbr_t ?_ ?_; (focus ((simp (disch := omega) only [ix_lt, ix_le, ix_eq, ix_0, nI_clamp, nI_toInt, ng_T, nI_add, nI_mul, nI_sub', Int.neg_zero, not_false_eq_true, not_true_eq_false, nI_add] <;> omega); done))) | refine ⟨Or.inl rfl, ?_⟩ | refine ⟨Or.inr rfl, ?_⟩ | (refine ⟨?_, ?_⟩; (focus ((try simp (disch := omega) only [nI_add, nI_mul, nI_add, nI_sub']); exact in_nI (by omega) (by omega)))))
  simp (disch := omega) only [nI_mul, nI_add, nI_clamp, nI_sub']
  exact hQ _ (frM_t (frM_I (by decide) _ _ _ _) (frM_I (by decide) _ _ _ _)) (Ref_F hC hf)
def csX11_tells : xCs := []
theorem okX11_tells : xOkM mX11_tells csX11_tells := ⟨dX11_tells, by decide +kernel, by decide +kernel, ⟨⟨wdX11_82, fun h => Bool.noConfusion h⟩, trivial⟩⟩
theorem hhX11_tells : ∀ q ∈ csX11_tells, xHd q.1 := xall0
theorem kkX11_tells : ∀ q ∈ csX11_tells, ∀ l, xCon l q.1 q.2 := xall0
def sX11_tells : xSpec := xReg fun as I L Q => ∃ (S : ST) (v : Int32), as = [.ref 27, .int v] ∧ Ref S I L ∧ (∀ I', frM I L I' L → Ref (S.wT v) I' L → Q (some (.int (nI 1))) I' L)
set_option maxRecDepth 100000 in
theorem kX11_tells : ∀ l, xCon l mX11_tells sX11_tells := by
  refine xcon_of okX11_tells hX11_tells rfl (by decide) hhX11_tells kkX11_tells ?_
  rintro as n0 I L P Q ⟨rfl, rfl, S, v, rfl, hC, hQ⟩
  refine ⟨Nat.le_of_ble_eq_true rfl, ?_⟩
  refine xrun okX11_tells hhX11_tells [] 60 ?_
  exact hQ _ (frM_I (by decide) _ _ _ _) (Ref_T hC v)
def csX11_fresh : xCs := []
theorem okX11_fresh : xOkM mX11_fresh csX11_fresh := ⟨dX11_fresh, by decide +kernel, by decide +kernel, ⟨wdX11_13, wdX11_16, trivial⟩⟩
theorem hhX11_fresh : ∀ q ∈ csX11_fresh, xHd q.1 := xall0
theorem kkX11_fresh : ∀ q ∈ csX11_fresh, ∀ l, xCon l q.1 q.2 := xall0
def sX11_fresh : xSpec := xReg fun as I L Q => ∃ (r : Nat) (v : Int32), as = [.ref 27, .int (nI r), .int v] ∧ r < 6 ∧ Q none (xrw (xup I 29 r v) 30 (xfil (I 30) (40 * r) 40 (nI 0))) L
set_option maxRecDepth 100000 in
theorem kX11_fresh : ∀ l, xCon l mX11_fresh sX11_fresh := by
  refine xcon_of okX11_fresh hX11_fresh rfl (by decide) hhX11_fresh kkX11_fresh ?_
  rintro as n0 I L P Q ⟨rfl, rfl, r, v, rfl, hr, hQ⟩
  refine ⟨Nat.le_of_ble_eq_true rfl, ?_⟩
  refine xrun okX11_fresh hhX11_fresh [(9, [true, true, true, true])] 60 ?_
  repeat (first | (refine xbr_f ?_ ?_; (focus ((simp (disch := omega) only [ix_lt, ix_le, ix_eq, ix_0, nI_clamp, nI_toInt, ng_T, nI_add, nI_mul, nI_sub', Int.neg_zero, not_false_eq_true, not_true_eq_false, nI_add] <;> omega); done))) | (refine xbr_t ?_ ?_; (focus ((simp (disch := omega) only [ix_lt, ix_le, ix_eq, ix_0, nI_clamp, nI_toInt, ng_T, nI_add, nI_mul, nI_sub', Int.neg_zero, not_false_eq_true, not_true_eq_false, nI_add] <;> omega); done))) | refine ⟨Or.inl rfl, ?_⟩ | refine ⟨Or.inr rfl, ?_⟩ | (refine ⟨?_, ?_⟩; (focus ((try simp (disch := omega) only [nI_add, nI_mul, nI_add, nI_sub']); exact in_nI (by omega) (by omega)))))
  simp (disch := omega) only [nI_mul, nI_add, nI_clamp, nI_sub']
  refine xgo_eq (xlp (M := mX11_fresh) (cs := csX11_fresh) (pc := 9) 40 (fun k => [some (.ref 27), some (.int (nI r)), some (.int v), some (.int (nI k))]) (fun k => xrw (xup I 29 r v) 30 (xfil (I 30) (40 * r) k (nI 0))) (fun _ => L) ?_ ?_) rfl ?_ rfl
  · intro k hk ih
    refine xrun okX11_fresh hhX11_fresh [(9, [true, true, true, true])] 60 ?_
    repeat (first | (refine xbr_f ?_ ?_; (focus ((simp (disch := omega) only [ix_lt, ix_le, ix_eq, ix_0, nI_clamp, nI_toInt, ng_T, nI_add, nI_mul, nI_sub', Int.neg_zero, not_false_eq_true, not_true_eq_false, nI_add] <;> omega); done))) | (refine xbr_t ?_ ?_; (focus ((simp (disch := omega) only [ix_lt, ix_le, ix_eq, ix_0, nI_clamp, nI_toInt, ng_T, nI_add, nI_mul, nI_sub', Int.neg_zero, not_false_eq_true, not_true_eq_false, nI_add] <;> omega); done))) | refine ⟨Or.inl rfl, ?_⟩ | refine ⟨Or.inr rfl, ?_⟩ | (refine ⟨?_, ?_⟩; (focus ((try simp (disch := omega) only [nI_add, nI_mul, nI_add, nI_sub']); exact in_nI (by omega) (by omega)))))
    simp (disch := omega) only [nI_mul, nI_add, nI_clamp, nI_sub']
    refine xgo_eq ih ?_ ?_ rfl
    · ((repeat' (first | (with_reducible rfl) | exact xv_nil | refine xv_cons ?_ ?_ | refine xv_i ?_ | refine xv_l ?_)) <;> (simp (disch := omega) only [↓reduceIte, Bool.false_eq_true, Nat.one_mul, Nat.zero_mul, Nat.or_zero, Nat.add_zero, Nat.zero_add, Bool.toNat_true, Bool.toNat_false, shl_n, shr_n, fa_and, fa_or, nx_xor, nI_add, nI_mul, nI_sub', and_1, and_7, and_3', and_15]))
    · exact xfil_s _ _ _ _ _ _
  · refine xrun okX11_fresh hhX11_fresh [] 60 ?_
    repeat (first | (refine xbr_f ?_ ?_; (focus ((simp (disch := omega) only [ix_lt, ix_le, ix_eq, ix_0, nI_clamp, nI_toInt, ng_T, nI_add, nI_mul, nI_sub', Int.neg_zero, not_false_eq_true, not_true_eq_false, nI_add] <;> omega); done))) | (refine xbr_t ?_ ?_; (focus ((simp (disch := omega) only [ix_lt, ix_le, ix_eq, ix_0, nI_clamp, nI_toInt, ng_T, nI_add, nI_mul, nI_sub', Int.neg_zero, not_false_eq_true, not_true_eq_false, nI_add] <;> omega); done))) | refine ⟨Or.inl rfl, ?_⟩ | refine ⟨Or.inr rfl, ?_⟩ | (refine ⟨?_, ?_⟩; (focus ((try simp (disch := omega) only [nI_add, nI_mul, nI_add, nI_sub']); exact in_nI (by omega) (by omega)))))
    exact hQ
  · show xup I 29 r v = xrw (xup I 29 r v) 30 (xfil (I 30) (40 * r) 0 (nI 0))
    rw [xfil_0]
    exact (xrw_self (xup I 29 r v) 30).symm
theorem fil_in {α : Type} {f : Nat → α} {lo n k : Nat} {v : α} (h : lo ≤ k) (h2 : k < lo + n) : xfil f lo n v k = v := if_pos ⟨h, h2⟩
theorem fil_out {α : Type} {f : Nat → α} {lo n k : Nat} {v : α} (h : k < lo ∨ lo + n ≤ k) : xfil f lo n v k = f k := if_neg (by omega)
def csX11_row : xCs := [(mX11_isRow, sX11_isRow), (mX11_finds, sX11_finds), (mX11_fresh, sX11_fresh)]
theorem okX11_row : xOkM mX11_row csX11_row := ⟨dX11_row, by decide +kernel, by decide +kernel, ⟨wdX11_96, wdX11_100, wdX11_104, trivial⟩⟩
theorem hhX11_row : ∀ q ∈ csX11_row, xHd q.1 := xall1 hX11_isRow (xall1 hX11_finds (xall1 hX11_fresh (xall0)))
theorem kkX11_row : ∀ q ∈ csX11_row, ∀ l, xCon l q.1 q.2 := xall1 kX11_isRow (xall1 kX11_finds (xall1 kX11_fresh (xall0)))
def sX11_row : xSpec := xReg fun as I L Q => ∃ (S : ST) (r n o : Int32) (S' : ST), as = [.ref 27, .int r, .int n] ∧ rowR S r n o S' ∧ Ref S I L ∧ (∀ I' L', frM I L I' L' → Ref S' I' L' → Q (some (.int o)) I' L')
set_option maxRecDepth 100000 in
theorem kX11_row : ∀ l, xCon l mX11_row sX11_row := by
  refine xcon_of okX11_row hX11_row rfl (by decide) hhX11_row kkX11_row ?_
  rintro as n0 I L P Q ⟨rfl, rfl, S, r, n, o, S', rfl, hR, hC, hQ⟩
  refine ⟨Nat.le_of_ble_eq_true rfl, ?_⟩
  refine xrun okX11_row hhX11_row [] 60 ?_
  refine ⟨rfl, rfl, r, rfl, ?_⟩
  rcases hR with ⟨h, rfl, rfl⟩ | ⟨hb, hn, rfl, rfl⟩ | ⟨j, m, rfl, hj, rfl, hm, rfl, rfl⟩
  · cases hb : ibB r 6
    · (first | refine xbr_t (by decide) ?_ | refine xbr_f (by decide) ?_)
      exact hQ _ _ (frM_0 _ _) hC
    · (first | refine xbr_t (by decide) ?_ | refine xbr_f (by decide) ?_)
      have h40 : ¬ n.toInt ≤ 40 := fun q => h ⟨hb, q⟩
      repeat (first | (refine xbr_f ?_ ?_; (focus ((simp (disch := omega) only [ix_lt, ix_le, ix_eq, ix_0, nI_clamp, nI_toInt, ng_T, nI_add, nI_mul, nI_sub', Int.neg_zero, not_false_eq_true, not_true_eq_false] <;> omega); done))) | (refine xbr_t ?_ ?_; (focus ((simp (disch := omega) only [ix_lt, ix_le, ix_eq, ix_0, nI_clamp, nI_toInt, ng_T, nI_add, nI_mul, nI_sub', Int.neg_zero, not_false_eq_true, not_true_eq_false] <;> omega); done))) | refine ⟨Or.inl rfl, ?_⟩ | refine ⟨Or.inr rfl, ?_⟩ | (refine ⟨?_, ?_⟩; (focus (exact in_nI (by omega) (by omega)))))
      exact hQ _ _ (frM_0 _ _) hC
  · rw [hb]
    (first | refine xbr_t (by decide) ?_ | refine xbr_f (by decide) ?_)
    repeat (first | (refine xbr_f ?_ ?_; (focus ((simp (disch := omega) only [ix_lt, ix_le, ix_eq, ix_0, nI_clamp, nI_toInt, ng_T, nI_add, nI_mul, nI_sub', Int.neg_zero, not_false_eq_true, not_true_eq_false] <;> omega); done))) | (refine xbr_t ?_ ?_; (focus ((simp (disch := omega) only [ix_lt, ix_le, ix_eq, ix_0, nI_clamp, nI_toInt, ng_T, nI_add, nI_mul, nI_sub', Int.neg_zero, not_false_eq_true, not_true_eq_false] <;> omega); done))) | refine ⟨Or.inl rfl, ?_⟩ | refine ⟨Or.inr rfl, ?_⟩ | (refine ⟨?_, ?_⟩; (focus (exact in_nI (by omega) (by omega)))))
    refine ⟨rfl, rfl, S, 5, rfl, by decide, hC, fun I' hf hC' => ?_⟩
    exact hQ _ _ hf hC'
  · rw [ib_tt hj (by decide)]
    (first | refine xbr_t (by decide) ?_ | refine xbr_f (by decide) ?_)
    repeat (first | (refine xbr_f ?_ ?_; (focus ((simp (disch := omega) only [ix_lt, ix_le, ix_eq, ix_0, nI_clamp, nI_toInt, ng_T, nI_add, nI_mul, nI_sub', Int.neg_zero, not_false_eq_true, not_true_eq_false] <;> omega); done))) | (refine xbr_t ?_ ?_; (focus ((simp (disch := omega) only [ix_lt, ix_le, ix_eq, ix_0, nI_clamp, nI_toInt, ng_T, nI_add, nI_mul, nI_sub', Int.neg_zero, not_false_eq_true, not_true_eq_false] <;> omega); done))) | refine ⟨Or.inl rfl, ?_⟩ | refine ⟨Or.inr rfl, ?_⟩ | (refine ⟨?_, ?_⟩; (focus (exact in_nI (by omega) (by omega)))))
    refine ⟨rfl, rfl, j, nI m, rfl, hj, ?_⟩
    refine hQ _ _ (frM_t (frM_I (by decide) _ _ _ _) (frM_W (by decide) _ _ _)) (Ref_R hC (rz_le hC.ok hm) (rw_new hC.rw hC.ok.rz hm ?_ ?_ ?_))
    · intro k hk
      rw [fil_in (by omega) (by omega), fil_in (by omega) (by omega)]
    · intro t ht
      exact fil_out ht
    · intro t ht
      exact fil_out (by omega)
def csX11_whyPlace : xCs := [(mX11_isRow, sX11_isRow), (mX11_finds, sX11_finds), (mX11_in, sX11_in)]
theorem okX11_whyPlace : xOkM mX11_whyPlace csX11_whyPlace := ⟨dX11_whyPlace, by decide +kernel, by decide +kernel, ⟨wdX11_96, wdX11_13, wdX11_100, wdX11_13, wdX11_90, wdX11_100, trivial⟩⟩
theorem hhX11_whyPlace : ∀ q ∈ csX11_whyPlace, xHd q.1 := xall1 hX11_isRow (xall1 hX11_finds (xall1 hX11_in (xall0)))
theorem kkX11_whyPlace : ∀ q ∈ csX11_whyPlace, ∀ l, xCon l q.1 q.2 := xall1 kX11_isRow (xall1 kX11_finds (xall1 kX11_in (xall0)))
def sX11_whyPlace : xSpec := xReg fun as I L Q => ∃ (S : ST) (r i : Int32), as = [.ref 27, .int r, .int i] ∧ Ref S I L ∧ ((ibB r 6 = false ∧ Q (some (.int (-(nI 1)))) I L) ∨ (∃ j, r = nI j ∧ j < 6 ∧ ((S.rz j = 0 ∧ ∀ I', frM I L I' L → Ref (S.wF 1) I' L → Q (some (.int (-(nI 3)))) I' L) ∨ (0 < S.rz j ∧ ibB i (S.rz j - 1) = false ∧ ∀ I', frM I L I' L → Ref (S.wF 2) I' L → Q (some (.int (-(nI 3)))) I' L) ∨ (∃ m, i = nI m ∧ m < S.rz j - 1 ∧ Q (some (.int (nI 0))) I L))))
set_option maxRecDepth 100000 in
theorem kX11_whyPlace : ∀ l, xCon l mX11_whyPlace sX11_whyPlace := by
  refine xcon_of okX11_whyPlace hX11_whyPlace rfl (by decide) hhX11_whyPlace kkX11_whyPlace ?_
  rintro as n0 I L P Q ⟨rfl, rfl, S, r, i, rfl, hC, hR⟩
  refine ⟨Nat.le_of_ble_eq_true rfl, ?_⟩
  refine xrun okX11_whyPlace hhX11_whyPlace [] 60 ?_
  refine ⟨rfl, rfl, r, rfl, ?_⟩
  rcases hR with ⟨hb, hQ⟩ | ⟨j, rfl, hj, hR⟩
  · rw [hb]
    (first | refine xbr_t (by decide) ?_ | refine xbr_f (by decide) ?_)
    exact hQ
  · rw [ib_tt hj (by decide)]
    (first | refine xbr_t (by decide) ?_ | refine xbr_f (by decide) ?_)
    have hz := hC.rz hj
    have hz41 := hC.ok.rz j hj
    rcases hR with ⟨h0, hQ⟩ | ⟨h0, hb, hQ⟩ | ⟨m, rfl, hm, hQ⟩
    · rw [h0, szI_0] at hz
      repeat (first | (refine xbr_f ?_ ?_; (focus ((simp (disch := omega) only [ix_lt, ix_le, ix_eq, ix_0, nI_clamp, nI_toInt, ng_T, nI_add, nI_mul, nI_sub', Int.neg_zero, not_false_eq_true, not_true_eq_false, hz] <;> omega); done))) | (refine xbr_t ?_ ?_; (focus ((simp (disch := omega) only [ix_lt, ix_le, ix_eq, ix_0, nI_clamp, nI_toInt, ng_T, nI_add, nI_mul, nI_sub', Int.neg_zero, not_false_eq_true, not_true_eq_false, hz] <;> omega); done))) | refine ⟨Or.inl rfl, ?_⟩ | refine ⟨Or.inr rfl, ?_⟩ | (refine ⟨?_, ?_⟩; (focus ((try simp (disch := omega) only [hz, nI_mul, nI_add, nI_sub']); exact in_nI (by omega) (by omega)))))
      exact ⟨rfl, rfl, S, 1, rfl, by decide, hC, hQ⟩
    · obtain ⟨s, hs⟩ : ∃ s, S.rz j = s + 1 := ⟨S.rz j - 1, by omega⟩
      rw [hs, szI_s] at hz
      rw [hs, Nat.add_sub_cancel] at hb
      repeat (first | (refine xbr_f ?_ ?_; (focus ((simp (disch := omega) only [ix_lt, ix_le, ix_eq, ix_0, nI_clamp, nI_toInt, ng_T, nI_add, nI_mul, nI_sub', Int.neg_zero, not_false_eq_true, not_true_eq_false, hz] <;> omega); done))) | (refine xbr_t ?_ ?_; (focus ((simp (disch := omega) only [ix_lt, ix_le, ix_eq, ix_0, nI_clamp, nI_toInt, ng_T, nI_add, nI_mul, nI_sub', Int.neg_zero, not_false_eq_true, not_true_eq_false, hz] <;> omega); done))) | refine ⟨Or.inl rfl, ?_⟩ | refine ⟨Or.inr rfl, ?_⟩ | (refine ⟨?_, ?_⟩; (focus ((try simp (disch := omega) only [hz, nI_mul, nI_add, nI_sub']); exact in_nI (by omega) (by omega)))))
      refine ⟨rfl, rfl, _, _, _, i, nI 0, nI s - nI 1, rfl, rfl, by decide, by rw [nI_clamp (by omega), hz], ?_⟩
      rw [in_s (by omega), hb]
      (first | refine xbr_t (by decide) ?_ | refine xbr_f (by decide) ?_)
      exact ⟨rfl, rfl, S, 2, rfl, by decide, hC, hQ⟩
    · obtain ⟨s, hs⟩ : ∃ s, S.rz j = s + 1 := ⟨S.rz j - 1, by omega⟩
      rw [hs, szI_s] at hz
      rw [hs, Nat.add_sub_cancel] at hm
      repeat (first | (refine xbr_f ?_ ?_; (focus ((simp (disch := omega) only [ix_lt, ix_le, ix_eq, ix_0, nI_clamp, nI_toInt, ng_T, nI_add, nI_mul, nI_sub', Int.neg_zero, not_false_eq_true, not_true_eq_false, hz] <;> omega); done))) | (refine xbr_t ?_ ?_; (focus ((simp (disch := omega) only [ix_lt, ix_le, ix_eq, ix_0, nI_clamp, nI_toInt, ng_T, nI_add, nI_mul, nI_sub', Int.neg_zero, not_false_eq_true, not_true_eq_false, hz] <;> omega); done))) | refine ⟨Or.inl rfl, ?_⟩ | refine ⟨Or.inr rfl, ?_⟩ | (refine ⟨?_, ?_⟩; (focus ((try simp (disch := omega) only [hz, nI_mul, nI_add, nI_sub']); exact in_nI (by omega) (by omega)))))
      refine ⟨rfl, rfl, _, _, _, nI m, nI 0, nI s - nI 1, rfl, rfl, by decide, by rw [nI_clamp (by omega), hz], ?_⟩
      rw [in_s (by omega), ib_tt hm (by omega)]
      (first | refine xbr_t (by decide) ?_ | refine xbr_f (by decide) ?_)
      exact hQ
def csX11_lay : xCs := [(mX11_whyPlace, sX11_whyPlace), (mX11_tells, sX11_tells)]
theorem okX11_lay : xOkM mX11_lay csX11_lay := ⟨dX11_lay, by decide +kernel, by decide +kernel, ⟨wdX11_108, wdX11_16, wdX11_16, wdX11_112, trivial⟩⟩
theorem hhX11_lay : ∀ q ∈ csX11_lay, xHd q.1 := xall1 hX11_whyPlace (xall1 hX11_tells (xall0))
theorem kkX11_lay : ∀ q ∈ csX11_lay, ∀ l, xCon l q.1 q.2 := xall1 kX11_whyPlace (xall1 kX11_tells (xall0))
def sX11_lay : xSpec := xReg fun as I L Q => ∃ (S : ST) (r i v o : Int32) (S' : ST), as = [.ref 27, .int r, .int i, .int v] ∧ layR S r i v o S' ∧ Ref S I L ∧ (∀ I' L', frM I L I' L' → Ref S' I' L' → Q (some (.int o)) I' L')
theorem rw_set {N mo : Nat} {z : Nat → Nat} {v a b : Nat → Int32} (h : rwR N mo z v a b) (hz : ∀ r, r < N → z r ≤ mo + 1) {j m : Nat} {x : Int32} (hj : j < N) (hm : m < mo) : rwR N mo z (fun t => if t = j * mo + m then x else v t) a (fun t => if t = mo * j + m then x else b t) := by
  intro r hr
  refine ⟨(h r hr).1, fun k hk => ?_⟩
  have hzr := hz r hr
  show (if mo * r + k = mo * j + m then x else b (mo * r + k)) = (if r * mo + k = j * mo + m then x else v (r * mo + k))
  rw [Nat.mul_comm r mo, Nat.mul_comm j mo]
  by_cases e : mo * r + k = mo * j + m
  · rw [if_pos e, if_pos e]
  · rw [if_neg e, if_neg e, (h r hr).2 k hk, Nat.mul_comm r mo]
set_option maxRecDepth 100000 in
theorem kX11_lay : ∀ l, xCon l mX11_lay sX11_lay := by
  refine xcon_of okX11_lay hX11_lay rfl (by decide) hhX11_lay kkX11_lay ?_
  rintro as n0 I L P Q ⟨rfl, rfl, S, r, i, v, o, S', rfl, hR, hC, hQ⟩
  refine ⟨Nat.le_of_ble_eq_true rfl, ?_⟩
  refine xrun okX11_lay hhX11_lay [] 60 ?_
  refine ⟨rfl, rfl, S, r, i, rfl, hC, ?_⟩
  rcases hR with ⟨hb, rfl, rfl⟩ | ⟨j, rfl, hj, hR⟩
  · refine Or.inl ⟨hb, ?_⟩
    repeat (first | (refine xbr_f ?_ ?_; (focus ((simp (disch := omega) only [ix_lt, ix_le, ix_eq, ix_0, nI_clamp, nI_toInt, ng_T, nI_add, nI_mul, nI_sub', Int.neg_zero, not_false_eq_true, not_true_eq_false] <;> omega); done))) | (refine xbr_t ?_ ?_; (focus ((simp (disch := omega) only [ix_lt, ix_le, ix_eq, ix_0, nI_clamp, nI_toInt, ng_T, nI_add, nI_mul, nI_sub', Int.neg_zero, not_false_eq_true, not_true_eq_false] <;> omega); done))) | refine ⟨Or.inl rfl, ?_⟩ | refine ⟨Or.inr rfl, ?_⟩ | (refine ⟨?_, ?_⟩; (focus (exact in_nI (by omega) (by omega)))))
    exact hQ _ _ (frM_0 _ _) hC
  · refine Or.inr ⟨j, rfl, hj, ?_⟩
    rcases hR with ⟨h0, rfl, rfl⟩ | ⟨h0, hb, rfl, rfl⟩ | ⟨m, rfl, hm, rfl, rfl⟩
    · refine Or.inl ⟨h0, fun I' hf hC' => ?_⟩
      repeat (first | (refine xbr_f ?_ ?_; (focus ((simp (disch := omega) only [ix_lt, ix_le, ix_eq, ix_0, nI_clamp, nI_toInt, ng_T, nI_add, nI_mul, nI_sub', Int.neg_zero, not_false_eq_true, not_true_eq_false] <;> omega); done))) | (refine xbr_t ?_ ?_; (focus ((simp (disch := omega) only [ix_lt, ix_le, ix_eq, ix_0, nI_clamp, nI_toInt, ng_T, nI_add, nI_mul, nI_sub', Int.neg_zero, not_false_eq_true, not_true_eq_false] <;> omega); done))) | refine ⟨Or.inl rfl, ?_⟩ | refine ⟨Or.inr rfl, ?_⟩ | (refine ⟨?_, ?_⟩; (focus (exact in_nI (by omega) (by omega)))))
      exact hQ _ _ hf hC'
    · refine Or.inr (Or.inl ⟨h0, hb, fun I' hf hC' => ?_⟩)
      repeat (first | (refine xbr_f ?_ ?_; (focus ((simp (disch := omega) only [ix_lt, ix_le, ix_eq, ix_0, nI_clamp, nI_toInt, ng_T, nI_add, nI_mul, nI_sub', Int.neg_zero, not_false_eq_true, not_true_eq_false] <;> omega); done))) | (refine xbr_t ?_ ?_; (focus ((simp (disch := omega) only [ix_lt, ix_le, ix_eq, ix_0, nI_clamp, nI_toInt, ng_T, nI_add, nI_mul, nI_sub', Int.neg_zero, not_false_eq_true, not_true_eq_false] <;> omega); done))) | refine ⟨Or.inl rfl, ?_⟩ | refine ⟨Or.inr rfl, ?_⟩ | (refine ⟨?_, ?_⟩; (focus (exact in_nI (by omega) (by omega)))))
      exact hQ _ _ hf hC'
    · refine Or.inr (Or.inr ⟨m, rfl, hm, ?_⟩)
      have hz := hC.ok.rz j hj
      repeat (first | (refine xbr_f ?_ ?_; (focus ((simp (disch := omega) only [ix_lt, ix_le, ix_eq, ix_0, nI_clamp, nI_toInt, ng_T, nI_add, nI_mul, nI_sub', Int.neg_zero, not_false_eq_true, not_true_eq_false, nI_add] <;> omega); done))) | (refine xbr_t ?_ ?_; (focus ((simp (disch := omega) only [ix_lt, ix_le, ix_eq, ix_0, nI_clamp, nI_toInt, ng_T, nI_add, nI_mul, nI_sub', Int.neg_zero, not_false_eq_true, not_true_eq_false, nI_add] <;> omega); done))) | refine ⟨Or.inl rfl, ?_⟩ | refine ⟨Or.inr rfl, ?_⟩ | (refine ⟨?_, ?_⟩; (focus ((try simp (disch := omega) only [nI_add, nI_mul, nI_add, nI_sub']); exact in_nI (by omega) (by omega)))))
      simp (disch := omega) only [nI_mul, nI_add, nI_clamp, nI_sub']
      have hv := hC.rv hj hm
      have hC2 := Ref_R hC (a := I 29) (b := fun t => if t = 40 * j + m then v else I 30 t) (z := S.rz) (v := fun t => if t = j * 40 + m then v else S.rv t) hC.ok.rz (rw_set hC.rw hC.ok.rz hj (by omega))
      rw [xrw_self] at hC2
      refine ⟨rfl, rfl, _, _, rfl, hC2, fun I' hf hC' => ?_⟩
      rw [hv] at hC'
      exact hQ _ _ (frM_t (frM_I (by decide) _ _ _ _) hf) hC'
def csX11_at : xCs := [(mX11_whyPlace, sX11_whyPlace), (mX11_tells, sX11_tells)]
theorem okX11_at : xOkM mX11_at csX11_at := ⟨dX11_at, by decide +kernel, by decide +kernel, ⟨wdX11_108, wdX11_16, wdX11_112, trivial⟩⟩
theorem hhX11_at : ∀ q ∈ csX11_at, xHd q.1 := xall1 hX11_whyPlace (xall1 hX11_tells (xall0))
theorem kkX11_at : ∀ q ∈ csX11_at, ∀ l, xCon l q.1 q.2 := xall1 kX11_whyPlace (xall1 kX11_tells (xall0))
def sX11_at : xSpec := xReg fun as I L Q => ∃ (S : ST) (r i o : Int32) (S' : ST), as = [.ref 27, .int r, .int i] ∧ atR S r i o S' ∧ Ref S I L ∧ (∀ I' L', frM I L I' L' → Ref S' I' L' → Q (some (.int o)) I' L')
set_option maxRecDepth 100000 in
theorem kX11_at : ∀ l, xCon l mX11_at sX11_at := by
  refine xcon_of okX11_at hX11_at rfl (by decide) hhX11_at kkX11_at ?_
  rintro as n0 I L P Q ⟨rfl, rfl, S, r, i, o, S', rfl, hR, hC, hQ⟩
  refine ⟨Nat.le_of_ble_eq_true rfl, ?_⟩
  refine xrun okX11_at hhX11_at [] 60 ?_
  refine ⟨rfl, rfl, S, r, i, rfl, hC, ?_⟩
  rcases hR with ⟨hb, rfl, rfl⟩ | ⟨j, rfl, hj, hR⟩
  · refine Or.inl ⟨hb, ?_⟩
    repeat (first | (refine xbr_f ?_ ?_; (focus ((simp (disch := omega) only [ix_lt, ix_le, ix_eq, ix_0, nI_clamp, nI_toInt, ng_T, nI_add, nI_mul, nI_sub', Int.neg_zero, not_false_eq_true, not_true_eq_false] <;> omega); done))) | (refine xbr_t ?_ ?_; (focus ((simp (disch := omega) only [ix_lt, ix_le, ix_eq, ix_0, nI_clamp, nI_toInt, ng_T, nI_add, nI_mul, nI_sub', Int.neg_zero, not_false_eq_true, not_true_eq_false] <;> omega); done))) | refine ⟨Or.inl rfl, ?_⟩ | refine ⟨Or.inr rfl, ?_⟩ | (refine ⟨?_, ?_⟩; (focus (exact in_nI (by omega) (by omega)))))
    exact hQ _ _ (frM_0 _ _) hC
  · refine Or.inr ⟨j, rfl, hj, ?_⟩
    rcases hR with ⟨h0, rfl, rfl⟩ | ⟨h0, hb, rfl, rfl⟩ | ⟨m, rfl, hm, rfl, rfl⟩
    · refine Or.inl ⟨h0, fun I' hf hC' => ?_⟩
      repeat (first | (refine xbr_f ?_ ?_; (focus ((simp (disch := omega) only [ix_lt, ix_le, ix_eq, ix_0, nI_clamp, nI_toInt, ng_T, nI_add, nI_mul, nI_sub', Int.neg_zero, not_false_eq_true, not_true_eq_false] <;> omega); done))) | (refine xbr_t ?_ ?_; (focus ((simp (disch := omega) only [ix_lt, ix_le, ix_eq, ix_0, nI_clamp, nI_toInt, ng_T, nI_add, nI_mul, nI_sub', Int.neg_zero, not_false_eq_true, not_true_eq_false] <;> omega); done))) | refine ⟨Or.inl rfl, ?_⟩ | refine ⟨Or.inr rfl, ?_⟩ | (refine ⟨?_, ?_⟩; (focus (exact in_nI (by omega) (by omega)))))
      exact hQ _ _ hf hC'
    · refine Or.inr (Or.inl ⟨h0, hb, fun I' hf hC' => ?_⟩)
      repeat (first | (refine xbr_f ?_ ?_; (focus ((simp (disch := omega) only [ix_lt, ix_le, ix_eq, ix_0, nI_clamp, nI_toInt, ng_T, nI_add, nI_mul, nI_sub', Int.neg_zero, not_false_eq_true, not_true_eq_false] <;> omega); done))) | (refine xbr_t ?_ ?_; (focus ((simp (disch := omega) only [ix_lt, ix_le, ix_eq, ix_0, nI_clamp, nI_toInt, ng_T, nI_add, nI_mul, nI_sub', Int.neg_zero, not_false_eq_true, not_true_eq_false] <;> omega); done))) | refine ⟨Or.inl rfl, ?_⟩ | refine ⟨Or.inr rfl, ?_⟩ | (refine ⟨?_, ?_⟩; (focus (exact in_nI (by omega) (by omega)))))
      exact hQ _ _ hf hC'
    · refine Or.inr (Or.inr ⟨m, rfl, hm, ?_⟩)
      have hz := hC.ok.rz j hj
      repeat (first | (refine xbr_f ?_ ?_; (focus ((simp (disch := omega) only [ix_lt, ix_le, ix_eq, ix_0, nI_clamp, nI_toInt, ng_T, nI_add, nI_mul, nI_sub', Int.neg_zero, not_false_eq_true, not_true_eq_false, nI_add] <;> omega); done))) | (refine xbr_t ?_ ?_; (focus ((simp (disch := omega) only [ix_lt, ix_le, ix_eq, ix_0, nI_clamp, nI_toInt, ng_T, nI_add, nI_mul, nI_sub', Int.neg_zero, not_false_eq_true, not_true_eq_false, nI_add] <;> omega); done))) | refine ⟨Or.inl rfl, ?_⟩ | refine ⟨Or.inr rfl, ?_⟩ | (refine ⟨?_, ?_⟩; (focus ((try simp (disch := omega) only [nI_add, nI_mul, nI_add, nI_sub']); exact in_nI (by omega) (by omega)))))
      simp (disch := omega) only [nI_mul, nI_add, nI_clamp, nI_sub']
      have hv := hC.rv hj hm
      refine ⟨rfl, rfl, S, _, rfl, hC, fun I' hf hC' => ?_⟩
      rw [hv] at hC'
      exact hQ _ _ hf hC'
def csX11_tear : xCs := [(mX11_isRow, sX11_isRow), (mX11_finds, sX11_finds)]
theorem okX11_tear : xOkM mX11_tear csX11_tear := ⟨dX11_tear, by decide +kernel, by decide +kernel, ⟨wdX11_96, wdX11_13, wdX11_100, wdX11_13, trivial⟩⟩
theorem hhX11_tear : ∀ q ∈ csX11_tear, xHd q.1 := xall1 hX11_isRow (xall1 hX11_finds (xall0))
theorem kkX11_tear : ∀ q ∈ csX11_tear, ∀ l, xCon l q.1 q.2 := xall1 kX11_isRow (xall1 kX11_finds (xall0))
def sX11_tear : xSpec := xReg fun as I L Q => ∃ (S : ST) (r o : Int32) (S' : ST), as = [.ref 27, .int r] ∧ tearR S r o S' ∧ Ref S I L ∧ (∀ I' L', frM I L I' L' → Ref S' I' L' → Q (some (.int o)) I' L')
set_option maxRecDepth 100000 in
theorem kX11_tear : ∀ l, xCon l mX11_tear sX11_tear := by
  refine xcon_of okX11_tear hX11_tear rfl (by decide) hhX11_tear kkX11_tear ?_
  rintro as n0 I L P Q ⟨rfl, rfl, S, r, o, S', rfl, hR, hC, hQ⟩
  refine ⟨Nat.le_of_ble_eq_true rfl, ?_⟩
  refine xrun okX11_tear hhX11_tear [] 60 ?_
  refine ⟨rfl, rfl, r, rfl, ?_⟩
  rcases hR with ⟨hb, rfl, rfl⟩ | ⟨j, rfl, hj, hR⟩
  · rw [hb]
    (first | refine xbr_t (by decide) ?_ | refine xbr_f (by decide) ?_)
    exact hQ _ _ (frM_0 _ _) hC
  · rw [ib_tt hj (by decide)]
    (first | refine xbr_t (by decide) ?_ | refine xbr_f (by decide) ?_)
    have hz := hC.rz hj
    have hz41 := hC.ok.rz j hj
    rcases hR with ⟨h0, rfl, rfl⟩ | ⟨h0, rfl, rfl⟩
    · rw [h0, szI_0] at hz
      repeat (first | (refine xbr_f ?_ ?_; (focus ((simp (disch := omega) only [ix_lt, ix_le, ix_eq, ix_0, nI_clamp, nI_toInt, ng_T, nI_add, nI_mul, nI_sub', Int.neg_zero, not_false_eq_true, not_true_eq_false, hz] <;> omega); done))) | (refine xbr_t ?_ ?_; (focus ((simp (disch := omega) only [ix_lt, ix_le, ix_eq, ix_0, nI_clamp, nI_toInt, ng_T, nI_add, nI_mul, nI_sub', Int.neg_zero, not_false_eq_true, not_true_eq_false, hz] <;> omega); done))) | refine ⟨Or.inl rfl, ?_⟩ | refine ⟨Or.inr rfl, ?_⟩ | (refine ⟨?_, ?_⟩; (focus ((try simp (disch := omega) only [hz, nI_mul, nI_add, nI_sub']); exact in_nI (by omega) (by omega)))))
      exact ⟨rfl, rfl, S, 1, rfl, by decide, hC, fun I' hf hC' => hQ _ _ hf hC'⟩
    · obtain ⟨s, hs⟩ : ∃ s, S.rz j = s + 1 := ⟨S.rz j - 1, by omega⟩
      rw [hs, szI_s] at hz
      repeat (first | (refine xbr_f ?_ ?_; (focus ((simp (disch := omega) only [ix_lt, ix_le, ix_eq, ix_0, nI_clamp, nI_toInt, ng_T, nI_add, nI_mul, nI_sub', Int.neg_zero, not_false_eq_true, not_true_eq_false, hz] <;> omega); done))) | (refine xbr_t ?_ ?_; (focus ((simp (disch := omega) only [ix_lt, ix_le, ix_eq, ix_0, nI_clamp, nI_toInt, ng_T, nI_add, nI_mul, nI_sub', Int.neg_zero, not_false_eq_true, not_true_eq_false, hz] <;> omega); done))) | refine ⟨Or.inl rfl, ?_⟩ | refine ⟨Or.inr rfl, ?_⟩ | (refine ⟨?_, ?_⟩; (focus ((try simp (disch := omega) only [hz, nI_mul, nI_add, nI_sub']); exact in_nI (by omega) (by omega)))))
      simp (disch := omega) only [nI_mul, nI_add, nI_clamp, nI_sub']
      have hC2 := Ref_R hC (a := fun t => if t = j then szI 0 else I 29 t) (b := I 30) (z := fun t => if t = j then 0 else S.rz t) (v := S.rv) (fun t ht => by
        show (if t = j then 0 else S.rz t) ≤ 41
        have := hC.ok.rz t ht
        split <;> omega) (fun t ht => by
        refine ⟨?_, fun k hk => ?_⟩
        · show (if t = j then szI 0 else I 29 t) = szI (if t = j then 0 else S.rz t)
          by_cases e : t = j
          · rw [if_pos e, if_pos e]
          · rw [if_neg e, if_neg e]
            exact hC.rz ht
        · have hk' : k < (if t = j then 0 else S.rz t) - 1 := hk
          by_cases e : t = j
          · rw [if_pos e] at hk'
            omega
          · rw [if_neg e] at hk'
            exact hC.rv ht hk')
      rw [show xrw (xrw I 29 fun t => if t = j then szI 0 else I 29 t) 30 (I 30) = xup I 29 j (szI 0) from xrw_self (xup I 29 j (szI 0)) 30] at hC2
      exact hQ _ _ (frM_I (by decide) _ _ _ _) hC2
def csX11_mean : xCs := [(mX11_isRow, sX11_isRow), (mX11_finds, sX11_finds), (mX11_tells, sX11_tells)]
theorem okX11_mean : xOkM mX11_mean csX11_mean := ⟨dX11_mean, by decide +kernel, by decide +kernel, ⟨wdX11_96, wdX11_13, wdX11_100, wdX11_13, wdX11_100, wdX11_13, wdX11_16, wdX11_13, wdX11_112, trivial⟩⟩
theorem hhX11_mean : ∀ q ∈ csX11_mean, xHd q.1 := xall1 hX11_isRow (xall1 hX11_finds (xall1 hX11_tells (xall0)))
theorem kkX11_mean : ∀ q ∈ csX11_mean, ∀ l, xCon l q.1 q.2 := xall1 kX11_isRow (xall1 kX11_finds (xall1 kX11_tells (xall0)))
def sX11_mean : xSpec := xReg fun as I L Q => ∃ (S : ST) (r o : Int32) (S' : ST), as = [.ref 27, .int r] ∧ meanR S r o S' ∧ Ref S I L ∧ (∀ I' L', frM I L I' L' → Ref S' I' L' → Q (some (.int o)) I' L')
set_option maxRecDepth 100000 in
theorem kX11_mean : ∀ l, xCon l mX11_mean sX11_mean := by
  refine xcon_of okX11_mean hX11_mean rfl (by decide) hhX11_mean kkX11_mean ?_
  rintro as n0 I L P Q ⟨rfl, rfl, S, r, o, S', rfl, hR, hC, hQ⟩
  refine ⟨Nat.le_of_ble_eq_true rfl, ?_⟩
  refine xrun okX11_mean hhX11_mean [(44, [true, true, true, false, true])] 60 ?_
  refine ⟨rfl, rfl, r, rfl, ?_⟩
  rcases hR with ⟨hb, rfl, rfl⟩ | ⟨j, rfl, hj, hR⟩
  · rw [hb]
    (first | refine xbr_t (by decide) ?_ | refine xbr_f (by decide) ?_)
    exact hQ _ _ (frM_0 _ _) hC
  · rw [ib_tt hj (by decide)]
    (first | refine xbr_t (by decide) ?_ | refine xbr_f (by decide) ?_)
    have hz := hC.rz hj
    have hz41 := hC.ok.rz j hj
    rcases hR with ⟨h0, rfl, rfl⟩ | ⟨h0, rfl, rfl⟩ | ⟨s, hs, rfl, rfl⟩
    · rw [h0, szI_0] at hz
      repeat (first | (refine xbr_f ?_ ?_; (focus ((simp (disch := omega) only [ix_lt, ix_le, ix_eq, ix_0, nI_clamp, nI_toInt, ng_T, nI_add, nI_mul, nI_sub', Int.neg_zero, not_false_eq_true, not_true_eq_false, hz] <;> omega); done))) | (refine xbr_t ?_ ?_; (focus ((simp (disch := omega) only [ix_lt, ix_le, ix_eq, ix_0, nI_clamp, nI_toInt, ng_T, nI_add, nI_mul, nI_sub', Int.neg_zero, not_false_eq_true, not_true_eq_false, hz] <;> omega); done))) | refine ⟨Or.inl rfl, ?_⟩ | refine ⟨Or.inr rfl, ?_⟩ | (refine ⟨?_, ?_⟩; (focus ((try simp (disch := omega) only [hz, nI_mul, nI_add, nI_sub']); exact in_nI (by omega) (by omega)))))
      exact ⟨rfl, rfl, S, 1, rfl, by decide, hC, fun I' hf hC' => hQ _ _ hf hC'⟩
    · rw [h0] at hz
      have hz2 : I 29 j = nI 0 := hz
      repeat (first | (refine xbr_f ?_ ?_; (focus ((simp (disch := omega) only [ix_lt, ix_le, ix_eq, ix_0, nI_clamp, nI_toInt, ng_T, nI_add, nI_mul, nI_sub', Int.neg_zero, not_false_eq_true, not_true_eq_false, hz2] <;> omega); done))) | (refine xbr_t ?_ ?_; (focus ((simp (disch := omega) only [ix_lt, ix_le, ix_eq, ix_0, nI_clamp, nI_toInt, ng_T, nI_add, nI_mul, nI_sub', Int.neg_zero, not_false_eq_true, not_true_eq_false, hz2] <;> omega); done))) | refine ⟨Or.inl rfl, ?_⟩ | refine ⟨Or.inr rfl, ?_⟩ | (refine ⟨?_, ?_⟩; (focus ((try simp (disch := omega) only [hz2, nI_mul, nI_add, nI_sub']); exact in_nI (by omega) (by omega)))))
      exact ⟨rfl, rfl, S, 4, rfl, by decide, hC, fun I' hf hC' => hQ _ _ hf hC'⟩
    · rw [hs] at hz
      have hz2 : I 29 j = nI (s + 1) := hz
      repeat (first | (refine xbr_f ?_ ?_; (focus ((simp (disch := omega) only [ix_lt, ix_le, ix_eq, ix_0, nI_clamp, nI_toInt, ng_T, nI_add, nI_mul, nI_sub', Int.neg_zero, not_false_eq_true, not_true_eq_false, hz2] <;> omega); done))) | (refine xbr_t ?_ ?_; (focus ((simp (disch := omega) only [ix_lt, ix_le, ix_eq, ix_0, nI_clamp, nI_toInt, ng_T, nI_add, nI_mul, nI_sub', Int.neg_zero, not_false_eq_true, not_true_eq_false, hz2] <;> omega); done))) | refine ⟨Or.inl rfl, ?_⟩ | refine ⟨Or.inr rfl, ?_⟩ | (refine ⟨?_, ?_⟩; (focus ((try simp (disch := omega) only [hz2, nI_mul, nI_add, nI_sub']); exact in_nI (by omega) (by omega)))))
      refine xlp (M := mX11_mean) (cs := csX11_mean) (pc := 44) (s + 1) (fun k => [some (.ref 27), some (.int (nI j)), some (.long (suL S.rv (j * 40) k)), none, some (.int (nI k))]) (fun _ => I) (fun _ => L) ?_ ?_
      · intro k hk ih
        refine xrun okX11_mean hhX11_mean [(44, [true, true, true, false, true])] 60 ?_
        repeat (first | (refine xbr_f ?_ ?_; (focus ((simp (disch := omega) only [ix_lt, ix_le, ix_eq, ix_0, nI_clamp, nI_toInt, ng_T, nI_add, nI_mul, nI_sub', Int.neg_zero, not_false_eq_true, not_true_eq_false, hz2] <;> omega); done))) | (refine xbr_t ?_ ?_; (focus ((simp (disch := omega) only [ix_lt, ix_le, ix_eq, ix_0, nI_clamp, nI_toInt, ng_T, nI_add, nI_mul, nI_sub', Int.neg_zero, not_false_eq_true, not_true_eq_false, hz2] <;> omega); done))) | refine ⟨Or.inl rfl, ?_⟩ | refine ⟨Or.inr rfl, ?_⟩ | (refine ⟨?_, ?_⟩; (focus ((try simp (disch := omega) only [hz2, nI_mul, nI_add, nI_sub']); exact in_nI (by omega) (by omega)))))
        have hv := hC.rv (k := k) hj (by omega)
        refine xgo_eq ih ?_ rfl rfl
        ((repeat' (first | (with_reducible rfl) | exact xv_nil | refine xv_cons ?_ ?_ | refine xv_i ?_ | refine xv_l ?_)) <;> (simp (disch := omega) only [↓reduceIte, Bool.false_eq_true, Nat.one_mul, Nat.zero_mul, Nat.or_zero, Nat.add_zero, Nat.zero_add, Bool.toNat_true, Bool.toNat_false, shl_n, shr_n, fa_and, fa_or, nx_xor, nI_add, nI_mul, nI_sub', and_1, and_7, and_3', and_15, suL, hv, nI_clamp]))
      · refine xrun okX11_mean hhX11_mean [] 60 ?_
        repeat (first | (refine xbr_f ?_ ?_; (focus ((simp (disch := omega) only [ix_lt, ix_le, ix_eq, ix_0, nI_clamp, nI_toInt, ng_T, nI_add, nI_mul, nI_sub', Int.neg_zero, not_false_eq_true, not_true_eq_false, hz2] <;> omega); done))) | (refine xbr_t ?_ ?_; (focus ((simp (disch := omega) only [ix_lt, ix_le, ix_eq, ix_0, nI_clamp, nI_toInt, ng_T, nI_add, nI_mul, nI_sub', Int.neg_zero, not_false_eq_true, not_true_eq_false, hz2] <;> omega); done))) | refine ⟨Or.inl rfl, ?_⟩ | refine ⟨Or.inr rfl, ?_⟩ | (refine ⟨?_, ?_⟩; (focus ((try simp (disch := omega) only [hz2, nI_mul, nI_add, nI_sub']); exact in_nI (by omega) (by omega)))))
        simp (disch := omega) only [hz2, nI_mul, nI_add, nI_clamp, nI_sub']
        have hn : ¬ (nI (s + 1)).toInt64 = 0 := ln_0 (by omega) (by omega)
        refine ⟨hn, ?_⟩
        exact ⟨rfl, rfl, S, _, rfl, hC, fun I' hf hC' => hQ _ _ hf hC'⟩
def csX11_text : xCs := [(mX11_isText, sX11_isText), (mX11_finds, sX11_finds)]
theorem okX11_text : xOkM mX11_text csX11_text := ⟨dX11_text, by decide +kernel, by decide +kernel, ⟨wdX11_115, wdX11_100, wdX11_19, wdX11_22, trivial⟩⟩
theorem hhX11_text : ∀ q ∈ csX11_text, xHd q.1 := xall1 hX11_isText (xall1 hX11_finds (xall0))
theorem kkX11_text : ∀ q ∈ csX11_text, ∀ l, xCon l q.1 q.2 := xall1 kX11_isText (xall1 kX11_finds (xall0))
def sX11_text : xSpec := xReg fun as I L Q => ∃ (S : ST) (r n o : Int32) (S' : ST), as = [.ref 27, .int r, .int n] ∧ textR S r n o S' ∧ SOk S' ∧ Ref S I L ∧ (∀ I' L', frM I L I' L' → Ref S' I' L' → Q (some (.int o)) I' L')
set_option maxRecDepth 100000 in
theorem kX11_text : ∀ l, xCon l mX11_text sX11_text := by
  refine xcon_of okX11_text hX11_text rfl (by decide) hhX11_text kkX11_text ?_
  rintro as n0 I L P Q ⟨rfl, rfl, S, r, n, o, S', rfl, hR, hS', hC, hQ⟩
  refine ⟨Nat.le_of_ble_eq_true rfl, ?_⟩
  refine xrun okX11_text hhX11_text [(34, [true, true, true, true])] 60 ?_
  refine ⟨rfl, rfl, r, rfl, ?_⟩
  rcases hR with ⟨h, rfl, rfl⟩ | ⟨hb, hn, rfl, rfl⟩ | ⟨j, m, rfl, hj, rfl, hm, rfl, rfl⟩
  · cases hb : ibB r 4
    · (first | refine xbr_t (by decide) ?_ | refine xbr_f (by decide) ?_)
      exact hQ _ _ (frM_0 _ _) hC
    · (first | refine xbr_t (by decide) ?_ | refine xbr_f (by decide) ?_)
      have h40 : ¬ n.toInt ≤ 60 := fun q => h ⟨hb, q⟩
      repeat (first | (refine xbr_f ?_ ?_; (focus ((simp (disch := omega) only [ix_lt, ix_le, ix_eq, ix_0, nI_clamp, nI_toInt, ng_T, nI_add, nI_mul, nI_sub', Int.neg_zero, not_false_eq_true, not_true_eq_false] <;> omega); done))) | (refine xbr_t ?_ ?_; (focus ((simp (disch := omega) only [ix_lt, ix_le, ix_eq, ix_0, nI_clamp, nI_toInt, ng_T, nI_add, nI_mul, nI_sub', Int.neg_zero, not_false_eq_true, not_true_eq_false] <;> omega); done))) | refine ⟨Or.inl rfl, ?_⟩ | refine ⟨Or.inr rfl, ?_⟩ | (refine ⟨?_, ?_⟩; (focus (exact in_nI (by omega) (by omega)))))
      exact hQ _ _ (frM_0 _ _) hC
  · rw [hb]
    (first | refine xbr_t (by decide) ?_ | refine xbr_f (by decide) ?_)
    repeat (first | (refine xbr_f ?_ ?_; (focus ((simp (disch := omega) only [ix_lt, ix_le, ix_eq, ix_0, nI_clamp, nI_toInt, ng_T, nI_add, nI_mul, nI_sub', Int.neg_zero, not_false_eq_true, not_true_eq_false] <;> omega); done))) | (refine xbr_t ?_ ?_; (focus ((simp (disch := omega) only [ix_lt, ix_le, ix_eq, ix_0, nI_clamp, nI_toInt, ng_T, nI_add, nI_mul, nI_sub', Int.neg_zero, not_false_eq_true, not_true_eq_false] <;> omega); done))) | refine ⟨Or.inl rfl, ?_⟩ | refine ⟨Or.inr rfl, ?_⟩ | (refine ⟨?_, ?_⟩; (focus (exact in_nI (by omega) (by omega)))))
    refine ⟨rfl, rfl, S, 5, rfl, by decide, hC, fun I' hf hC' => ?_⟩
    exact hQ _ _ hf hC'
  · rw [ib_tt hj (by decide)]
    (first | refine xbr_t (by decide) ?_ | refine xbr_f (by decide) ?_)
    repeat (first | (refine xbr_f ?_ ?_; (focus ((simp (disch := omega) only [ix_lt, ix_le, ix_eq, ix_0, nI_clamp, nI_toInt, ng_T, nI_add, nI_mul, nI_sub', Int.neg_zero, not_false_eq_true, not_true_eq_false, nI_add] <;> omega); done))) | (refine xbr_t ?_ ?_; (focus ((simp (disch := omega) only [ix_lt, ix_le, ix_eq, ix_0, nI_clamp, nI_toInt, ng_T, nI_add, nI_mul, nI_sub', Int.neg_zero, not_false_eq_true, not_true_eq_false, nI_add] <;> omega); done))) | refine ⟨Or.inl rfl, ?_⟩ | refine ⟨Or.inr rfl, ?_⟩ | (refine ⟨?_, ?_⟩; (focus ((try simp (disch := omega) only [nI_add, nI_mul, nI_add, nI_sub']); exact in_nI (by omega) (by omega)))))
    simp (disch := omega) only [nI_mul, nI_add, nI_clamp, nI_sub']
    refine xgo_eq (xlp (M := mX11_text) (cs := csX11_text) (pc := 34) 60 (fun k => [some (.ref 27), some (.int (nI j)), some (.int (nI m)), some (.int (nI k))]) (fun k => xrw (xup I 31 j (nI m)) 32 (xfil (I 32) (60 * j) k (nI 32))) (fun _ => L) ?_ ?_) rfl ?_ rfl
    · intro k hk ih
      refine xrun okX11_text hhX11_text [(34, [true, true, true, true])] 60 ?_
      repeat (first | (refine xbr_f ?_ ?_; (focus ((simp (disch := omega) only [ix_lt, ix_le, ix_eq, ix_0, nI_clamp, nI_toInt, ng_T, nI_add, nI_mul, nI_sub', Int.neg_zero, not_false_eq_true, not_true_eq_false, nI_add] <;> omega); done))) | (refine xbr_t ?_ ?_; (focus ((simp (disch := omega) only [ix_lt, ix_le, ix_eq, ix_0, nI_clamp, nI_toInt, ng_T, nI_add, nI_mul, nI_sub', Int.neg_zero, not_false_eq_true, not_true_eq_false, nI_add] <;> omega); done))) | refine ⟨Or.inl rfl, ?_⟩ | refine ⟨Or.inr rfl, ?_⟩ | (refine ⟨?_, ?_⟩; (focus ((try simp (disch := omega) only [nI_add, nI_mul, nI_add, nI_sub']); exact in_nI (by omega) (by omega)))))
      simp (disch := omega) only [nI_mul, nI_add, nI_clamp, nI_sub']
      refine xgo_eq ih ?_ ?_ rfl
      · ((repeat' (first | (with_reducible rfl) | exact xv_nil | refine xv_cons ?_ ?_ | refine xv_i ?_ | refine xv_l ?_)) <;> (simp (disch := omega) only [↓reduceIte, Bool.false_eq_true, Nat.one_mul, Nat.zero_mul, Nat.or_zero, Nat.add_zero, Nat.zero_add, Bool.toNat_true, Bool.toNat_false, shl_n, shr_n, fa_and, fa_or, nx_xor, nI_add, nI_mul, nI_sub', and_1, and_7, and_3', and_15]))
      · exact xfil_s _ _ _ _ _ _
    · refine xrun okX11_text hhX11_text [] 60 ?_
      repeat (first | (refine xbr_f ?_ ?_; (focus ((simp (disch := omega) only [ix_lt, ix_le, ix_eq, ix_0, nI_clamp, nI_toInt, ng_T, nI_add, nI_mul, nI_sub', Int.neg_zero, not_false_eq_true, not_true_eq_false, nI_add] <;> omega); done))) | (refine xbr_t ?_ ?_; (focus ((simp (disch := omega) only [ix_lt, ix_le, ix_eq, ix_0, nI_clamp, nI_toInt, ng_T, nI_add, nI_mul, nI_sub', Int.neg_zero, not_false_eq_true, not_true_eq_false, nI_add] <;> omega); done))) | refine ⟨Or.inl rfl, ?_⟩ | refine ⟨Or.inr rfl, ?_⟩ | (refine ⟨?_, ?_⟩; (focus ((try simp (disch := omega) only [nI_add, nI_mul, nI_add, nI_sub']); exact in_nI (by omega) (by omega)))))
      refine hQ _ _ (frM_t (frM_I (by decide) _ _ _ _) (frM_W (by decide) _ _ _)) (Ref_X hC hS' (rw_new hC.tx hC.ok.tz hm ?_ ?_ ?_))
      · intro k hk
        rw [fil_in (by omega) (by omega), fil_in (by omega) (by omega)]
      · intro t ht
        exact fil_out ht
      · intro t ht
        exact fil_out (by omega)
    · show xup I 31 j (nI m) = xrw (xup I 31 j (nI m)) 32 (xfil (I 32) (60 * j) 0 (nI 32))
      rw [xfil_0]
      exact (xrw_self (xup I 31 j (nI m)) 32).symm
def csX11_put : xCs := [(mX11_isText, sX11_isText), (mX11_finds, sX11_finds), (mX11_in, sX11_in)]
theorem okX11_put : xOkM mX11_put csX11_put := ⟨dX11_put, by decide +kernel, by decide +kernel, ⟨wdX11_115, wdX11_19, wdX11_100, wdX11_19, wdX11_90, wdX11_100, wdX11_22, wdX11_22, trivial⟩⟩
theorem hhX11_put : ∀ q ∈ csX11_put, xHd q.1 := xall1 hX11_isText (xall1 hX11_finds (xall1 hX11_in (xall0)))
theorem kkX11_put : ∀ q ∈ csX11_put, ∀ l, xCon l q.1 q.2 := xall1 kX11_isText (xall1 kX11_finds (xall1 kX11_in (xall0)))
def sX11_put : xSpec := xReg fun as I L Q => ∃ (S : ST) (r i v o : Int32) (S' : ST), as = [.ref 27, .int r, .int i, .int v] ∧ putR S r i v o S' ∧ SOk S' ∧ Ref S I L ∧ (∀ I' L', frM I L I' L' → Ref S' I' L' → Q (some (.int o)) I' L')
set_option maxRecDepth 100000 in
theorem kX11_put : ∀ l, xCon l mX11_put sX11_put := by
  refine xcon_of okX11_put hX11_put rfl (by decide) hhX11_put kkX11_put ?_
  rintro as n0 I L P Q ⟨rfl, rfl, S, r, i, v, o, S', rfl, hR, hS', hC, hQ⟩
  refine ⟨Nat.le_of_ble_eq_true rfl, ?_⟩
  refine xrun okX11_put hhX11_put [] 60 ?_
  refine ⟨rfl, rfl, r, rfl, ?_⟩
  rcases hR with ⟨hb, rfl, rfl⟩ | ⟨j, rfl, hj, hR⟩
  · rw [hb]
    (first | refine xbr_t (by decide) ?_ | refine xbr_f (by decide) ?_)
    exact hQ _ _ (frM_0 _ _) hC
  · rw [ib_tt hj (by decide)]
    (first | refine xbr_t (by decide) ?_ | refine xbr_f (by decide) ?_)
    have hz := hC.tz hj
    have hz41 := hC.ok.tz j hj
    rcases hR with ⟨h0, rfl, rfl⟩ | ⟨h0, hb, rfl, rfl⟩ | ⟨m, rfl, hm, rfl, rfl⟩
    · rw [h0, szI_0] at hz
      repeat (first | (refine xbr_f ?_ ?_; (focus ((simp (disch := omega) only [ix_lt, ix_le, ix_eq, ix_0, nI_clamp, nI_toInt, ng_T, nI_add, nI_mul, nI_sub', Int.neg_zero, not_false_eq_true, not_true_eq_false, hz] <;> omega); done))) | (refine xbr_t ?_ ?_; (focus ((simp (disch := omega) only [ix_lt, ix_le, ix_eq, ix_0, nI_clamp, nI_toInt, ng_T, nI_add, nI_mul, nI_sub', Int.neg_zero, not_false_eq_true, not_true_eq_false, hz] <;> omega); done))) | refine ⟨Or.inl rfl, ?_⟩ | refine ⟨Or.inr rfl, ?_⟩ | (refine ⟨?_, ?_⟩; (focus ((try simp (disch := omega) only [hz, nI_mul, nI_add, nI_sub']); exact in_nI (by omega) (by omega)))))
      exact ⟨rfl, rfl, S, 1, rfl, by decide, hC, fun I' hf hC' => hQ _ _ hf hC'⟩
    · obtain ⟨s, hs⟩ : ∃ s, S.tz j = s + 1 := ⟨S.tz j - 1, by omega⟩
      rw [hs, szI_s] at hz
      rw [hs, Nat.add_sub_cancel] at hb
      repeat (first | (refine xbr_f ?_ ?_; (focus ((simp (disch := omega) only [ix_lt, ix_le, ix_eq, ix_0, nI_clamp, nI_toInt, ng_T, nI_add, nI_mul, nI_sub', Int.neg_zero, not_false_eq_true, not_true_eq_false, hz] <;> omega); done))) | (refine xbr_t ?_ ?_; (focus ((simp (disch := omega) only [ix_lt, ix_le, ix_eq, ix_0, nI_clamp, nI_toInt, ng_T, nI_add, nI_mul, nI_sub', Int.neg_zero, not_false_eq_true, not_true_eq_false, hz] <;> omega); done))) | refine ⟨Or.inl rfl, ?_⟩ | refine ⟨Or.inr rfl, ?_⟩ | (refine ⟨?_, ?_⟩; (focus ((try simp (disch := omega) only [hz, nI_mul, nI_add, nI_sub']); exact in_nI (by omega) (by omega)))))
      refine ⟨rfl, rfl, _, _, _, i, nI 0, nI s - nI 1, rfl, rfl, by decide, by rw [nI_clamp (by omega), hz], ?_⟩
      rw [in_s (by omega), hb]
      (first | refine xbr_t (by decide) ?_ | refine xbr_f (by decide) ?_)
      exact ⟨rfl, rfl, S, 2, rfl, by decide, hC, fun I' hf hC' => hQ _ _ hf hC'⟩
    · obtain ⟨s, hs⟩ : ∃ s, S.tz j = s + 1 := ⟨S.tz j - 1, by omega⟩
      have hv := hC.tv hj hm
      rw [hs, szI_s] at hz
      rw [hs, Nat.add_sub_cancel] at hm
      repeat (first | (refine xbr_f ?_ ?_; (focus ((simp (disch := omega) only [ix_lt, ix_le, ix_eq, ix_0, nI_clamp, nI_toInt, ng_T, nI_add, nI_mul, nI_sub', Int.neg_zero, not_false_eq_true, not_true_eq_false, hz] <;> omega); done))) | (refine xbr_t ?_ ?_; (focus ((simp (disch := omega) only [ix_lt, ix_le, ix_eq, ix_0, nI_clamp, nI_toInt, ng_T, nI_add, nI_mul, nI_sub', Int.neg_zero, not_false_eq_true, not_true_eq_false, hz] <;> omega); done))) | refine ⟨Or.inl rfl, ?_⟩ | refine ⟨Or.inr rfl, ?_⟩ | (refine ⟨?_, ?_⟩; (focus ((try simp (disch := omega) only [hz, nI_mul, nI_add, nI_sub']); exact in_nI (by omega) (by omega)))))
      refine ⟨rfl, rfl, _, _, _, nI m, nI 0, nI s - nI 1, rfl, rfl, by decide, by rw [nI_clamp (by omega), hz], ?_⟩
      rw [in_s (by omega), ib_tt hm (by omega)]
      (first | refine xbr_t (by decide) ?_ | refine xbr_f (by decide) ?_)
      repeat (first | (refine xbr_f ?_ ?_; (focus ((simp (disch := omega) only [ix_lt, ix_le, ix_eq, ix_0, nI_clamp, nI_toInt, ng_T, nI_add, nI_mul, nI_sub', Int.neg_zero, not_false_eq_true, not_true_eq_false, nI_add] <;> omega); done))) | (refine xbr_t ?_ ?_; (focus ((simp (disch := omega) only [ix_lt, ix_le, ix_eq, ix_0, nI_clamp, nI_toInt, ng_T, nI_add, nI_mul, nI_sub', Int.neg_zero, not_false_eq_true, not_true_eq_false, nI_add] <;> omega); done))) | refine ⟨Or.inl rfl, ?_⟩ | refine ⟨Or.inr rfl, ?_⟩ | (refine ⟨?_, ?_⟩; (focus ((try simp (disch := omega) only [nI_add, nI_mul, nI_add, nI_sub']); exact in_nI (by omega) (by omega)))))
      simp (disch := omega) only [nI_mul, nI_add, nI_clamp, nI_sub']
      have hC2 := Ref_X hC (a := I 31) (b := fun t => if t = 60 * j + m then v.toInt8.toInt32 else I 32 t) (z := S.tz) (v := fun t => if t = j * 60 + m then v.toInt8.toInt32 else S.tv t) hS' (rw_set hC.tx hC.ok.tz hj (by omega))
      rw [xrw_self] at hC2
      have hq := hQ _ _ (frM_I (by decide) _ _ _ _) hC2
      rw [Int32.add_comm, ← hv] at hq
      exact hq
theorem rw_cpy {z : Nat → Nat} {v a b g : Nat → Int32} (h : rwR 6 40 z v a b) (hz : ∀ r, r < 6 → z r ≤ 41) {i p j q m : Nat} (hi : i < 6) (hp : p + m ≤ z i - 1) (hq : q + m ≤ z j - 1) (hj : j < 6) (h1 : ∀ k, k < m → g (40 * j + q + k) = b (40 * i + p + k)) (h2 : ∀ t, (t < 40 * j + q ∨ 40 * j + q + m ≤ t) → g t = b t) : rwR 6 40 z (va_cpy v v (i * 40 + p) (j * 40 + q) m) a g := by
  intro r hr
  refine ⟨(h r hr).1, fun k hk => ?_⟩
  have hzr := hz r hr
  have hzj := hz j hj
  by_cases c : 40 * j + q ≤ 40 * r + k ∧ 40 * r + k < 40 * j + q + m
  · obtain rfl : r = j := by omega
    have e := h1 (k - q) (by omega)
    rw [show 40 * r + q + (k - q) = 40 * r + k by omega, show 40 * i + p + (k - q) = 40 * i + (p + (k - q)) by omega, (h i hi).2 _ (by omega)] at e
    rw [e, pk_cpy_in (by omega) (by omega), show i * 40 + p + (r * 40 + k - (r * 40 + q)) = i * 40 + (p + (k - q)) by omega]
  · rw [h2 _ (by omega), pk_cpy_out (by omega)]
    exact (h r hr).2 k hk
def csX11_copy : xCs := [(mX11_isRow, sX11_isRow), (mX11_finds, sX11_finds)]
theorem okX11_copy : xOkM mX11_copy csX11_copy := ⟨dX11_copy, by decide +kernel, by decide +kernel, ⟨wdX11_96, wdX11_96, wdX11_100, wdX11_13, wdX11_13, wdX11_100, wdX11_13, wdX11_13, wdX11_100, wdX11_25, wdX11_16, wdX11_16, wdX11_25, trivial⟩⟩
theorem hhX11_copy : ∀ q ∈ csX11_copy, xHd q.1 := xall1 hX11_isRow (xall1 hX11_finds (xall0))
theorem kkX11_copy : ∀ q ∈ csX11_copy, ∀ l, xCon l q.1 q.2 := xall1 kX11_isRow (xall1 kX11_finds (xall0))
def sX11_copy : xSpec := xReg fun as I L Q => ∃ (S : ST) (r i t j n o : Int32) (S' : ST), as = [.ref 27, .int r, .int i, .int t, .int j, .int n] ∧ copyR S r i t j n o S' ∧ Ref S I L ∧ (∀ I' L', frM I L I' L' → Ref S' I' L' → Q (some (.int o)) I' L')
theorem la_T (x y : Int32) : (x.toInt64 + y.toInt64).toInt = x.toInt + y.toInt := by
  have h1 := Int32.toInt_lt x
  have h2 := Int32.le_toInt x
  have h3 := Int32.toInt_lt y
  have h4 := Int32.le_toInt y
  rw [Int64.toInt_add, Int32.toInt_toInt64, Int32.toInt_toInt64]
  exact Int.bmod_eq_of_le (by omega) (by omega)
theorem la_gt (x y z : Int32) : 0 < lg_cmp (x.toInt64 + y.toInt64) z.toInt64 ↔ z.toInt < x.toInt + y.toInt := by rw [lg_cmp_gt, Int64.lt_iff_toInt_lt, la_T, Int32.toInt_toInt64]
theorem la_le (x y z : Int32) : lg_cmp (x.toInt64 + y.toInt64) z.toInt64 ≤ 0 ↔ x.toInt + y.toInt ≤ z.toInt := by rw [lg_cmp_le, Int64.le_iff_toInt_le, la_T, Int32.toInt_toInt64]
set_option maxRecDepth 100000 in
theorem kX11_copy : ∀ l, xCon l mX11_copy sX11_copy := by
  refine xcon_of okX11_copy hX11_copy rfl (by decide) hhX11_copy kkX11_copy ?_
  rintro as n0 I L P Q ⟨rfl, rfl, S, r, i, t, j, n, o, S', rfl, hR, hC, hQ⟩
  refine ⟨Nat.le_of_ble_eq_true rfl, ?_⟩
  refine xrun okX11_copy hhX11_copy [(104, [true, true, true, true, true, true, true])] 60 ?_
  refine ⟨rfl, rfl, r, rfl, ?_⟩
  rcases hR with ⟨h, rfl, rfl⟩ | ⟨a, b, rfl, ha, rfl, hb, hR⟩
  · have done := hQ _ _ (frM_0 _ _) hC
    cases hb : ibB r 6
    · (first | refine xbr_t (by decide) ?_ | refine xbr_f (by decide) ?_)
      exact done
    · (first | refine xbr_t (by decide) ?_ | refine xbr_f (by decide) ?_)
      refine ⟨rfl, rfl, t, rfl, ?_⟩
      cases hb2 : ibB t 6
      · (first | refine xbr_t (by decide) ?_ | refine xbr_f (by decide) ?_)
        exact done
      · exact absurd ⟨hb, hb2⟩ h
  · rw [ib_tt ha (by decide)]
    (first | refine xbr_t (by decide) ?_ | refine xbr_f (by decide) ?_)
    refine ⟨rfl, rfl, nI b, rfl, ?_⟩
    rw [ib_tt hb (by decide)]
    (first | refine xbr_t (by decide) ?_ | refine xbr_f (by decide) ?_)
    have hza := hC.rz ha
    have hzb := hC.rz hb
    have la := hC.ok.rz a ha
    have lb := hC.ok.rz b hb
    rcases hR with ⟨hn, rfl, rfl⟩ | ⟨hn, h0, rfl, rfl⟩ | ⟨hn, h0, h1, h2, rfl, rfl⟩ | ⟨p, q, m, rfl, rfl, rfl, h0, h1, h2, h3, rfl, rfl⟩
    · repeat (first | (refine xbr_f ?_ ?_; (focus ((simp (disch := omega) only [ix_lt, ix_le, ix_eq, ix_0, nI_clamp, nI_toInt, ng_T, nI_add, nI_mul, nI_sub', Int.neg_zero, not_false_eq_true, not_true_eq_false] <;> omega); done))) | (refine xbr_t ?_ ?_; (focus ((simp (disch := omega) only [ix_lt, ix_le, ix_eq, ix_0, nI_clamp, nI_toInt, ng_T, nI_add, nI_mul, nI_sub', Int.neg_zero, not_false_eq_true, not_true_eq_false] <;> omega); done))) | refine ⟨Or.inl rfl, ?_⟩ | refine ⟨Or.inr rfl, ?_⟩ | (refine ⟨?_, ?_⟩; (focus (exact in_nI (by omega) (by omega)))))
      exact ⟨rfl, rfl, S, 5, rfl, by decide, hC, fun I' hf hC' => hQ _ _ hf hC'⟩
    · have fin1 : ∀ I', frM I L I' L → Ref (S.wF 1) I' L → Q (some (.int (-(nI 3)))) xN I' L xP0 := fun I' hf hC' => hQ _ _ hf hC'
      by_cases hA : S.rz a = 0
      · rw [hA, szI_0] at hza
        repeat (first | (refine xbr_f ?_ ?_; (focus ((simp (disch := omega) only [ix_lt, ix_le, ix_eq, ix_0, nI_clamp, nI_toInt, ng_T, nI_add, nI_mul, nI_sub', Int.neg_zero, not_false_eq_true, not_true_eq_false, hza] <;> omega); done))) | (refine xbr_t ?_ ?_; (focus ((simp (disch := omega) only [ix_lt, ix_le, ix_eq, ix_0, nI_clamp, nI_toInt, ng_T, nI_add, nI_mul, nI_sub', Int.neg_zero, not_false_eq_true, not_true_eq_false, hza] <;> omega); done))) | refine ⟨Or.inl rfl, ?_⟩ | refine ⟨Or.inr rfl, ?_⟩ | (refine ⟨?_, ?_⟩; (focus ((try simp (disch := omega) only [hza, nI_mul, nI_add, nI_sub']); exact in_nI (by omega) (by omega)))))
        exact ⟨rfl, rfl, S, 1, rfl, by decide, hC, fin1⟩
      · obtain ⟨s, hs⟩ : ∃ s, S.rz a = s + 1 := ⟨S.rz a - 1, by omega⟩
        rw [hs, szI_s] at hza
        have hB : S.rz b = 0 := by omega
        rw [hB, szI_0] at hzb
        repeat (first | (refine xbr_f ?_ ?_; (focus ((simp (disch := omega) only [ix_lt, ix_le, ix_eq, ix_0, nI_clamp, nI_toInt, ng_T, nI_add, nI_mul, nI_sub', Int.neg_zero, not_false_eq_true, not_true_eq_false, hza, hzb] <;> omega); done))) | (refine xbr_t ?_ ?_; (focus ((simp (disch := omega) only [ix_lt, ix_le, ix_eq, ix_0, nI_clamp, nI_toInt, ng_T, nI_add, nI_mul, nI_sub', Int.neg_zero, not_false_eq_true, not_true_eq_false, hza, hzb] <;> omega); done))) | refine ⟨Or.inl rfl, ?_⟩ | refine ⟨Or.inr rfl, ?_⟩ | (refine ⟨?_, ?_⟩; (focus ((try simp (disch := omega) only [hza, hzb, nI_mul, nI_add, nI_sub']); exact in_nI (by omega) (by omega)))))
        exact ⟨rfl, rfl, S, 1, rfl, by decide, hC, fin1⟩
    · have fin2 : ∀ I', frM I L I' L → Ref (S.wF 2) I' L → Q (some (.int (-(nI 3)))) xN I' L xP0 := fun I' hf hC' => hQ _ _ hf hC'
      obtain ⟨s, hs⟩ : ∃ s, S.rz a = s + 1 := ⟨S.rz a - 1, by omega⟩
      obtain ⟨s', hs'⟩ : ∃ s, S.rz b = s + 1 := ⟨S.rz b - 1, by omega⟩
      rw [hs, szI_s] at hza
      rw [hs', szI_s] at hzb
      rw [hs, hs', Nat.add_sub_cancel, Nat.add_sub_cancel] at h2
      have ts : (nI s).toInt = s := nI_toInt (by omega)
      have ts' : (nI s').toInt = s' := nI_toInt (by omega)
      have g1 := la_gt i n (nI s)
      have g2 := la_le j n (nI s')
      rw [ts] at g1
      rw [ts'] at g2
      by_cases c1 : i.toInt < 0
      · repeat (first | (refine xbr_f ?_ ?_; (focus ((simp (disch := omega) only [ix_lt, ix_le, ix_eq, ix_0, nI_clamp, nI_toInt, ng_T, nI_add, nI_mul, nI_sub', Int.neg_zero, not_false_eq_true, not_true_eq_false, hza, hzb] <;> omega); done))) | (refine xbr_t ?_ ?_; (focus ((simp (disch := omega) only [ix_lt, ix_le, ix_eq, ix_0, nI_clamp, nI_toInt, ng_T, nI_add, nI_mul, nI_sub', Int.neg_zero, not_false_eq_true, not_true_eq_false, hza, hzb] <;> omega); done))) | refine ⟨Or.inl rfl, ?_⟩ | refine ⟨Or.inr rfl, ?_⟩ | (refine ⟨?_, ?_⟩; (focus ((try simp (disch := omega) only [hza, hzb, nI_mul, nI_add, nI_sub']); exact in_nI (by omega) (by omega)))))
        exact ⟨rfl, rfl, S, 2, rfl, by decide, hC, fin2⟩
      · by_cases c2 : j.toInt < 0
        · repeat (first | (refine xbr_f ?_ ?_; (focus ((simp (disch := omega) only [ix_lt, ix_le, ix_eq, ix_0, nI_clamp, nI_toInt, ng_T, nI_add, nI_mul, nI_sub', Int.neg_zero, not_false_eq_true, not_true_eq_false, hza, hzb] <;> omega); done))) | (refine xbr_t ?_ ?_; (focus ((simp (disch := omega) only [ix_lt, ix_le, ix_eq, ix_0, nI_clamp, nI_toInt, ng_T, nI_add, nI_mul, nI_sub', Int.neg_zero, not_false_eq_true, not_true_eq_false, hza, hzb] <;> omega); done))) | refine ⟨Or.inl rfl, ?_⟩ | refine ⟨Or.inr rfl, ?_⟩ | (refine ⟨?_, ?_⟩; (focus ((try simp (disch := omega) only [hza, hzb, nI_mul, nI_add, nI_sub']); exact in_nI (by omega) (by omega)))))
          exact ⟨rfl, rfl, S, 2, rfl, by decide, hC, fin2⟩
        · by_cases c3 : (s : Int) < i.toInt + n.toInt
          · repeat (first | (refine xbr_f ?_ ?_; (focus ((simp (disch := omega) only [ix_lt, ix_le, ix_eq, ix_0, nI_clamp, nI_toInt, ng_T, nI_add, nI_mul, nI_sub', Int.neg_zero, not_false_eq_true, not_true_eq_false, hza, hzb] <;> omega); done))) | (refine xbr_t ?_ ?_; (focus ((simp (disch := omega) only [ix_lt, ix_le, ix_eq, ix_0, nI_clamp, nI_toInt, ng_T, nI_add, nI_mul, nI_sub', Int.neg_zero, not_false_eq_true, not_true_eq_false, hza, hzb] <;> omega); done))) | refine ⟨Or.inl rfl, ?_⟩ | refine ⟨Or.inr rfl, ?_⟩ | (refine ⟨?_, ?_⟩; (focus ((try simp (disch := omega) only [hza, hzb, nI_mul, nI_add, nI_sub']); exact in_nI (by omega) (by omega)))))
            rw [nI_clamp (by omega), hza]
            (first | refine xbr_t (g1.mpr c3) ?_ | refine xbr_f (g1.mpr c3) ?_)
            exact ⟨rfl, rfl, S, 2, rfl, by decide, hC, fin2⟩
          · have n1 : ¬ 0 < lg_cmp (i.toInt64 + n.toInt64) (nI s).toInt64 := fun q => c3 (g1.mp q)
            have n2 : ¬ lg_cmp (j.toInt64 + n.toInt64) (nI s').toInt64 ≤ 0 := fun q => by
              have := g2.mp q
              omega
            repeat (first | (refine xbr_f ?_ ?_; (focus ((simp (disch := omega) only [ix_lt, ix_le, ix_eq, ix_0, nI_clamp, nI_toInt, ng_T, nI_add, nI_mul, nI_sub', Int.neg_zero, not_false_eq_true, not_true_eq_false, hza, hzb] <;> omega); done))) | (refine xbr_t ?_ ?_; (focus ((simp (disch := omega) only [ix_lt, ix_le, ix_eq, ix_0, nI_clamp, nI_toInt, ng_T, nI_add, nI_mul, nI_sub', Int.neg_zero, not_false_eq_true, not_true_eq_false, hza, hzb] <;> omega); done))) | refine ⟨Or.inl rfl, ?_⟩ | refine ⟨Or.inr rfl, ?_⟩ | (refine ⟨?_, ?_⟩; (focus ((try simp (disch := omega) only [hza, hzb, nI_mul, nI_add, nI_sub']); exact in_nI (by omega) (by omega)))))
            rw [nI_clamp (by omega), hza]
            (first | refine xbr_t n1 ?_ | refine xbr_f n1 ?_)
            repeat (first | (refine xbr_f ?_ ?_; (focus ((simp (disch := omega) only [ix_lt, ix_le, ix_eq, ix_0, nI_clamp, nI_toInt, ng_T, nI_add, nI_mul, nI_sub', Int.neg_zero, not_false_eq_true, not_true_eq_false, hza, hzb] <;> omega); done))) | (refine xbr_t ?_ ?_; (focus ((simp (disch := omega) only [ix_lt, ix_le, ix_eq, ix_0, nI_clamp, nI_toInt, ng_T, nI_add, nI_mul, nI_sub', Int.neg_zero, not_false_eq_true, not_true_eq_false, hza, hzb] <;> omega); done))) | refine ⟨Or.inl rfl, ?_⟩ | refine ⟨Or.inr rfl, ?_⟩ | (refine ⟨?_, ?_⟩; (focus ((try simp (disch := omega) only [hza, hzb, nI_mul, nI_add, nI_sub']); exact in_nI (by omega) (by omega)))))
            rw [nI_clamp (by omega), hzb]
            (first | refine xbr_t n2 ?_ | refine xbr_f n2 ?_)
            exact ⟨rfl, rfl, S, 2, rfl, by decide, hC, fin2⟩
    · obtain ⟨s, hs⟩ : ∃ s, S.rz a = s + 1 := ⟨S.rz a - 1, by omega⟩
      obtain ⟨s', hs'⟩ : ∃ s, S.rz b = s + 1 := ⟨S.rz b - 1, by omega⟩
      have hrw := hC.rw
      rw [hs, szI_s] at hza
      rw [hs', szI_s] at hzb
      have ts : (nI s).toInt = s := nI_toInt (by omega)
      have ts' : (nI s').toInt = s' := nI_toInt (by omega)
      have tp : (nI p).toInt = p := nI_toInt (by omega)
      have tq : (nI q).toInt = q := nI_toInt (by omega)
      have tm : (nI m).toInt = m := nI_toInt (by omega)
      have g1 := la_gt (nI p) (nI m) (nI s)
      have g2 := la_le (nI q) (nI m) (nI s')
      rw [ts, tp, tm] at g1
      rw [ts', tq, tm] at g2
      have n1 : ¬ 0 < lg_cmp ((nI p).toInt64 + (nI m).toInt64) (nI s).toInt64 := fun q => by
        have := g1.mp q
        omega
      have n2 : lg_cmp ((nI q).toInt64 + (nI m).toInt64) (nI s').toInt64 ≤ 0 := g2.mpr (by omega)
      repeat (first | (refine xbr_f ?_ ?_; (focus ((simp (disch := omega) only [ix_lt, ix_le, ix_eq, ix_0, nI_clamp, nI_toInt, ng_T, nI_add, nI_mul, nI_sub', Int.neg_zero, not_false_eq_true, not_true_eq_false, hza, hzb] <;> omega); done))) | (refine xbr_t ?_ ?_; (focus ((simp (disch := omega) only [ix_lt, ix_le, ix_eq, ix_0, nI_clamp, nI_toInt, ng_T, nI_add, nI_mul, nI_sub', Int.neg_zero, not_false_eq_true, not_true_eq_false, hza, hzb] <;> omega); done))) | refine ⟨Or.inl rfl, ?_⟩ | refine ⟨Or.inr rfl, ?_⟩ | (refine ⟨?_, ?_⟩; (focus ((try simp (disch := omega) only [hza, hzb, nI_mul, nI_add, nI_sub']); exact in_nI (by omega) (by omega)))))
      rw [nI_clamp (by omega), hza]
      (first | refine xbr_t n1 ?_ | refine xbr_f n1 ?_)
      repeat (first | (refine xbr_f ?_ ?_; (focus ((simp (disch := omega) only [ix_lt, ix_le, ix_eq, ix_0, nI_clamp, nI_toInt, ng_T, nI_add, nI_mul, nI_sub', Int.neg_zero, not_false_eq_true, not_true_eq_false, hza, hzb] <;> omega); done))) | (refine xbr_t ?_ ?_; (focus ((simp (disch := omega) only [ix_lt, ix_le, ix_eq, ix_0, nI_clamp, nI_toInt, ng_T, nI_add, nI_mul, nI_sub', Int.neg_zero, not_false_eq_true, not_true_eq_false, hza, hzb] <;> omega); done))) | refine ⟨Or.inl rfl, ?_⟩ | refine ⟨Or.inr rfl, ?_⟩ | (refine ⟨?_, ?_⟩; (focus ((try simp (disch := omega) only [hza, hzb, nI_mul, nI_add, nI_sub']); exact in_nI (by omega) (by omega)))))
      rw [nI_clamp (by omega), hzb]
      (first | refine xbr_t n2 ?_ | refine xbr_f n2 ?_)
      refine xlpW (M := mX11_copy) (cs := csX11_copy) (pc := 104) m (fun k => [some (.ref 27), some (.int (nI a)), some (.int (nI p)), some (.int (nI b)), some (.int (nI q)), some (.int (nI m)), some (.int (nI k))]) (fun k I' L' => L = L' ∧ ∃ f, I' = xrw I 33 f ∧ ∀ t, t < k → f t = I 30 (40 * a + p + t)) ?_ ?_ ⟨rfl, I 33, (xrw_self I 33).symm, fun t h => absurd h (by omega)⟩
      · rintro k hk I2 L2 ⟨rfl, f, rfl, hf⟩ ih
        refine xrun okX11_copy hhX11_copy [(104, [true, true, true, true, true, true, true])] 60 ?_
        repeat (first | (refine xbr_f ?_ ?_; (focus ((simp (disch := omega) only [ix_lt, ix_le, ix_eq, ix_0, nI_clamp, nI_toInt, ng_T, nI_add, nI_mul, nI_sub', Int.neg_zero, not_false_eq_true, not_true_eq_false, nI_add] <;> omega); done))) | (refine xbr_t ?_ ?_; (focus ((simp (disch := omega) only [ix_lt, ix_le, ix_eq, ix_0, nI_clamp, nI_toInt, ng_T, nI_add, nI_mul, nI_sub', Int.neg_zero, not_false_eq_true, not_true_eq_false, nI_add] <;> omega); done))) | refine ⟨Or.inl rfl, ?_⟩ | refine ⟨Or.inr rfl, ?_⟩ | (refine ⟨?_, ?_⟩; (focus ((try simp (disch := omega) only [nI_add, nI_mul, nI_add, nI_sub']); exact in_nI (by omega) (by omega)))))
        simp (disch := omega) only [nI_mul, nI_add, nI_clamp, nI_sub']
        rw [xrw_up]
        refine xgo_eq (ih _ _ ⟨rfl, _, rfl, fun t ht => ?_⟩) ?_ rfl rfl
        · by_cases e : t = k
          · rw [if_pos e, e]
            rfl
          · rw [if_neg e]
            exact hf t (by omega)
        · ((repeat' (first | (with_reducible rfl) | exact xv_nil | refine xv_cons ?_ ?_ | refine xv_i ?_ | refine xv_l ?_)) <;> (simp (disch := omega) only [↓reduceIte, Bool.false_eq_true, Nat.one_mul, Nat.zero_mul, Nat.or_zero, Nat.add_zero, Nat.zero_add, Bool.toNat_true, Bool.toNat_false, shl_n, shr_n, fa_and, fa_or, nx_xor, nI_add, nI_mul, nI_sub', and_1, and_7, and_3', and_15]))
      · rintro I2 L2 ⟨rfl, f, rfl, hf⟩
        refine xrun okX11_copy hhX11_copy [(141, [true, true, true, true, true, true, true])] 60 ?_
        repeat (first | (refine xbr_f ?_ ?_; (focus ((simp (disch := omega) only [ix_lt, ix_le, ix_eq, ix_0, nI_clamp, nI_toInt, ng_T, nI_add, nI_mul, nI_sub', Int.neg_zero, not_false_eq_true, not_true_eq_false, nI_add] <;> omega); done))) | (refine xbr_t ?_ ?_; (focus ((simp (disch := omega) only [ix_lt, ix_le, ix_eq, ix_0, nI_clamp, nI_toInt, ng_T, nI_add, nI_mul, nI_sub', Int.neg_zero, not_false_eq_true, not_true_eq_false, nI_add] <;> omega); done))) | refine ⟨Or.inl rfl, ?_⟩ | refine ⟨Or.inr rfl, ?_⟩ | (refine ⟨?_, ?_⟩; (focus ((try simp (disch := omega) only [nI_add, nI_mul, nI_add, nI_sub']); exact in_nI (by omega) (by omega)))))
        refine xlpW (M := mX11_copy) (cs := csX11_copy) (pc := 141) m (fun k => [some (.ref 27), some (.int (nI a)), some (.int (nI p)), some (.int (nI b)), some (.int (nI q)), some (.int (nI m)), some (.int (nI k))]) (fun k I' L' => L = L' ∧ ∃ g, I' = xrw (xrw I 33 f) 30 g ∧ (∀ t, t < k → g (40 * b + q + t) = f t) ∧ (∀ t, (t < 40 * b + q ∨ 40 * b + q + k ≤ t) → g t = I 30 t)) ?_ ?_ ⟨rfl, I 30, (xrw_self (xrw I 33 f) 30).symm, fun t h => absurd h (by omega), fun _ _ => rfl⟩
        · rintro k hk I2 L2 ⟨rfl, g, rfl, hg1, hg2⟩ ih
          refine xrun okX11_copy hhX11_copy [(141, [true, true, true, true, true, true, true])] 60 ?_
          repeat (first | (refine xbr_f ?_ ?_; (focus ((simp (disch := omega) only [ix_lt, ix_le, ix_eq, ix_0, nI_clamp, nI_toInt, ng_T, nI_add, nI_mul, nI_sub', Int.neg_zero, not_false_eq_true, not_true_eq_false, nI_add] <;> omega); done))) | (refine xbr_t ?_ ?_; (focus ((simp (disch := omega) only [ix_lt, ix_le, ix_eq, ix_0, nI_clamp, nI_toInt, ng_T, nI_add, nI_mul, nI_sub', Int.neg_zero, not_false_eq_true, not_true_eq_false, nI_add] <;> omega); done))) | refine ⟨Or.inl rfl, ?_⟩ | refine ⟨Or.inr rfl, ?_⟩ | (refine ⟨?_, ?_⟩; (focus ((try simp (disch := omega) only [nI_add, nI_mul, nI_add, nI_sub']); exact in_nI (by omega) (by omega)))))
          simp (disch := omega) only [nI_mul, nI_add, nI_clamp, nI_sub']
          rw [xrw_up]
          refine xgo_eq (ih _ _ ⟨rfl, _, rfl, fun t ht => ?_, fun t ht => ?_⟩) ?_ rfl rfl
          · by_cases e : t = k
            · rw [if_pos (by omega), e]
              rfl
            · rw [if_neg (by omega)]
              exact hg1 t (by omega)
          · rw [if_neg (by omega)]
            exact hg2 t (by omega)
          · ((repeat' (first | (with_reducible rfl) | exact xv_nil | refine xv_cons ?_ ?_ | refine xv_i ?_ | refine xv_l ?_)) <;> (simp (disch := omega) only [↓reduceIte, Bool.false_eq_true, Nat.one_mul, Nat.zero_mul, Nat.or_zero, Nat.add_zero, Nat.zero_add, Bool.toNat_true, Bool.toNat_false, shl_n, shr_n, fa_and, fa_or, nx_xor, nI_add, nI_mul, nI_sub', and_1, and_7, and_3', and_15]))
        · rintro I2 L2 ⟨rfl, g, rfl, hg1, hg2⟩
          refine xrun okX11_copy hhX11_copy [] 60 ?_
          repeat (first | (refine xbr_f ?_ ?_; (focus ((simp (disch := omega) only [ix_lt, ix_le, ix_eq, ix_0, nI_clamp, nI_toInt, ng_T, nI_add, nI_mul, nI_sub', Int.neg_zero, not_false_eq_true, not_true_eq_false, nI_add] <;> omega); done))) | (refine xbr_t ?_ ?_; (focus ((simp (disch := omega) only [ix_lt, ix_le, ix_eq, ix_0, nI_clamp, nI_toInt, ng_T, nI_add, nI_mul, nI_sub', Int.neg_zero, not_false_eq_true, not_true_eq_false, nI_add] <;> omega); done))) | refine ⟨Or.inl rfl, ?_⟩ | refine ⟨Or.inr rfl, ?_⟩ | (refine ⟨?_, ?_⟩; (focus ((try simp (disch := omega) only [nI_add, nI_mul, nI_add, nI_sub']); exact in_nI (by omega) (by omega)))))
          have hC1 : Ref S (xrw I 33 f) L := Ref_s hC (scr_W (by omega) _ _ _)
          have hC2 := Ref_R hC1 (a := I 29) (b := g) (z := S.rz) (v := va_cpy S.rv S.rv (a * 40 + p) (b * 40 + q) m) hC.ok.rz (rw_cpy (b := I 30) hrw hC.ok.rz ha h2 h3 hb (fun k hk => by rw [hg1 k hk, hf k hk]) hg2)
          rw [show xrw (xrw I 33 f) 29 (I 29) = xrw I 33 f from xrw_self (xrw I 33 f) 29] at hC2
          exact hQ _ _ (frM_t (frM_W (by decide) _ _ _) (frM_W (by decide) _ _ _)) hC2
