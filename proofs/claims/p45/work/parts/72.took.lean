/-! TOOK: memories fit what it took -/
theorem rowR_v {S S' : ST} {j m : Nat} {o : Int32} (h : rowR S (nI j) (nI m) o S') (hj : j < 6) (hm : m ≤ 40) : o = nI m ∧ S' = S.wR (fun t => if t = j then m + 1 else S.rz t) (xfil S.rv (j * 40) m (nI 0)) := by
  rcases h with ⟨n, -⟩ | ⟨_, n, -⟩ | ⟨j', m', e1, h1, e2, h2, h3⟩
  · exact absurd ⟨ibB_n hj (by decide), by rw [nI_toInt (by omega)]; omega⟩ n
  · rw [nI_toInt (by omega)] at n
    omega
  · obtain rfl := nI_j (by omega) (by omega) e1
    obtain rfl := nI_j (by omega) (by omega) e2
    exact h3
theorem layR_v {S S' : ST} {j m : Nat} {v o : Int32} (h : layR S (nI j) (nI m) v o S') (hj : j < 6) (hz : S.rz j ≤ 41) (hm : m + 1 < S.rz j) : o = nI 1 ∧ S' = (S.wR S.rz (fun t => if t = j * 40 + m then v else S.rv t)).wT (S.rv (j * 40 + m)) := by
  rcases h with ⟨n, -⟩ | ⟨j', e, h1, ⟨h2, -⟩ | ⟨_, h2, -⟩ | ⟨m', e2, h2, h3⟩⟩
  · rw [ibB_n hj (by decide)] at n
    cases n
  · obtain rfl := nI_j (by omega) (by omega) e
    omega
  · obtain rfl := nI_j (by omega) (by omega) e
    rw [ibB_n (by omega) (by omega)] at h2
    cases h2
  · obtain rfl := nI_j (by omega) (by omega) e
    obtain rfl := nI_j (by omega) (by omega) e2
    exact h3
theorem duelR_v {S S' : ST} {a m : Nat} {o : Int32} (h : duelR S (nI a) (nI m) o S') (hd : S.d.ok) (ha : a < S.d.nL) (hm : m < 3) : o = nI (tuN (wrN S.d S.D.X) m (mkN S.D.X a)) ∧ S' = S := by
  have h5 := hd.l5
  rcases h with ⟨n, -⟩ | ⟨a', m', e1, h1, e2, h2, h3⟩
  · exact absurd ⟨ibB_n ha (by omega), ibB_n hm (by decide)⟩ n
  · obtain rfl := nI_j (by omega) (by omega) e1
    obtain rfl := nI_j (by omega) (by omega) e2
    exact h3
theorem memR_v {S S' : ST} {a j n : Nat} {o : Int32} (h : memR S (nI a) (nI j) o S') (hd : S.d.ok) (ha : a < S.d.nA) (hj : j < 6) (hw : wpS S j = 0) (hz : S.rz j = 2 * n + 1) : o = nI (meB S a j n) ∧ S' = S := by
  have h5 := hd.a4
  rcases h with ⟨q, -⟩ | ⟨a', j', e1, h1, e2, h2, ⟨h3, -⟩ | ⟨n', _, h4, h5⟩⟩
  · exact absurd ⟨ibB_n ha (by omega), ibB_n hj (by decide)⟩ q
  · obtain rfl := nI_j (by omega) (by omega) e2
    omega
  · obtain rfl := nI_j (by omega) (by omega) e1
    obtain rfl := nI_j (by omega) (by omega) e2
    obtain rfl : n' = n := by omega
    exact h5
theorem kinR_v {S S' : ST} {a j n : Nat} {o : Int32} (h : kinR S (nI a) (nI j) o S') (hd : S.d.ok) (ha : a < S.d.nA) (hj : j < 6) (hw : wpS S j = 0) (hz : S.rz j = 2 * n + 1) : o = nI (bsN (fun k => ftB S.rv j k (meN S.D.X a) n) 6) ∧ S' = S := by
  have h5 := hd.a4
  rcases h with ⟨q, -⟩ | ⟨a', j', e1, h1, e2, h2, ⟨h3, -⟩ | ⟨n', _, h4, h5⟩⟩
  · exact absurd ⟨ibB_n ha (by omega), ibB_n hj (by decide)⟩ q
  · obtain rfl := nI_j (by omega) (by omega) e2
    omega
  · obtain rfl := nI_j (by omega) (by omega) e1
    obtain rfl := nI_j (by omega) (by omega) e2
    obtain rfl : n' = n := by omega
    exact h5
theorem nexR_v {S S' : ST} {a j n : Nat} {o : Int32} (h : nexR S (nI a) (nI j) o S') (hd : S.d.ok) (ha : a < S.d.nA) (hj : j < 6) (hw : wpS S j = 0) (hz : S.rz j = 2 * n + 1) (h0 : 0 < meB S a j n) : o = nI (tmN (kdN S.d a) (meB S a j n) 15) ∧ S' = S.wT (nI (gpN (kdN S.d a) (meB S a j n) (tmN (kdN S.d a) (meB S a j n) 15))) := by
  have h5 := hd.a4
  rcases h with ⟨q, -⟩ | ⟨a', j', e1, h1, e2, h2, ⟨h3, -⟩ | ⟨n', _, h4, ⟨h5, -⟩ | ⟨_, h5⟩⟩⟩
  · exact absurd ⟨ibB_n ha (by omega), ibB_n hj (by decide)⟩ q
  · obtain rfl := nI_j (by omega) (by omega) e2
    omega
  · obtain rfl := nI_j (by omega) (by omega) e1
    obtain rfl := nI_j (by omega) (by omega) e2
    obtain rfl : n' = n := by omega
    omega
  · obtain rfl := nI_j (by omega) (by omega) e1
    obtain rfl := nI_j (by omega) (by omega) e2
    obtain rfl : n' = n := by omega
    exact h5
theorem PR_ext {v w : Nat → Int32} {r k x : Nat} {f : Nat → Nat} {b : Nat → Bool} {y : Bool} (h : PR v r k f b) (hx : x < 16) (hw : ∀ t, t ≠ 40 * r + 2 * k → t ≠ 40 * r + (2 * k + 1) → w t = v t) (h1 : w (40 * r + 2 * k) = nI x) (h2 : w (40 * r + (2 * k + 1)) = bI y) : PR w r (k + 1) (fun j => if j = k then x else f j) (fun j => if j = k then y else b j) := by
  intro j hj
  show w (40 * r + 2 * j) = nI (if j = k then x else f j) ∧ w (40 * r + (2 * j + 1)) = bI (if j = k then y else b j) ∧ (if j = k then x else f j) < 16
  by_cases e : j = k
  · subst e
    rw [if_pos rfl, if_pos rfl]
    exact ⟨h1, h2, hx⟩
  · rw [if_neg e, if_neg e, hw _ (by omega) (by omega), hw _ (by omega) (by omega)]
    exact h j (by omega)
theorem PR_cong {v w : Nat → Int32} {r n : Nat} {f : Nat → Nat} {b : Nat → Bool} (h : PR v r n f b) (hw : ∀ t, 40 * r ≤ t → t < 40 * r + 2 * n → w t = v t) : PR w r n f b := fun j hj => by
  rw [hw _ (by omega) (by omega), hw _ (by omega) (by omega)]
  exact h j hj
theorem copyR_v {S S' : ST} {a b p q m : Nat} {o : Int32} (h : copyR S (nI a) (nI p) (nI b) (nI q) (nI m) o S') (ha : a < 6) (hb : b < 6) (h1 : 0 < S.rz a) (h2 : 0 < S.rz b) (h3 : p + m ≤ S.rz a - 1) (h4 : q + m ≤ S.rz b - 1) (hza : S.rz a ≤ 41) (hzb : S.rz b ≤ 41) : o = nI 1 ∧ S' = S.wR S.rz (va_cpy S.rv S.rv (a * 40 + p) (b * 40 + q) m) := by
  have t1 := nI_toInt (show m < 2 ^ 31 by omega)
  have t2 := nI_toInt (show p < 2 ^ 31 by omega)
  have t3 := nI_toInt (show q < 2 ^ 31 by omega)
  rcases h with ⟨n, -⟩ | ⟨a', b', e1, g1, e2, g2, ⟨n, -⟩ | ⟨_, n, -⟩ | ⟨_, _, _, n, -⟩ | ⟨p', q', m', e3, e4, e5, _, _, _, _, g5⟩⟩
  · exact absurd ⟨ibB_n ha (by decide), ibB_n hb (by decide)⟩ n
  · omega
  · obtain rfl := nI_j (by omega) (by omega) e1
    obtain rfl := nI_j (by omega) (by omega) e2
    omega
  · obtain rfl := nI_j (by omega) (by omega) e1
    obtain rfl := nI_j (by omega) (by omega) e2
    refine absurd ?_ n
    rw [t1, t2, t3]
    refine ⟨?_, ?_, ?_, ?_⟩ <;> omega
  · obtain rfl := nI_j (by omega) (by omega) e1
    obtain rfl := nI_j (by omega) (by omega) e2
    obtain rfl := nI_j (by omega) (by omega) e3
    obtain rfl := nI_j (by omega) (by omega) e4
    obtain rfl := nI_j (by omega) (by omega) e5
    exact g5
def csL_took : xCs := [(mL_cell, sL_cell), (mX10_row, sX10_row), (mX10_lay, sX10_lay), (mX10_who, sX10_who), (mX10_memories, sX10_memories), (mX10_kinds, sX10_kinds), (mX10_next, sX10_next), (mX10_asked, sX10_asked), (mL_of, sL_of), (mL_size, sL_size), (mX10_copy, sX10_copy), (mX10_duel, sX10_duel), (mL_at, sL_at)]
theorem okL_took : xOkM mL_took csL_took := ⟨dL_took, by decide +kernel, by decide +kernel, ⟨wdL_21, wdL_21, wdL_179, wdL_21, wdL_182, wdL_145, wdL_182, wdL_185, wdL_188, wdL_191, wdL_81, wdL_136, wdL_194, wdL_136, wdL_159, wdL_159, wdL_195, wdL_179, wdL_196, wdL_182, wdL_182, wdL_185, wdL_182, wdL_185, wdL_159, wdL_159, wdL_159, wdL_159, wdL_200, wdL_200, wdL_200, wdL_140, wdL_145, wdL_159, trivial⟩⟩
theorem hhL_took : ∀ q ∈ csL_took, xHd q.1 := xall1 hL_cell (xall1 hX10_row (xall1 hX10_lay (xall1 hX10_who (xall1 hX10_memories (xall1 hX10_kinds (xall1 hX10_next (xall1 hX10_asked (xall1 hL_of (xall1 hL_size (xall1 hX10_copy (xall1 hX10_duel (xall1 hL_at (xall0)))))))))))))
theorem kkL_took : ∀ q ∈ csL_took, ∀ l, xCon l q.1 q.2 := xall1 kL_cell (xall1 kX10_row (xall1 kX10_lay (xall1 kX10_who (xall1 kX10_memories (xall1 kX10_kinds (xall1 kX10_next (xall1 kX10_asked (xall1 kL_of (xall1 kL_size (xall1 kX10_copy (xall1 kX10_duel (xall1 kL_at (xall0)))))))))))))
def sL_took : xSpec := xRg7 fun as I L Q => ∃ (S : ST), as = [.ref 1, .ref 0, .ref 27] ∧ Lq S I L ∧ wok S I ∧ 0 < S.d.nA ∧ 0 < S.d.nL ∧ ∀ S' I' L', S'.d = S.d → S'.D = S.D → S'.kp = S.kp → frC I L I' L' → Lq S' I' L' → Q (some (.int (nI 1))) I' L'
set_option maxHeartbeats 3000000 in
set_option maxRecDepth 100000 in
theorem kL_took : ∀ l, xCon l mL_took sL_took := by
  refine xcon_of okL_took hL_took rfl hhL_took kkL_took ?_
  rintro as n0 I L P Q ⟨hn9, rfl, S, rfl, hC, hw, hA, hL, hQ⟩
  obtain ⟨e9, rfl⟩ := xe7 hn9
  refine ⟨Nat.le_of_ble_eq_true rfl, ?_⟩
  have hd : S.d.ok := hC.ok.d
  have h4 : S.d.nA ≤ 4 := hd.a4
  have h5 : S.d.nL ≤ 5 := hd.l5
  have W0 : ∀ {I' L'}, frC I L I' L' → I' 27 (nI 0).toNatClampNeg = nI S.d.nA := fun f => by rw [f27 f]; exact hw.1
  have W1 : ∀ {I' L'}, frC I L I' L' → I' 27 (nI 1).toNatClampNeg = nI S.d.nL := fun f => by rw [f27 f, nI_clamp (by decide)]; exact hw.2
  have vp0 : vp_in (nI 0) 64 := in_nI (by omega) (by decide)
  have vp1 : vp_in (nI 1) 64 := in_nI (by omega) (by decide)
  have nzA : ¬ nI S.d.nA = 0 := by
    have e : nI S.d.nA = 0 ↔ S.d.nA = 0 := nI_eq (b := 0) (by omega) (by decide)
    rw [e]; omega
  refine xrun okL_took hhL_took [(50, [true, true, true, true, true, true, true, false, false, false, false, false, false])] 60 ?_
  refine ⟨rfl, rfl, 15, rfl, by decide, fun x hx => ?_⟩
  refine ⟨vp0, ?_⟩
  rw [W0 (frC_0 _ _)]
  refine ⟨nzA, ?_⟩
  rw [pk_rem hx hA (by omega)]
  have hi : x % S.d.nA < S.d.nA := Nat.mod_lt _ hA
  generalize x % S.d.nA = i at hi
  refine ⟨rfl, rfl, 15, rfl, by decide, fun y hy => ?_⟩
  refine ⟨by decide, ?_⟩
  rw [shr_n (k := 2) hy (by decide), pk_rem (by omega) (by decide) (by decide)]
  have hn : y / 2 ^ 2 % 9 < 9 := Nat.mod_lt _ (by decide)
  generalize y / 2 ^ 2 % 9 = n at hn
  have hk6 := hd.k6 i
  have hme := meN_16 S.D.X i
  -- by turns
  have h506 : ∀ z v I' L', Lq (S.wR z v) I' L' → frC I L I' L' → xGo mL_took csL_took 506 Q [some (.ref 1), some (.ref 0), some (.ref 27), some (.int (nI i)), some (.int (nI n)), some (.int (nI 1)), none, none, none, none, none, none, none] [] 0 (e9 + 27) I' L' xP0 := by
    intro z v I1 L1 hC1 hf1
    refine xrun okL_took hhL_took [(509, [true, true, true, false, false, true, false, false, false, false, true, false, false])] 60 ?_
    refine xgo_eq (xlpW (M := mL_took) (cs := csL_took) (pc := 509) S.d.nL (fun l => [some (.ref 1), some (.ref 0), some (.ref 27), none, none, some (.int (nI 1)), none, none, none, none, some (.int (nI l)), none, none]) (fun l I' L' => Lq (S.wR z v) I' L' ∧ frC I L I' L') ?_ ?_ ⟨hC1, hf1⟩) rfl rfl rfl
    · rintro l hl I2 L2 ⟨⟨t2, hC2⟩, hf2⟩ ih
      have hmk := mkN_16 S.D.X l
      have o0 : olI (S.wR z v).d (S.wR z v).D.X l 0 = nI (mkN S.D.X l) := rfl
      have h16 := wo_16 hd S.D.X l
      have b1 := tu_le (f := wrN S.d S.D.X) (wr_le S.D.X) 1 (mkN S.D.X l)
      have b2 := tu_le (f := wrN S.d S.D.X) (wr_le S.D.X) 2 (mkN S.D.X l)
      have b0 : tuN (wrN S.d S.D.X) 0 (mkN S.D.X l) = pcf 32 (woN S.d S.D.X l) := if_pos hmk
      refine xrun okL_took hhL_took [(509, [true, true, true, false, false, true, false, false, false, false, true, false, false])] 80 ?_
      refine ⟨vp1, ?_⟩
      rw [W1 hf2]
      (first | (refine xbr_f ?_ ?_; (focus ((simp (disch := omega) only [ix_lt, ix_le, ix_eq, ix_0, nI_clamp, nI_toInt, ng_T, nI_add, nI_mul, nI_sub', Int.neg_zero, not_false_eq_true, not_true_eq_false] <;> omega); done))) | (refine xbr_t ?_ ?_; (focus ((simp (disch := omega) only [ix_lt, ix_le, ix_eq, ix_0, nI_clamp, nI_toInt, ng_T, nI_add, nI_mul, nI_sub', Int.neg_zero, not_false_eq_true, not_true_eq_false] <;> omega); done))) | refine ⟨Or.inl rfl, ?_⟩ | refine ⟨Or.inr rfl, ?_⟩ | (refine ⟨?_, ?_⟩; (focus (exact in_nI (by omega) (by omega)))))
      (first | (refine xbr_f ?_ ?_; (focus ((simp (disch := omega) only [ix_lt, ix_le, ix_eq, ix_0, nI_clamp, nI_toInt, ng_T, nI_add, nI_mul, nI_sub', Int.neg_zero, not_false_eq_true, not_true_eq_false] <;> omega); done))) | (refine xbr_t ?_ ?_; (focus ((simp (disch := omega) only [ix_lt, ix_le, ix_eq, ix_0, nI_clamp, nI_toInt, ng_T, nI_add, nI_mul, nI_sub', Int.neg_zero, not_false_eq_true, not_true_eq_false] <;> omega); done))) | refine ⟨Or.inl rfl, ?_⟩ | refine ⟨Or.inr rfl, ?_⟩ | (refine ⟨?_, ?_⟩; (focus (exact in_nI (by omega) (by omega)))))
      refine ⟨rfl, rfl, (S.wR z v).wT t2, _, _, rfl, hC2, fun o S3 I3 L3 hr3 hf3 hC3 => ?_⟩
      have hz9 := duelR_v hr3 hd hl (by decide)
      simp only [wT_d, wT_D, wT_kp, wT_rz, wT_rv, wR_d, wR_D, wR_kp, wR_rz, wR_rv, wC_d, wC_D, wC_kp, wC_rz, wC_rv, wD_d, wD_D, wD_kp, wD_rz, wD_rv, meB] at hz9
      obtain ⟨q1, q2⟩ : o = nI (tuN (wrN S.d S.D.X) 1 (mkN S.D.X l)) ∧ S3 = (S.wR z v).wT t2 := hz9
      subst q1
      subst q2
      refine ⟨rfl, rfl, (S.wR z v).wT t2, _, _, rfl, hC3, fun o S4 I4 L4 hr4 hf4 hC4 => ?_⟩
      have hz9 := duelR_v hr4 hd hl (by decide)
      simp only [wT_d, wT_D, wT_kp, wT_rz, wT_rv, wR_d, wR_D, wR_kp, wR_rz, wR_rv, wC_d, wC_D, wC_kp, wC_rz, wC_rv, wD_d, wD_D, wD_kp, wD_rz, wD_rv, meB] at hz9
      obtain ⟨q1, q2⟩ : o = nI (tuN (wrN S.d S.D.X) 2 (mkN S.D.X l)) ∧ S4 = (S.wR z v).wT t2 := hz9
      subst q1
      subst q2
      refine ⟨rfl, rfl, (S.wR z v).wT t2, _, _, rfl, hC4, fun o S5 I5 L5 hr5 hf5 hC5 => ?_⟩
      have hz9 := duelR_v hr5 hd hl (by decide)
      simp only [wT_d, wT_D, wT_kp, wT_rz, wT_rv, wR_d, wR_D, wR_kp, wR_rz, wR_rv, wC_d, wC_D, wC_kp, wC_rz, wC_rv, wD_d, wD_D, wD_kp, wD_rz, wD_rv, meB] at hz9
      obtain ⟨q1, q2⟩ : o = nI (tuN (wrN S.d S.D.X) 0 (mkN S.D.X l)) ∧ S5 = (S.wR z v).wT t2 := hz9
      subst q1
      subst q2
      refine ⟨rfl, rfl, S.wR z v, l, 0, rfl, hl, by decide, ⟨t2, hC5⟩, fun I6 L6 hf6 hC6 => ?_⟩
      rw [o0]
      obtain ⟨t6, hC6⟩ := hC6
      refine ⟨rfl, rfl, (S.wR z v).wT t6, _, rfl, hC6, fun o S7 I7 L7 hr7 hf7 hC7 => ?_⟩
      have hz9 := whoR_v hr7 hmk
      simp only [wT_d, wT_D, wT_kp, wT_rz, wT_rv, wR_d, wR_D, wR_kp, wR_rz, wR_rv, wC_d, wC_D, wC_kp, wC_rz, wC_rv, wD_d, wD_D, wD_kp, wD_rz, wD_rv, meB] at hz9
      obtain ⟨q1, q2⟩ : o = nI (woN S.d S.D.X l) ∧ S7 = (S.wR z v).wT t6 := hz9
      subst q1
      subst q2
      have hf27 := frC_t hf2 (frC_t hf3 (frC_t hf4 (frC_t hf5 (frC_t hf6 hf7))))
      refine ⟨rfl, rfl, woN S.d S.D.X l, rfl, by omega, ?_⟩
      rw [cn_pc16 _ h16, b0]
      refine xbr_t rfl ?_
      (first | (refine xbr_f ?_ ?_; (focus ((simp (disch := omega) only [ix_lt, ix_le, ix_eq, ix_0, nI_clamp, nI_toInt, ng_T, nI_add, nI_mul, nI_sub', Int.neg_zero, not_false_eq_true, not_true_eq_false] <;> omega); done))) | (refine xbr_t ?_ ?_; (focus ((simp (disch := omega) only [ix_lt, ix_le, ix_eq, ix_0, nI_clamp, nI_toInt, ng_T, nI_add, nI_mul, nI_sub', Int.neg_zero, not_false_eq_true, not_true_eq_false] <;> omega); done))) | refine ⟨Or.inl rfl, ?_⟩ | refine ⟨Or.inr rfl, ?_⟩ | (refine ⟨?_, ?_⟩; (focus (exact in_nI (by omega) (by omega)))))
      refine ⟨vp0, ?_⟩
      rw [W0 hf27]
      (first | (refine xbr_f ?_ ?_; (focus ((simp (disch := omega) only [ix_lt, ix_le, ix_eq, ix_0, nI_clamp, nI_toInt, ng_T, nI_add, nI_mul, nI_sub', Int.neg_zero, not_false_eq_true, not_true_eq_false] <;> omega); done))) | (refine xbr_t ?_ ?_; (focus ((simp (disch := omega) only [ix_lt, ix_le, ix_eq, ix_0, nI_clamp, nI_toInt, ng_T, nI_add, nI_mul, nI_sub', Int.neg_zero, not_false_eq_true, not_true_eq_false] <;> omega); done))) | refine ⟨Or.inl rfl, ?_⟩ | refine ⟨Or.inr rfl, ?_⟩ | (refine ⟨?_, ?_⟩; (focus (exact in_nI (by omega) (by omega)))))
      (first | (refine xbr_f ?_ ?_; (focus ((simp (disch := omega) only [ix_lt, ix_le, ix_eq, ix_0, nI_clamp, nI_toInt, ng_T, nI_add, nI_mul, nI_sub', Int.neg_zero, not_false_eq_true, not_true_eq_false] <;> omega); done))) | (refine xbr_t ?_ ?_; (focus ((simp (disch := omega) only [ix_lt, ix_le, ix_eq, ix_0, nI_clamp, nI_toInt, ng_T, nI_add, nI_mul, nI_sub', Int.neg_zero, not_false_eq_true, not_true_eq_false] <;> omega); done))) | refine ⟨Or.inl rfl, ?_⟩ | refine ⟨Or.inr rfl, ?_⟩ | (refine ⟨?_, ?_⟩; (focus (exact in_nI (by omega) (by omega)))))
      refine ⟨vp0, ?_⟩
      rw [W0 hf27]
      (first | (refine xbr_f ?_ ?_; (focus ((simp (disch := omega) only [ix_lt, ix_le, ix_eq, ix_0, nI_clamp, nI_toInt, ng_T, nI_add, nI_mul, nI_sub', Int.neg_zero, not_false_eq_true, not_true_eq_false] <;> omega); done))) | (refine xbr_t ?_ ?_; (focus ((simp (disch := omega) only [ix_lt, ix_le, ix_eq, ix_0, nI_clamp, nI_toInt, ng_T, nI_add, nI_mul, nI_sub', Int.neg_zero, not_false_eq_true, not_true_eq_false] <;> omega); done))) | refine ⟨Or.inl rfl, ?_⟩ | refine ⟨Or.inr rfl, ?_⟩ | (refine ⟨?_, ?_⟩; (focus (exact in_nI (by omega) (by omega)))))
      refine xgo_eq (ih _ _ ⟨⟨t6, hC7⟩, hf27⟩) ?_ rfl rfl
      ((repeat' (first | (with_reducible rfl) | exact xv_nil | refine xv_cons ?_ ?_ | refine xv_i ?_ | refine xv_l ?_)) <;> (simp (disch := omega) only [↓reduceIte, Bool.false_eq_true, Nat.one_mul, Nat.zero_mul, Nat.or_zero, Nat.add_zero, Nat.zero_add, Bool.toNat_true, Bool.toNat_false, shl_n, shr_n, fa_and, fa_or, nx_xor, nI_add, nI_mul, nI_sub', and_1, and_7, and_3', and_15]))
    · rintro I2 L2 ⟨hC2, hf2⟩
      refine xrun okL_took hhL_took [] 60 ?_
      refine ⟨vp1, ?_⟩
      rw [W1 hf2]
      (first | (refine xbr_f ?_ ?_; (focus ((simp (disch := omega) only [ix_lt, ix_le, ix_eq, ix_0, nI_clamp, nI_toInt, ng_T, nI_add, nI_mul, nI_sub', Int.neg_zero, not_false_eq_true, not_true_eq_false] <;> omega); done))) | (refine xbr_t ?_ ?_; (focus ((simp (disch := omega) only [ix_lt, ix_le, ix_eq, ix_0, nI_clamp, nI_toInt, ng_T, nI_add, nI_mul, nI_sub', Int.neg_zero, not_false_eq_true, not_true_eq_false] <;> omega); done))) | refine ⟨Or.inl rfl, ?_⟩ | refine ⟨Or.inr rfl, ?_⟩ | (refine ⟨?_, ?_⟩; (focus (exact in_nI (by omega) (by omega)))))
      refine ⟨Or.inr rfl, ?_⟩
      exact hQ (S.wR z v) I2 L2 rfl rfl rfl hf2 hC2
  -- one pair more
  have h297 : ∀ v f b M x I' L' a7, PR v 0 n f b → M = bsN (fun m => ftB v 0 (kdN S.d i) m n) 16 → x < 16 → Lq (S.wR (fun t => if t = 0 then 2 * n + 1 else S.rz t) v) I' L' → frC I L I' L' → xGo mL_took csL_took 297 Q [some (.ref 1), some (.ref 0), some (.ref 27), some (.int (nI i)), some (.int (nI n)), some (.int (nI 1)), some (.int (nI M)), a7, some (.int (nI x)), some (.int (nI (gpN (kdN S.d i) M x))), none, none, none] [] 0 (e9 + 27) I' L' xP0 := by
    rintro v f b M x I1 L1 a7 hp hM hx ⟨t1, hC1⟩ hf1
    have hM16 : M < 2 ^ 16 := by rw [hM]; exact bsN_lt _ _
    by_cases hn8 : n < 8
    · -- both pairs
      have two : ∀ (y : Bool) (w : Nat → Int32), PR w 1 n f b → w (40 * 1 + 2 * n) = nI x → w (40 * 1 + (2 * n + 1)) = bI y → PR w 1 (n + 1) (fun j => if j = n then x else f j) (fun j => if j = n then y else b j) ∧ ∀ m, m < 16 → ftB w 1 (kdN S.d i) m (n + 1) = (tbB M m && (wtN (kdN S.d i) m x == y)) := fun y w hw g1 g2 => by
        refine ⟨PR_ext hw hx (fun _ _ _ => rfl) g1 g2, fun m hm => ?_⟩
        rw [ft_s hp hw g1 g2 hx, hM, tb_bs hm]
      -- the answers in rows of one more
      have mem : ∀ (y : Bool) (w : Nat → Int32) (t : Int32) (S' : ST) (o : Int32), PR w 1 n f b → w (40 * 1 + 2 * n) = nI x → w (40 * 1 + (2 * n + 1)) = bI y → memR ((S.wR (fun t => if t = 1 then 2 * n + 2 + 1 else if t = 0 then 2 * n + 1 else S.rz t) w).wT t) (nI i) (nI 1) o S' → o = nI (bsN (fun m => ftB w 1 (kdN S.d i) m (n + 1)) 16) ∧ S' = (S.wR (fun t => if t = 1 then 2 * n + 2 + 1 else if t = 0 then 2 * n + 1 else S.rz t) w).wT t := fun y w t S' o hw g1 g2 hr => by
        obtain ⟨p1, _⟩ := two y w hw g1 g2
        exact memR_v (S := (S.wR (fun t => if t = 1 then 2 * n + 2 + 1 else if t = 0 then 2 * n + 1 else S.rz t) w).wT t) (n := n + 1) hr hd hi (by decide) (wp_ok p1 (by omega)) (by show 2 * n + 2 + 1 = 2 * (n + 1) + 1; omega)
      refine xrun okL_took hhL_took [(506, [true, true, true, true, true, true, false, false, false, false, false, false, false])] 160 ?_
      (first | (refine xbr_f ?_ ?_; (focus ((simp (disch := omega) only [ix_lt, ix_le, ix_eq, ix_0, nI_clamp, nI_toInt, ng_T, nI_add, nI_mul, nI_sub', Int.neg_zero, not_false_eq_true, not_true_eq_false] <;> omega); done))) | (refine xbr_t ?_ ?_; (focus ((simp (disch := omega) only [ix_lt, ix_le, ix_eq, ix_0, nI_clamp, nI_toInt, ng_T, nI_add, nI_mul, nI_sub', Int.neg_zero, not_false_eq_true, not_true_eq_false] <;> omega); done))) | refine ⟨Or.inl rfl, ?_⟩ | refine ⟨Or.inr rfl, ?_⟩ | (refine ⟨?_, ?_⟩; (focus (exact in_nI (by omega) (by omega)))))
      (first | (refine xbr_f ?_ ?_; (focus ((simp (disch := omega) only [ix_lt, ix_le, ix_eq, ix_0, nI_clamp, nI_toInt, ng_T, nI_add, nI_mul, nI_sub', Int.neg_zero, not_false_eq_true, not_true_eq_false] <;> omega); done))) | (refine xbr_t ?_ ?_; (focus ((simp (disch := omega) only [ix_lt, ix_le, ix_eq, ix_0, nI_clamp, nI_toInt, ng_T, nI_add, nI_mul, nI_sub', Int.neg_zero, not_false_eq_true, not_true_eq_false] <;> omega); done))) | refine ⟨Or.inl rfl, ?_⟩ | refine ⟨Or.inr rfl, ?_⟩ | (refine ⟨?_, ?_⟩; (focus (exact in_nI (by omega) (by omega)))))
      refine ⟨rfl, rfl, (S.wR (fun t => if t = 0 then 2 * n + 1 else S.rz t) v).wT t1, _, _, rfl, hC1, fun o S2 I2 L2 hr2 hf2 hC2 => ?_⟩
      rw [nI_mul, nI_add] at hr2
      obtain ⟨q1, q2⟩ := rowR_v (S := (S.wR (fun t => if t = 0 then 2 * n + 1 else S.rz t) v).wT t1) hr2 (by decide) (show 2 * n + 2 ≤ 40 by omega)
      subst q1
      subst q2
      refine xbr_t (by rw [nI_mul, nI_add]) ?_
      have hC2 : Cls ((S.wR (fun t => if t = 1 then 2 * n + 2 + 1 else if t = 0 then 2 * n + 1 else S.rz t) (xfil v (1 * 40) (2 * n + 2) (nI 0))).wT t1) I2 L2 := hC2
      refine ⟨rfl, rfl, (S.wR (fun t => if t = 1 then 2 * n + 2 + 1 else if t = 0 then 2 * n + 1 else S.rz t) (xfil v (1 * 40) (2 * n + 2) (nI 0))).wT t1, _, _, _, _, _, rfl, hC2, fun o S3 I3 L3 hr3 hf3 hC3 => ?_⟩
      rw [nI_mul] at hr3
      have y0 : ((S.wR (fun t => if t = 1 then 2 * n + 2 + 1 else if t = 0 then 2 * n + 1 else S.rz t) (xfil v (1 * 40) (2 * n + 2) (nI 0))).wT t1).rz 0 = 2 * n + 1 := rfl
      have y1 : ((S.wR (fun t => if t = 1 then 2 * n + 2 + 1 else if t = 0 then 2 * n + 1 else S.rz t) (xfil v (1 * 40) (2 * n + 2) (nI 0))).wT t1).rz 1 = 2 * n + 2 + 1 := rfl
      obtain ⟨q1, q2⟩ := copyR_v (a := 0) (b := 1) (p := 0) (q := 0) (m := 2 * n) hr3 (by decide) (by decide) (by rw [y0]; omega) (by rw [y1]; omega) (by rw [y0]; omega) (by rw [y1]; omega) (by rw [y0]; omega) (by rw [y1]; omega)
      subst q1
      subst q2
      refine xbr_t rfl ?_
      have hw2 : ∀ t, 40 * 1 ≤ t → t < 40 * 1 + 2 * n → va_cpy (xfil v (1 * 40) (2 * n + 2) (nI 0)) (xfil v (1 * 40) (2 * n + 2) (nI 0)) (0 * 40 + 0) (1 * 40 + 0) (2 * n) t = v (t - 40) := fun t g1 g2 => by
        show (if 1 * 40 + 0 ≤ t ∧ t < 1 * 40 + 0 + 2 * n then xfil v (1 * 40) (2 * n + 2) (nI 0) (0 * 40 + 0 + (t - (1 * 40 + 0))) else _) = _
        rw [if_pos ⟨by omega, by omega⟩, show 0 * 40 + 0 + (t - (1 * 40 + 0)) = t - 40 by omega]
        show (if 1 * 40 ≤ t - 40 ∧ t - 40 < 1 * 40 + (2 * n + 2) then _ else v (t - 40)) = _
        rw [if_neg (by omega)]
      have hw3 : ∀ w : Nat → Int32, (∀ t, 40 * 1 ≤ t → t < 40 * 1 + 2 * n → w t = v (t - 40)) → PR w 1 n f b := fun w hw j hj => by
        rw [hw _ (by omega) (by omega), hw _ (by omega) (by omega), show 40 * 1 + 2 * j - 40 = 40 * 0 + 2 * j by omega, show 40 * 1 + (2 * j + 1) - 40 = 40 * 0 + (2 * j + 1) by omega]
        exact hp j hj
      obtain ⟨u3, hu3, hC3⟩ : ∃ u, (∀ t, 40 * 1 ≤ t → t < 40 * 1 + 2 * n → u t = v (t - 40)) ∧ Cls ((S.wR (fun t => if t = 1 then 2 * n + 2 + 1 else if t = 0 then 2 * n + 1 else S.rz t) u).wT t1) I3 L3 := ⟨_, hw2, hC3⟩
      -- next one's marks, taken
      refine ⟨rfl, rfl, (S.wR (fun t => if t = 1 then 2 * n + 2 + 1 else if t = 0 then 2 * n + 1 else S.rz t) u3).wT t1, _, _, _, rfl, hC3, fun o S4 I4 L4 hr4 hf4 hC4 => ?_⟩
      rw [nI_mul] at hr4
      obtain ⟨q1, q2⟩ := layR_v (S := (S.wR (fun t => if t = 1 then 2 * n + 2 + 1 else if t = 0 then 2 * n + 1 else S.rz t) u3).wT t1) (j := 1) (m := 2 * n) hr4 (by decide) (by show 2 * n + 2 + 1 ≤ 41; omega) (by show 2 * n + 1 < 2 * n + 2 + 1; omega)
      subst q1
      subst q2
      refine xbr_t rfl ?_
      obtain ⟨u4, t4, hu4, hx4, hC4⟩ : ∃ u t4, (∀ t, 40 * 1 ≤ t → t < 40 * 1 + 2 * n → u t = v (t - 40)) ∧ u (40 * 1 + 2 * n) = nI x ∧ Cls ((S.wR (fun t => if t = 1 then 2 * n + 2 + 1 else if t = 0 then 2 * n + 1 else S.rz t) u).wT t4) I4 L4 := ⟨fun t => if t = 1 * 40 + 2 * n then nI x else u3 t, _, fun t g1 g2 => by
        show (if t = 1 * 40 + 2 * n then nI x else u3 t) = _
        rw [if_neg (by omega)]
        exact hu3 t g1 g2, by
        show (if 40 * 1 + 2 * n = 1 * 40 + 2 * n then nI x else _) = _
        rw [if_pos (by omega)], hC4⟩
      refine ⟨rfl, rfl, (S.wR (fun t => if t = 1 then 2 * n + 2 + 1 else if t = 0 then 2 * n + 1 else S.rz t) u4).wT t4, _, _, _, rfl, hC4, fun o S5 I5 L5 hr5 hf5 hC5 => ?_⟩
      rw [nI_mul, nI_add] at hr5
      obtain ⟨q1, q2⟩ := layR_v (S := (S.wR (fun t => if t = 1 then 2 * n + 2 + 1 else if t = 0 then 2 * n + 1 else S.rz t) u4).wT t4) (j := 1) (m := 2 * n + 1) hr5 (by decide) (by show 2 * n + 2 + 1 ≤ 41; omega) (by show 2 * n + 1 + 1 < 2 * n + 2 + 1; omega)
      subst q1
      subst q2
      refine xbr_t rfl ?_
      obtain ⟨u5, t5, hu5, hx5, hy5, hC5⟩ : ∃ u t5, (∀ t, 40 * 1 ≤ t → t < 40 * 1 + 2 * n → u t = v (t - 40)) ∧ u (40 * 1 + 2 * n) = nI x ∧ u (40 * 1 + (2 * n + 1)) = bI true ∧ Cls ((S.wR (fun t => if t = 1 then 2 * n + 2 + 1 else if t = 0 then 2 * n + 1 else S.rz t) u).wT t5) I5 L5 := ⟨fun t => if t = 1 * 40 + (2 * n + 1) then nI 1 else u4 t, _, fun t g1 g2 => by
        show (if t = 1 * 40 + (2 * n + 1) then nI 1 else u4 t) = _
        rw [if_neg (by omega)]
        exact hu4 t g1 g2, by
        show (if 40 * 1 + 2 * n = 1 * 40 + (2 * n + 1) then nI 1 else u4 (40 * 1 + 2 * n)) = _
        rw [if_neg (by omega)]
        exact hx4, by
        show (if 40 * 1 + (2 * n + 1) = 1 * 40 + (2 * n + 1) then nI 1 else _) = _
        rw [if_pos (by omega)]
        rfl, hC5⟩
      (first | (refine xbr_f ?_ ?_; (focus ((simp (disch := omega) only [ix_lt, ix_le, ix_eq, ix_0, nI_clamp, nI_toInt, ng_T, nI_add, nI_mul, nI_sub', Int.neg_zero, not_false_eq_true, not_true_eq_false] <;> omega); done))) | (refine xbr_t ?_ ?_; (focus ((simp (disch := omega) only [ix_lt, ix_le, ix_eq, ix_0, nI_clamp, nI_toInt, ng_T, nI_add, nI_mul, nI_sub', Int.neg_zero, not_false_eq_true, not_true_eq_false] <;> omega); done))) | refine ⟨Or.inl rfl, ?_⟩ | refine ⟨Or.inr rfl, ?_⟩ | (refine ⟨?_, ?_⟩; (focus (exact in_nI (by omega) (by omega)))))
      refine ⟨rfl, rfl, (S.wR (fun t => if t = 1 then 2 * n + 2 + 1 else if t = 0 then 2 * n + 1 else S.rz t) u5).wT t5, _, _, rfl, hC5, fun o S6 I6 L6 hr6 hf6 hC6 => ?_⟩
      obtain ⟨q1, q2⟩ := mem true u5 t5 S6 o (hw3 u5 hu5) hx5 hy5 hr6
      subst q1
      subst q2
      (first | (refine xbr_f ?_ ?_; (focus ((simp (disch := omega) only [ix_lt, ix_le, ix_eq, ix_0, nI_clamp, nI_toInt, ng_T, nI_add, nI_mul, nI_sub', Int.neg_zero, not_false_eq_true, not_true_eq_false] <;> omega); done))) | (refine xbr_t ?_ ?_; (focus ((simp (disch := omega) only [ix_lt, ix_le, ix_eq, ix_0, nI_clamp, nI_toInt, ng_T, nI_add, nI_mul, nI_sub', Int.neg_zero, not_false_eq_true, not_true_eq_false] <;> omega); done))) | refine ⟨Or.inl rfl, ?_⟩ | refine ⟨Or.inr rfl, ?_⟩ | (refine ⟨?_, ?_⟩; (focus (exact in_nI (by omega) (by omega)))))
      -- not taken
      refine ⟨rfl, rfl, (S.wR (fun t => if t = 1 then 2 * n + 2 + 1 else if t = 0 then 2 * n + 1 else S.rz t) u5).wT t5, _, _, _, rfl, hC6, fun o S7 I7 L7 hr7 hf7 hC7 => ?_⟩
      rw [nI_mul, nI_add] at hr7
      obtain ⟨q1, q2⟩ := layR_v (S := (S.wR (fun t => if t = 1 then 2 * n + 2 + 1 else if t = 0 then 2 * n + 1 else S.rz t) u5).wT t5) (j := 1) (m := 2 * n + 1) hr7 (by decide) (by show 2 * n + 2 + 1 ≤ 41; omega) (by show 2 * n + 1 + 1 < 2 * n + 2 + 1; omega)
      subst q1
      subst q2
      refine xbr_t rfl ?_
      obtain ⟨u7, t7, hu7, hx7, hy7, hC7⟩ : ∃ u t7, (∀ t, 40 * 1 ≤ t → t < 40 * 1 + 2 * n → u t = v (t - 40)) ∧ u (40 * 1 + 2 * n) = nI x ∧ u (40 * 1 + (2 * n + 1)) = bI false ∧ Cls ((S.wR (fun t => if t = 1 then 2 * n + 2 + 1 else if t = 0 then 2 * n + 1 else S.rz t) u).wT t7) I7 L7 := ⟨fun t => if t = 1 * 40 + (2 * n + 1) then nI 0 else u5 t, _, fun t g1 g2 => by
        show (if t = 1 * 40 + (2 * n + 1) then nI 0 else u5 t) = _
        rw [if_neg (by omega)]
        exact hu5 t g1 g2, by
        show (if 40 * 1 + 2 * n = 1 * 40 + (2 * n + 1) then nI 0 else u5 (40 * 1 + 2 * n)) = _
        rw [if_neg (by omega)]
        exact hx5, by
        show (if 40 * 1 + (2 * n + 1) = 1 * 40 + (2 * n + 1) then nI 0 else _) = _
        rw [if_pos (by omega)]
        rfl, hC7⟩
      (first | (refine xbr_f ?_ ?_; (focus ((simp (disch := omega) only [ix_lt, ix_le, ix_eq, ix_0, nI_clamp, nI_toInt, ng_T, nI_add, nI_mul, nI_sub', Int.neg_zero, not_false_eq_true, not_true_eq_false] <;> omega); done))) | (refine xbr_t ?_ ?_; (focus ((simp (disch := omega) only [ix_lt, ix_le, ix_eq, ix_0, nI_clamp, nI_toInt, ng_T, nI_add, nI_mul, nI_sub', Int.neg_zero, not_false_eq_true, not_true_eq_false] <;> omega); done))) | refine ⟨Or.inl rfl, ?_⟩ | refine ⟨Or.inr rfl, ?_⟩ | (refine ⟨?_, ?_⟩; (focus (exact in_nI (by omega) (by omega)))))
      refine ⟨rfl, rfl, (S.wR (fun t => if t = 1 then 2 * n + 2 + 1 else if t = 0 then 2 * n + 1 else S.rz t) u7).wT t7, _, _, rfl, hC7, fun o S8 I8 L8 hr8 hf8 hC8 => ?_⟩
      obtain ⟨q1, q2⟩ := mem false u7 t7 S8 o (hw3 u7 hu7) hx7 hy7 hr8
      subst q1
      subst q2
      (first | (refine xbr_f ?_ ?_; (focus ((simp (disch := omega) only [ix_lt, ix_le, ix_eq, ix_0, nI_clamp, nI_toInt, ng_T, nI_add, nI_mul, nI_sub', Int.neg_zero, not_false_eq_true, not_true_eq_false] <;> omega); done))) | (refine xbr_t ?_ ?_; (focus ((simp (disch := omega) only [ix_lt, ix_le, ix_eq, ix_0, nI_clamp, nI_toInt, ng_T, nI_add, nI_mul, nI_sub', Int.neg_zero, not_false_eq_true, not_true_eq_false] <;> omega); done))) | refine ⟨Or.inl rfl, ?_⟩ | refine ⟨Or.inr rfl, ?_⟩ | (refine ⟨?_, ?_⟩; (focus (exact in_nI (by omega) (by omega)))))
      obtain ⟨r1, r2, r3, r4⟩ := part_sp (k := kdN S.d i) (x := x) hM16 (two true u5 (hw3 u5 hu5) hx5 hy5).2 (two false u7 (hw3 u7 hu7) hx7 hy7).2
      have hY : bsN (fun m => ftB u5 1 (kdN S.d i) m (n + 1)) 16 < 2 ^ 16 := bsN_lt _ _
      have hN : bsN (fun m => ftB u7 1 (kdN S.d i) m (n + 1)) 16 < 2 ^ 16 := bsN_lt _ _
      have gmx := gp_max (kdN S.d i) M x
      have gle := gpN_le (kdN S.d i) M x
      have gl1 := gtN_le (k := kdN S.d i) (x := x) hM16
      have gl2 : gtN (kdN S.d i) M x ≤ 16 := cnN_le _ 16
      have gl3 := pcf_le 32 M
      generalize bsN (fun m => ftB u5 1 (kdN S.d i) m (n + 1)) 16 = Y at r1 r2 r3 hY
      generalize bsN (fun m => ftB u7 1 (kdN S.d i) m (n + 1)) 16 = N at r1 r2 r4 hN
      refine xbr_t ((and_0 (by omega)).mpr r1) ?_
      refine xbr_t (by rw [fa_or, r2]) ?_
      refine ⟨rfl, rfl, Y, rfl, by omega, ?_⟩
      refine ⟨rfl, rfl, N, rfl, by omega, ?_⟩
      rw [r3, r4]
      have hf18 := frC_t hf1 (frC_t hf2 (frC_t hf3 (frC_t hf4 (frC_t hf5 (frC_t hf6 (frC_t hf7 hf8))))))
      have go := h506 _ _ I8 L8 ⟨t7, hC8⟩ hf18
      by_cases hgt : pcf 32 M - gtN (kdN S.d i) M x < gtN (kdN S.d i) M x
      · rw [if_pos hgt] at gmx
        (first | (refine xbr_f ?_ ?_; (focus ((simp (disch := omega) only [ix_lt, ix_le, ix_eq, ix_0, nI_clamp, nI_toInt, ng_T, nI_add, nI_mul, nI_sub', Int.neg_zero, not_false_eq_true, not_true_eq_false] <;> omega); done))) | (refine xbr_t ?_ ?_; (focus ((simp (disch := omega) only [ix_lt, ix_le, ix_eq, ix_0, nI_clamp, nI_toInt, ng_T, nI_add, nI_mul, nI_sub', Int.neg_zero, not_false_eq_true, not_true_eq_false] <;> omega); done))) | refine ⟨Or.inl rfl, ?_⟩ | refine ⟨Or.inr rfl, ?_⟩ | (refine ⟨?_, ?_⟩; (focus (exact in_nI (by omega) (by omega)))))
        refine ⟨rfl, rfl, Y, rfl, by omega, ?_⟩
        rw [r3]
        refine xbr_t (by rw [gmx]) ?_
        exact go
      · rw [if_neg hgt] at gmx
        (first | (refine xbr_f ?_ ?_; (focus ((simp (disch := omega) only [ix_lt, ix_le, ix_eq, ix_0, nI_clamp, nI_toInt, ng_T, nI_add, nI_mul, nI_sub', Int.neg_zero, not_false_eq_true, not_true_eq_false] <;> omega); done))) | (refine xbr_t ?_ ?_; (focus ((simp (disch := omega) only [ix_lt, ix_le, ix_eq, ix_0, nI_clamp, nI_toInt, ng_T, nI_add, nI_mul, nI_sub', Int.neg_zero, not_false_eq_true, not_true_eq_false] <;> omega); done))) | refine ⟨Or.inl rfl, ?_⟩ | refine ⟨Or.inr rfl, ?_⟩ | (refine ⟨?_, ?_⟩; (focus (exact in_nI (by omega) (by omega)))))
        refine ⟨rfl, rfl, N, rfl, by omega, ?_⟩
        rw [r4]
        refine xbr_t (by rw [gmx]) ?_
        exact go
    · refine xrun okL_took hhL_took [(506, [true, true, true, true, true, true, false, false, false, false, false, false, false])] 60 ?_
      (first | (refine xbr_f ?_ ?_; (focus ((simp (disch := omega) only [ix_lt, ix_le, ix_eq, ix_0, nI_clamp, nI_toInt, ng_T, nI_add, nI_mul, nI_sub', Int.neg_zero, not_false_eq_true, not_true_eq_false] <;> omega); done))) | (refine xbr_t ?_ ?_; (focus ((simp (disch := omega) only [ix_lt, ix_le, ix_eq, ix_0, nI_clamp, nI_toInt, ng_T, nI_add, nI_mul, nI_sub', Int.neg_zero, not_false_eq_true, not_true_eq_false] <;> omega); done))) | refine ⟨Or.inl rfl, ?_⟩ | refine ⟨Or.inr rfl, ?_⟩ | (refine ⟨?_, ?_⟩; (focus (exact in_nI (by omega) (by omega)))))
      (first | (refine xbr_f ?_ ?_; (focus ((simp (disch := omega) only [ix_lt, ix_le, ix_eq, ix_0, nI_clamp, nI_toInt, ng_T, nI_add, nI_mul, nI_sub', Int.neg_zero, not_false_eq_true, not_true_eq_false] <;> omega); done))) | (refine xbr_t ?_ ?_; (focus ((simp (disch := omega) only [ix_lt, ix_le, ix_eq, ix_0, nI_clamp, nI_toInt, ng_T, nI_add, nI_mul, nI_sub', Int.neg_zero, not_false_eq_true, not_true_eq_false] <;> omega); done))) | refine ⟨Or.inl rfl, ?_⟩ | refine ⟨Or.inr rfl, ?_⟩ | (refine ⟨?_, ?_⟩; (focus (exact in_nI (by omega) (by omega)))))
      exact h506 _ _ I1 L1 ⟨t1, hC1⟩ hf1
  -- behind what it took
  have h131 : ∀ v f b I' L', PR v 0 n f b → (∀ j, j < n → b j = wtB S.d S.D.X i (f j)) → Lq (S.wR (fun t => if t = 0 then 2 * n + 1 else S.rz t) v) I' L' → frC I L I' L' → xGo mL_took csL_took 131 Q [some (.ref 1), some (.ref 0), some (.ref 27), some (.int (nI i)), some (.int (nI n)), some (.int (nI 1)), none, none, none, none, none, none, none] [] 0 (e9 + 27) I' L' xP0 := by
    rintro v f b I1 L1 hp hb ⟨t1, hC1⟩ hf1
    have hwp : wpS ((S.wR (fun t => if t = 0 then 2 * n + 1 else S.rz t) v).wT t1) 0 = 0 := wp_ok hp (by omega)
    have hz : ((S.wR (fun t => if t = 0 then 2 * n + 1 else S.rz t) v).wT t1).rz 0 = 2 * n + 1 := rfl
    have hown : ftB v 0 (kdN S.d i) (meN S.D.X i) n = true := (ft_iff hp _ _).mpr (fun j hj => (hb j hj).symm)
    have hMb : tbB (bsN (fun m => ftB v 0 (kdN S.d i) m n) 16) (meN S.D.X i) = true := (tb_bs hme).trans hown
    have hKb : tbB (bsN (fun k => ftB v 0 k (meN S.D.X i) n) 6) (kdN S.d i) = true := (tb_bs hk6).trans hown
    have hM16 : bsN (fun m => ftB v 0 (kdN S.d i) m n) 16 < 2 ^ 16 := bsN_lt _ _
    have hK6 : bsN (fun k => ftB v 0 k (meN S.D.X i) n) 6 < 2 ^ 6 := bsN_lt _ _
    have hM0 : 0 < bsN (fun m => ftB v 0 (kdN S.d i) m n) 16 := by
      rcases Nat.eq_zero_or_pos (bsN (fun m => ftB v 0 (kdN S.d i) m n) 16) with e | e
      · rw [e, tbB_bit, Nat.zero_testBit] at hMb
        cases hMb
      · exact e
    have hall : n = 0 → bsN (fun m => ftB v 0 (kdN S.d i) m n) 16 = 65535 ∧ bsN (fun k => ftB v 0 k (meN S.D.X i) n) 6 = 63 := fun e => ⟨bs_full.mpr (fun m _ => (ft_iff hp _ _).mpr (fun j hj => by omega)), bs_full.mpr (fun m _ => (ft_iff hp _ _).mpr (fun j hj => by omega))⟩
    have go := h297 v f b (bsN (fun m => ftB v 0 (kdN S.d i) m n) 16) (tmN (kdN S.d i) (bsN (fun m => ftB v 0 (kdN S.d i) m n) 16) 15)
    refine xrun okL_took hhL_took [(297, [true, true, true, true, true, true, true, true, true, true, false, false, false])] 160 ?_
    (first | (refine xbr_f ?_ ?_; (focus ((simp (disch := omega) only [ix_lt, ix_le, ix_eq, ix_0, nI_clamp, nI_toInt, ng_T, nI_add, nI_mul, nI_sub', Int.neg_zero, not_false_eq_true, not_true_eq_false] <;> omega); done))) | (refine xbr_t ?_ ?_; (focus ((simp (disch := omega) only [ix_lt, ix_le, ix_eq, ix_0, nI_clamp, nI_toInt, ng_T, nI_add, nI_mul, nI_sub', Int.neg_zero, not_false_eq_true, not_true_eq_false] <;> omega); done))) | refine ⟨Or.inl rfl, ?_⟩ | refine ⟨Or.inr rfl, ?_⟩ | (refine ⟨?_, ?_⟩; (focus (exact in_nI (by omega) (by omega)))))
    refine ⟨rfl, rfl, (S.wR (fun t => if t = 0 then 2 * n + 1 else S.rz t) v).wT t1, _, _, rfl, hC1, fun o S2 I2 L2 hr2 hf2 hC2 => ?_⟩
    have hz9 := memR_v hr2 hd hi (by decide) hwp hz
    simp only [wT_d, wT_D, wT_kp, wT_rz, wT_rv, wR_d, wR_D, wR_kp, wR_rz, wR_rv, wC_d, wC_D, wC_kp, wC_rz, wC_rv, wD_d, wD_D, wD_kp, wD_rz, wD_rv, meB] at hz9
    obtain ⟨q1, q2⟩ : o = nI (bsN (fun m => ftB v 0 (kdN S.d i) m n) 16) ∧ S2 = (S.wR (fun t => if t = 0 then 2 * n + 1 else S.rz t) v).wT t1 := hz9
    subst q1
    subst q2
    (first | (refine xbr_f ?_ ?_; (focus ((simp (disch := omega) only [ix_lt, ix_le, ix_eq, ix_0, nI_clamp, nI_toInt, ng_T, nI_add, nI_mul, nI_sub', Int.neg_zero, not_false_eq_true, not_true_eq_false] <;> omega); done))) | (refine xbr_t ?_ ?_; (focus ((simp (disch := omega) only [ix_lt, ix_le, ix_eq, ix_0, nI_clamp, nI_toInt, ng_T, nI_add, nI_mul, nI_sub', Int.neg_zero, not_false_eq_true, not_true_eq_false] <;> omega); done))) | refine ⟨Or.inl rfl, ?_⟩ | refine ⟨Or.inr rfl, ?_⟩ | (refine ⟨?_, ?_⟩; (focus (exact in_nI (by omega) (by omega)))))
    refine ⟨rfl, rfl, (S.wR (fun t => if t = 0 then 2 * n + 1 else S.rz t) v).wT t1, _, _, rfl, hC2, fun o S3 I3 L3 hr3 hf3 hC3 => ?_⟩
    have hz9 := kinR_v hr3 hd hi (by decide) hwp hz
    simp only [wT_d, wT_D, wT_kp, wT_rz, wT_rv, wR_d, wR_D, wR_kp, wR_rz, wR_rv, wC_d, wC_D, wC_kp, wC_rz, wC_rv, wD_d, wD_D, wD_kp, wD_rz, wD_rv, meB] at hz9
    obtain ⟨q1, q2⟩ : o = nI (bsN (fun k => ftB v 0 k (meN S.D.X i) n) 6) ∧ S3 = (S.wR (fun t => if t = 0 then 2 * n + 1 else S.rz t) v).wT t1 := hz9
    subst q1
    subst q2
    (first | (refine xbr_f ?_ ?_; (focus ((simp (disch := omega) only [ix_lt, ix_le, ix_eq, ix_0, nI_clamp, nI_toInt, ng_T, nI_add, nI_mul, nI_sub', Int.neg_zero, not_false_eq_true, not_true_eq_false] <;> omega); done))) | (refine xbr_t ?_ ?_; (focus ((simp (disch := omega) only [ix_lt, ix_le, ix_eq, ix_0, nI_clamp, nI_toInt, ng_T, nI_add, nI_mul, nI_sub', Int.neg_zero, not_false_eq_true, not_true_eq_false] <;> omega); done))) | refine ⟨Or.inl rfl, ?_⟩ | refine ⟨Or.inr rfl, ?_⟩ | (refine ⟨?_, ?_⟩; (focus (exact in_nI (by omega) (by omega)))))
    refine ⟨rfl, rfl, (S.wR (fun t => if t = 0 then 2 * n + 1 else S.rz t) v).wT t1, _, _, rfl, hC3, fun o S4 I4 L4 hr4 hf4 hC4 => ?_⟩
    have hz9 := nexR_v hr4 hd hi (by decide) hwp hz hM0
    simp only [wT_d, wT_D, wT_kp, wT_rz, wT_rv, wR_d, wR_D, wR_kp, wR_rz, wR_rv, wC_d, wC_D, wC_kp, wC_rz, wC_rv, wD_d, wD_D, wD_kp, wD_rz, wD_rv, meB] at hz9
    obtain ⟨q1, q2⟩ : o = nI (tmN (kdN S.d i) (bsN (fun m => ftB v 0 (kdN S.d i) m n) 16) 15) ∧ S4 = ((S.wR (fun t => if t = 0 then 2 * n + 1 else S.rz t) v).wT t1).wT (nI (gpN (kdN S.d i) (bsN (fun m => ftB v 0 (kdN S.d i) m n) 16) (tmN (kdN S.d i) (bsN (fun m => ftB v 0 (kdN S.d i) m n) 16) 15))) := hz9
    subst q1
    subst q2
    refine ⟨rfl, rfl, _, rfl, hC4, ?_⟩
    rw [show ∀ (A : ST) (x : Int32), (A.wT x).to = x from fun _ _ => rfl]
    have hx16 := tmN_le (kdN S.d i) (bsN (fun m => ftB v 0 (kdN S.d i) m n) 16) 15
    have go := go
    have hgp := gp_b (k := kdN S.d i) (x := tmN (kdN S.d i) (bsN (fun m => ftB v 0 (kdN S.d i) m n) 16) 15) hM16
    have hgl := gpN_le (kdN S.d i) (bsN (fun m => ftB v 0 (kdN S.d i) m n) 16) (tmN (kdN S.d i) (bsN (fun m => ftB v 0 (kdN S.d i) m n) 16) 15)
    have hpl := pcf_le 32 (bsN (fun m => ftB v 0 (kdN S.d i) m n) 16)
    have hpc := pc_16 hM16
    generalize hMM : bsN (fun m => ftB v 0 (kdN S.d i) m n) 16 = M at *
    generalize tmN (kdN S.d i) M 15 = x at *
    generalize bsN (fun k => ftB v 0 k (meN S.D.X i) n) 6 = K at *
    (first | (refine xbr_f ?_ ?_; (focus ((simp (disch := omega) only [ix_lt, ix_le, ix_eq, ix_0, nI_clamp, nI_toInt, ng_T, nI_add, nI_mul, nI_sub', Int.neg_zero, not_false_eq_true, not_true_eq_false] <;> omega); done))) | (refine xbr_t ?_ ?_; (focus ((simp (disch := omega) only [ix_lt, ix_le, ix_eq, ix_0, nI_clamp, nI_toInt, ng_T, nI_add, nI_mul, nI_sub', Int.neg_zero, not_false_eq_true, not_true_eq_false] <;> omega); done))) | refine ⟨Or.inl rfl, ?_⟩ | refine ⟨Or.inr rfl, ?_⟩ | (refine ⟨?_, ?_⟩; (focus (exact in_nI (by omega) (by omega)))))
    refine ⟨rfl, rfl, S.wR (fun t => if t = 0 then 2 * n + 1 else S.rz t) v, i, 1, rfl, hi, by decide, ⟨_, hC4⟩, fun I5 L5 hf5 hC5 => ?_⟩
    rw [show oaI (S.wR (fun t => if t = 0 then 2 * n + 1 else S.rz t) v).d (S.wR (fun t => if t = 0 then 2 * n + 1 else S.rz t) v).D.X i 1 = nI (meN S.D.X i) from rfl]
    have eM : (nI M >>> (nI (meN S.D.X i) &&& 31)) &&& nI 1 = nI 1 := by rw [bit_i (by omega) (by omega), hMb]; rfl
    refine xbr_t eM ?_
    (first | (refine xbr_f ?_ ?_; (focus ((simp (disch := omega) only [ix_lt, ix_le, ix_eq, ix_0, nI_clamp, nI_toInt, ng_T, nI_add, nI_mul, nI_sub', Int.neg_zero, not_false_eq_true, not_true_eq_false] <;> omega); done))) | (refine xbr_t ?_ ?_; (focus ((simp (disch := omega) only [ix_lt, ix_le, ix_eq, ix_0, nI_clamp, nI_toInt, ng_T, nI_add, nI_mul, nI_sub', Int.neg_zero, not_false_eq_true, not_true_eq_false] <;> omega); done))) | refine ⟨Or.inl rfl, ?_⟩ | refine ⟨Or.inr rfl, ?_⟩ | (refine ⟨?_, ?_⟩; (focus (exact in_nI (by omega) (by omega)))))
    refine ⟨rfl, rfl, S.wR (fun t => if t = 0 then 2 * n + 1 else S.rz t) v, i, 0, rfl, hi, by decide, hC5, fun I6 L6 hf6 hC6 => ?_⟩
    rw [show oaI (S.wR (fun t => if t = 0 then 2 * n + 1 else S.rz t) v).d (S.wR (fun t => if t = 0 then 2 * n + 1 else S.rz t) v).D.X i 0 = nI (kdN S.d i) from rfl]
    have eK : (nI K >>> (nI (kdN S.d i) &&& 31)) &&& nI 1 = nI 1 := by rw [bit_i (by omega) (by omega), hKb]; rfl
    refine xbr_t eK ?_
    (first | (refine xbr_f ?_ ?_; (focus ((simp (disch := omega) only [ix_lt, ix_le, ix_eq, ix_0, nI_clamp, nI_toInt, ng_T, nI_add, nI_mul, nI_sub', Int.neg_zero, not_false_eq_true, not_true_eq_false] <;> omega); done))) | (refine xbr_t ?_ ?_; (focus ((simp (disch := omega) only [ix_lt, ix_le, ix_eq, ix_0, nI_clamp, nI_toInt, ng_T, nI_add, nI_mul, nI_sub', Int.neg_zero, not_false_eq_true, not_true_eq_false] <;> omega); done))) | refine ⟨Or.inl rfl, ?_⟩ | refine ⟨Or.inr rfl, ?_⟩ | (refine ⟨?_, ?_⟩; (focus (exact in_nI (by omega) (by omega)))))
    (first | (refine xbr_f ?_ ?_; (focus ((simp (disch := omega) only [ix_lt, ix_le, ix_eq, ix_0, nI_clamp, nI_toInt, ng_T, nI_add, nI_mul, nI_sub', Int.neg_zero, not_false_eq_true, not_true_eq_false] <;> omega); done))) | (refine xbr_t ?_ ?_; (focus ((simp (disch := omega) only [ix_lt, ix_le, ix_eq, ix_0, nI_clamp, nI_toInt, ng_T, nI_add, nI_mul, nI_sub', Int.neg_zero, not_false_eq_true, not_true_eq_false] <;> omega); done))) | refine ⟨Or.inl rfl, ?_⟩ | refine ⟨Or.inr rfl, ?_⟩ | (refine ⟨?_, ?_⟩; (focus (exact in_nI (by omega) (by omega)))))
    (first | (refine xbr_f ?_ ?_; (focus ((simp (disch := omega) only [ix_lt, ix_le, ix_eq, ix_0, nI_clamp, nI_toInt, ng_T, nI_add, nI_mul, nI_sub', Int.neg_zero, not_false_eq_true, not_true_eq_false] <;> omega); done))) | (refine xbr_t ?_ ?_; (focus ((simp (disch := omega) only [ix_lt, ix_le, ix_eq, ix_0, nI_clamp, nI_toInt, ng_T, nI_add, nI_mul, nI_sub', Int.neg_zero, not_false_eq_true, not_true_eq_false] <;> omega); done))) | refine ⟨Or.inl rfl, ?_⟩ | refine ⟨Or.inr rfl, ?_⟩ | (refine ⟨?_, ?_⟩; (focus (exact in_nI (by omega) (by omega)))))
    refine ⟨rfl, rfl, M, rfl, by omega, ?_⟩
    rw [hpc]
    (first | (refine xbr_f ?_ ?_; (focus ((simp (disch := omega) only [ix_lt, ix_le, ix_eq, ix_0, nI_clamp, nI_toInt, ng_T, nI_add, nI_mul, nI_sub', Int.neg_zero, not_false_eq_true, not_true_eq_false] <;> omega); done))) | (refine xbr_t ?_ ?_; (focus ((simp (disch := omega) only [ix_lt, ix_le, ix_eq, ix_0, nI_clamp, nI_toInt, ng_T, nI_add, nI_mul, nI_sub', Int.neg_zero, not_false_eq_true, not_true_eq_false] <;> omega); done))) | refine ⟨Or.inl rfl, ?_⟩ | refine ⟨Or.inr rfl, ?_⟩ | (refine ⟨?_, ?_⟩; (focus (exact in_nI (by omega) (by omega)))))
    refine ⟨rfl, rfl, M, rfl, by omega, ?_⟩
    rw [hpc]
    (first | (refine xbr_f ?_ ?_; (focus ((simp (disch := omega) only [ix_lt, ix_le, ix_eq, ix_0, nI_clamp, nI_toInt, ng_T, nI_add, nI_mul, nI_sub', Int.neg_zero, not_false_eq_true, not_true_eq_false] <;> omega); done))) | (refine xbr_t ?_ ?_; (focus ((simp (disch := omega) only [ix_lt, ix_le, ix_eq, ix_0, nI_clamp, nI_toInt, ng_T, nI_add, nI_mul, nI_sub', Int.neg_zero, not_false_eq_true, not_true_eq_false] <;> omega); done))) | refine ⟨Or.inl rfl, ?_⟩ | refine ⟨Or.inr rfl, ?_⟩ | (refine ⟨?_, ?_⟩; (focus (exact in_nI (by omega) (by omega)))))
    have go := go I6 L6 (some (.int (nI K))) hp rfl (by omega) hC6 (frC_t hf1 (frC_t hf2 (frC_t hf3 (frC_t hf4 (frC_t hf5 hf6)))))
    by_cases hn0 : n = 0
    · obtain ⟨a1, a2⟩ := hall hn0
      subst hn0
      (first | (refine xbr_f ?_ ?_; (focus ((simp (disch := omega) only [ix_lt, ix_le, ix_eq, ix_0, nI_clamp, nI_toInt, ng_T, nI_add, nI_mul, nI_sub', Int.neg_zero, not_false_eq_true, not_true_eq_false] <;> omega); done))) | (refine xbr_t ?_ ?_; (focus ((simp (disch := omega) only [ix_lt, ix_le, ix_eq, ix_0, nI_clamp, nI_toInt, ng_T, nI_add, nI_mul, nI_sub', Int.neg_zero, not_false_eq_true, not_true_eq_false] <;> omega); done))) | refine ⟨Or.inl rfl, ?_⟩ | refine ⟨Or.inr rfl, ?_⟩ | (refine ⟨?_, ?_⟩; (focus (exact in_nI (by omega) (by omega)))))
      (first | (refine xbr_f ?_ ?_; (focus ((simp (disch := omega) only [ix_lt, ix_le, ix_eq, ix_0, nI_clamp, nI_toInt, ng_T, nI_add, nI_mul, nI_sub', Int.neg_zero, not_false_eq_true, not_true_eq_false] <;> omega); done))) | (refine xbr_t ?_ ?_; (focus ((simp (disch := omega) only [ix_lt, ix_le, ix_eq, ix_0, nI_clamp, nI_toInt, ng_T, nI_add, nI_mul, nI_sub', Int.neg_zero, not_false_eq_true, not_true_eq_false] <;> omega); done))) | refine ⟨Or.inl rfl, ?_⟩ | refine ⟨Or.inr rfl, ?_⟩ | (refine ⟨?_, ?_⟩; (focus (exact in_nI (by omega) (by omega)))))
      (first | (refine xbr_f ?_ ?_; (focus ((simp (disch := omega) only [ix_lt, ix_le, ix_eq, ix_0, nI_clamp, nI_toInt, ng_T, nI_add, nI_mul, nI_sub', Int.neg_zero, not_false_eq_true, not_true_eq_false] <;> omega); done))) | (refine xbr_t ?_ ?_; (focus ((simp (disch := omega) only [ix_lt, ix_le, ix_eq, ix_0, nI_clamp, nI_toInt, ng_T, nI_add, nI_mul, nI_sub', Int.neg_zero, not_false_eq_true, not_true_eq_false] <;> omega); done))) | refine ⟨Or.inl rfl, ?_⟩ | refine ⟨Or.inr rfl, ?_⟩ | (refine ⟨?_, ?_⟩; (focus (exact in_nI (by omega) (by omega)))))
      exact go
    · (first | (refine xbr_f ?_ ?_; (focus ((simp (disch := omega) only [ix_lt, ix_le, ix_eq, ix_0, nI_clamp, nI_toInt, ng_T, nI_add, nI_mul, nI_sub', Int.neg_zero, not_false_eq_true, not_true_eq_false] <;> omega); done))) | (refine xbr_t ?_ ?_; (focus ((simp (disch := omega) only [ix_lt, ix_le, ix_eq, ix_0, nI_clamp, nI_toInt, ng_T, nI_add, nI_mul, nI_sub', Int.neg_zero, not_false_eq_true, not_true_eq_false] <;> omega); done))) | refine ⟨Or.inl rfl, ?_⟩ | refine ⟨Or.inr rfl, ?_⟩ | (refine ⟨?_, ?_⟩; (focus (exact in_nI (by omega) (by omega)))))
      exact go
  obtain ⟨t0, hC0⟩ := hC
  refine ⟨rfl, rfl, S.wT t0, _, _, rfl, hC0, fun o S1 I1 L1 hr1 hf1 hC1 => ?_⟩
  rw [nI_mul] at hr1
  obtain ⟨q1, q2⟩ := rowR_v (S := S.wT t0) hr1 (by decide) (show 2 * n ≤ 40 by omega)
  subst q1
  subst q2
  refine xbr_t (by rw [nI_mul]) ?_
  refine xgo_eq (xlpW (M := mL_took) (cs := csL_took) (pc := 50) n (fun k => [some (.ref 1), some (.ref 0), some (.ref 27), some (.int (nI i)), some (.int (nI n)), some (.int (nI 1)), some (.int (nI k)), none, none, none, none, none, none]) (fun k I' L' => (∃ v f b, PR v 0 k f b ∧ (∀ j, j < k → b j = wtB S.d S.D.X i (f j)) ∧ Lq (S.wR (fun t => if t = 0 then 2 * n + 1 else S.rz t) v) I' L') ∧ frC I L I' L') ?_ ?_ ⟨⟨_, fun _ => 0, fun _ => false, fun j hj => absurd hj (Nat.not_lt_zero j), fun j hj => absurd hj (Nat.not_lt_zero j), ⟨t0, hC1⟩⟩, hf1⟩) rfl rfl rfl
  · rintro k hk I2 L2 ⟨⟨v, f, b, hp, hb, t2, hC2⟩, hf2⟩ ih
    refine xrun okL_took hhL_took [(50, [true, true, true, true, true, true, true, false, false, false, false, false, false])] 100 ?_
    (first | (refine xbr_f ?_ ?_; (focus ((simp (disch := omega) only [ix_lt, ix_le, ix_eq, ix_0, nI_clamp, nI_toInt, ng_T, nI_add, nI_mul, nI_sub', Int.neg_zero, not_false_eq_true, not_true_eq_false] <;> omega); done))) | (refine xbr_t ?_ ?_; (focus ((simp (disch := omega) only [ix_lt, ix_le, ix_eq, ix_0, nI_clamp, nI_toInt, ng_T, nI_add, nI_mul, nI_sub', Int.neg_zero, not_false_eq_true, not_true_eq_false] <;> omega); done))) | refine ⟨Or.inl rfl, ?_⟩ | refine ⟨Or.inr rfl, ?_⟩ | (refine ⟨?_, ?_⟩; (focus (exact in_nI (by omega) (by omega)))))
    (first | (refine xbr_f ?_ ?_; (focus ((simp (disch := omega) only [ix_lt, ix_le, ix_eq, ix_0, nI_clamp, nI_toInt, ng_T, nI_add, nI_mul, nI_sub', Int.neg_zero, not_false_eq_true, not_true_eq_false] <;> omega); done))) | (refine xbr_t ?_ ?_; (focus ((simp (disch := omega) only [ix_lt, ix_le, ix_eq, ix_0, nI_clamp, nI_toInt, ng_T, nI_add, nI_mul, nI_sub', Int.neg_zero, not_false_eq_true, not_true_eq_false] <;> omega); done))) | refine ⟨Or.inl rfl, ?_⟩ | refine ⟨Or.inr rfl, ?_⟩ | (refine ⟨?_, ?_⟩; (focus (exact in_nI (by omega) (by omega)))))
    refine ⟨rfl, rfl, 16, rfl, by decide, fun x hx => ?_⟩
    obtain ⟨m, hm', hm⟩ : ∃ m, x / 2 ^ (3 * k) % 16 = m ∧ m < 16 := ⟨_, rfl, Nat.mod_lt _ (by decide)⟩
    have em : (nI x >>> (nI 3 * nI k &&& 31)) &&& nI 15 = nI m := by rw [nI_mul, shr_n hx (by omega), fa_and, and_15, hm']
    refine ⟨rfl, rfl, (S.wR (fun t => if t = 0 then 2 * n + 1 else S.rz t) v).wT t2, _, _, _, rfl, hC2, fun o S3 I3 L3 hr3 hf3 hC3 => ?_⟩
    rw [em, nI_mul] at hr3
    rw [em]
    obtain ⟨q1, q2⟩ := layR_v (S := (S.wR (fun t => if t = 0 then 2 * n + 1 else S.rz t) v).wT t2) (j := 0) (m := 2 * k) hr3 (by decide) (by show 2 * n + 1 ≤ 41; omega) (by show 2 * k + 1 < 2 * n + 1; omega)
    subst q1
    subst q2
    refine xbr_t rfl ?_
    obtain ⟨u3, t3, hu3, hx3, hC3⟩ : ∃ u t3, (∀ t, t ≠ 40 * 0 + 2 * k → u t = v t) ∧ u (40 * 0 + 2 * k) = nI m ∧ Cls ((S.wR (fun t => if t = 0 then 2 * n + 1 else S.rz t) u).wT t3) I3 L3 := ⟨fun t => if t = 0 * 40 + 2 * k then nI m else v t, _, fun t g => by
      show (if t = 0 * 40 + 2 * k then nI m else v t) = _
      rw [if_neg (by omega)], by
      show (if 40 * 0 + 2 * k = 0 * 40 + 2 * k then nI m else _) = _
      rw [if_pos (by omega)], hC3⟩
    refine ⟨rfl, rfl, (S.wR (fun t => if t = 0 then 2 * n + 1 else S.rz t) u3).wT t3, _, rfl, hC3, fun o S4 I4 L4 hr4 hf4 hC4 => ?_⟩
    have hz9 := whoR_v hr4 hm
    simp only [wT_d, wT_D, wT_kp, wT_rz, wT_rv, wR_d, wR_D, wR_kp, wR_rz, wR_rv, wC_d, wC_D, wC_kp, wC_rz, wC_rv, wD_d, wD_D, wD_kp, wD_rz, wD_rv, meB] at hz9
    obtain ⟨q1, q2⟩ : o = nI (bsN (fun i => wtB S.d S.D.X i m) S.d.nA) ∧ S4 = (S.wR (fun t => if t = 0 then 2 * n + 1 else S.rz t) u3).wT t3 := hz9
    subst q1
    subst q2
    have hB : bsN (fun i => wtB S.d S.D.X i m) S.d.nA < 16 := Nat.lt_of_lt_of_le (bsN_lt _ _) (Nat.pow_le_pow_right (n := 2) (j := 4) (by decide) h4)
    have eb : (nI (bsN (fun i => wtB S.d S.D.X i m) S.d.nA) >>> (nI i &&& 31)) &&& nI 1 = bI (wtB S.d S.D.X i m) := by rw [bit_i (by omega) (by omega), tb_bs hi]
    refine ⟨rfl, rfl, (S.wR (fun t => if t = 0 then 2 * n + 1 else S.rz t) u3).wT t3, _, _, _, rfl, hC4, fun o S5 I5 L5 hr5 hf5 hC5 => ?_⟩
    rw [eb, nI_mul, nI_add] at hr5
    obtain ⟨q1, q2⟩ := layR_v (S := (S.wR (fun t => if t = 0 then 2 * n + 1 else S.rz t) u3).wT t3) (j := 0) (m := 2 * k + 1) hr5 (by decide) (by show 2 * n + 1 ≤ 41; omega) (by show 2 * k + 1 + 1 < 2 * n + 1; omega)
    subst q1
    subst q2
    refine xbr_t rfl ?_
    obtain ⟨u5, t5, hu5, hx5, hy5, hC5⟩ : ∃ u t5, (∀ t, t ≠ 40 * 0 + 2 * k → t ≠ 40 * 0 + (2 * k + 1) → u t = v t) ∧ u (40 * 0 + 2 * k) = nI m ∧ u (40 * 0 + (2 * k + 1)) = bI (wtB S.d S.D.X i m) ∧ Cls ((S.wR (fun t => if t = 0 then 2 * n + 1 else S.rz t) u).wT t5) I5 L5 := ⟨fun t => if t = 0 * 40 + (2 * k + 1) then bI (wtB S.d S.D.X i m) else u3 t, _, fun t g g2 => by
      show (if t = 0 * 40 + (2 * k + 1) then _ else u3 t) = _
      rw [if_neg (by omega)]
      exact hu3 t g, by
      show (if 40 * 0 + 2 * k = 0 * 40 + (2 * k + 1) then _ else u3 (40 * 0 + 2 * k)) = _
      rw [if_neg (by omega)]
      exact hx3, by
      show (if 40 * 0 + (2 * k + 1) = 0 * 40 + (2 * k + 1) then bI (wtB S.d S.D.X i m) else _) = _
      rw [if_pos (by omega)], hC5⟩
    refine xgo_eq (ih _ _ ⟨⟨u5, _, _, PR_ext hp hm hu5 hx5 hy5, fun j hj => ?_, ⟨t5, hC5⟩⟩, frC_t hf2 (frC_t hf3 (frC_t hf4 hf5))⟩) ?_ rfl rfl
    · show (if j = k then wtB S.d S.D.X i m else b j) = wtB S.d S.D.X i (if j = k then m else f j)
      by_cases e : j = k
      · rw [if_pos e, if_pos e]
      · rw [if_neg e, if_neg e]
        exact hb j (by omega)
    · ((repeat' (first | (with_reducible rfl) | exact xv_nil | refine xv_cons ?_ ?_ | refine xv_i ?_ | refine xv_l ?_)) <;> (simp (disch := omega) only [↓reduceIte, Bool.false_eq_true, Nat.one_mul, Nat.zero_mul, Nat.or_zero, Nat.add_zero, Nat.zero_add, Bool.toNat_true, Bool.toNat_false, shl_n, shr_n, fa_and, fa_or, nx_xor, nI_add, nI_mul, nI_sub', and_1, and_7, and_3', and_15]))
  · rintro I2 L2 ⟨⟨v, f, b, hp, hb, hC2⟩, hf2⟩
    refine xrun okL_took hhL_took [(131, [true, true, true, true, true, true, false, false, false, false, false, false, false])] 60 ?_
    (first | (refine xbr_f ?_ ?_; (focus ((simp (disch := omega) only [ix_lt, ix_le, ix_eq, ix_0, nI_clamp, nI_toInt, ng_T, nI_add, nI_mul, nI_sub', Int.neg_zero, not_false_eq_true, not_true_eq_false] <;> omega); done))) | (refine xbr_t ?_ ?_; (focus ((simp (disch := omega) only [ix_lt, ix_le, ix_eq, ix_0, nI_clamp, nI_toInt, ng_T, nI_add, nI_mul, nI_sub', Int.neg_zero, not_false_eq_true, not_true_eq_false] <;> omega); done))) | refine ⟨Or.inl rfl, ?_⟩ | refine ⟨Or.inr rfl, ?_⟩ | (refine ⟨?_, ?_⟩; (focus (exact in_nI (by omega) (by omega)))))
    exact h131 v f b I2 L2 hp hb hC2 hf2
