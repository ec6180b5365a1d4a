/-! THE LAW: lots of one seed are the same again; undone it is as ahead -/
theorem keepR_v {S S' : ST} {j : Nat} {o : Int32} (h : keepR S (nI j) o S') (hj : j < 3) (h0 : 0 < S.d.nA) : o = nI (S.D.z - 1) ∧ S' = kpS S j := by
  rcases h with ⟨n, -⟩ | ⟨j', e, h1, ⟨h2, -⟩ | ⟨-, h2⟩⟩
  · rw [ibB_n hj (by decide)] at n
    cases n
  · omega
  · obtain rfl := nI_j (by omega) (by omega) e
    exact h2
theorem undoR_v {S S' : ST} {m : Nat} {o : Int32} (h : undoR S (nI m) o S') (hz : S.D.z ≤ 41) (hm : m < S.D.z - 1) : o = nI (S.D.z - 1 - m) ∧ S' = S.wD (unD S.D m) := by
  rcases h with ⟨n, -⟩ | ⟨m', e, h1, ⟨h2, -⟩ | ⟨-, h2⟩⟩
  · rw [ibB_n (by omega) (by omega)] at n
    cases n
  · obtain rfl := nI_j (by omega) (by omega) e
    omega
  · obtain rfl := nI_j (by omega) (by omega) e
    exact h2
theorem lotsR_v {S S' : ST} {m x : Nat} {o : Int32} (h : lotsR S (nI m) (nI x) o S') (hm : 1 ≤ m ∧ m ≤ 20) (hx : 1 ≤ x ∧ x < 2147483647) (h0 : 0 < S.d.nA) (hz : S.D.z + m ≤ 41) : o = nI (pcf 32 (bsN (hmB (ltN S x m).d (ltN S x m).D.X) (ltN S x m).d.nL)) ∧ S' = ltN S x m := by
  rcases h with ⟨n, -⟩ | ⟨m', x', e1, h1, h2, e2, h3, h4, ⟨h5, -⟩ | ⟨-, h5, -⟩ | ⟨-, -, h5⟩⟩
  · refine absurd ?_ n
    rw [nI_toInt (by omega), nI_toInt (by omega)]
    refine ⟨?_, ?_, ?_, ?_⟩ <;> omega
  · omega
  · obtain rfl := nI_j (by omega) (by omega) e1
    omega
  · obtain rfl := nI_j (by omega) (by omega) e1
    obtain rfl := nI_j (by omega) (by omega) e2
    exact h5
/-- what the law's sum sees is the same -/
def ES (S S' : ST) : Prop := S'.d = S.d ∧ S'.D.X = S.D.X ∧ S'.D.b = S.D.b ∧ S'.D.z = S.D.z
theorem cnt_E {S S' : ST} (h : ES S S') : ∀ k, k < 8 → cntI S' k = cntI S k
  | 0, _ => by show nI S'.d.nA = nI S.d.nA; rw [h.1]
  | 1, _ => by show nI S'.d.nL = nI S.d.nL; rw [h.1]
  | 2, _ => by show nI (pcf 64 S'.D.b) = nI (pcf 64 S.D.b); rw [h.2.2.1]
  | 3, _ => by show nI (S'.D.z - 1) = nI (S.D.z - 1); rw [h.2.2.2]
  | 4, _ => by show nI (bsN (hmB S'.d S'.D.X) S'.d.nL) = nI (bsN (hmB S.d S.D.X) S.d.nL); rw [h.1, h.2.1]
  | 5, _ => by show nI (roN S'.d 5) = nI (roN S.d 5); rw [h.1]
  | 6, _ => by show nI (cnN (fun i => isN (kdN S'.d i) 1) S'.d.nA) = nI (cnN (fun i => isN (kdN S.d i) 1) S.d.nA); rw [h.1]
  | 7, _ => by show nI (cnN (fun i => isN (kdN S'.d i) 3) S'.d.nA) = nI (cnN (fun i => isN (kdN S.d i) 3) S.d.nA); rw [h.1]
  | k + 8, q => absurd q (by omega)
theorem hsh_E {S S' : ST} (h : ES S S') : hsh S' = hsh S := hsh_eq h.1 h.2.1 (cnt_E h)
theorem adD_E {S S' : ST} (h : ES S S') {Y Y' : Nat} (hY : Y' = Y) (c : Bool) : ES (S.wD (adD S.D Y c)) (S'.wD (adD S'.D Y' c)) := by
  obtain ⟨h1, h2, h3, h4⟩ := h
  refine ⟨h1, hY, ?_, ?_⟩
  · show (if c then S'.D.b ||| 2 ^ (S'.D.z - 1) else S'.D.b) = (if c then S.D.b ||| 2 ^ (S.D.z - 1) else S.D.b)
    rw [h3, h4]
  · show S'.D.z + 1 = S.D.z + 1
    rw [h4]
theorem lot_E {S S' : ST} (h : ES S S') (x : Nat) : ES (lotS S x) (lotS S' x) := by
  obtain ⟨h1, h2, h3, h4⟩ := h
  unfold lotS
  by_cases c0 : x / 8 % 4 = 0
  · rw [if_pos c0, if_pos c0, h1]
    exact adD_E ⟨h1, h2, h3, h4⟩ (by rw [h2]) false
  · rw [if_neg c0, if_neg c0]
    by_cases c1 : x / 8 % 4 = 1
    · rw [if_pos c1, if_pos c1, h1]
      exact adD_E ⟨h1, h2, h3, h4⟩ (by rw [h2]) false
    · rw [if_neg c1, if_neg c1]
      exact adD_E ⟨h1, h2, h3, h4⟩ (by rw [h1, h2]) true
theorem lt_E {S S' : ST} (h : ES S S') (x : Nat) : ∀ k, ES (ltN S x k) (ltN S' x k)
  | 0 => h
  | k + 1 => lot_E (lt_E h x k) _
theorem lot_ad (S : ST) (x : Nat) : ∃ Y c, (lotS S x).D = adD S.D Y c ∧ (lotS S x).kp = S.kp := by
  unfold lotS
  by_cases c0 : x / 8 % 4 = 0
  · rw [if_pos c0]
    exact ⟨_, _, rfl, rfl⟩
  · rw [if_neg c0]
    by_cases c1 : x / 8 % 4 = 1
    · rw [if_pos c1]
      exact ⟨_, _, rfl, rfl⟩
    · rw [if_neg c1]
      exact ⟨_, _, rfl, rfl⟩
theorem or_mod {b m n : Nat} (h : m ≤ n) : (b ||| 2 ^ n) % 2 ^ m = b % 2 ^ m := by
  apply Nat.eq_of_testBit_eq
  intro i
  rw [Nat.testBit_mod_two_pow, Nat.testBit_mod_two_pow, Nat.testBit_or, Nat.testBit_two_pow]
  by_cases hi : i < m
  · rw [decide_eq_false (show ¬ n = i by omega), Bool.or_false]
  · rw [decide_eq_false hi, Bool.false_and, Bool.false_and]
theorem lt_be {S : ST} (hz : 0 < S.D.z) (hb : S.D.b < 2 ^ (S.D.z - 1)) (x : Nat) : ∀ k, (ltN S x k).kp = S.kp ∧ (ltN S x k).D.b % 2 ^ (S.D.z - 1) = S.D.b ∧ (0 < k → (ltN S x k).D.be (S.D.z - 1) = S.D.X)
  | 0 => ⟨rfl, Nat.mod_eq_of_lt hb, fun q => absurd q (Nat.lt_irrefl 0)⟩
  | k + 1 => by
    obtain ⟨h1, h2, h3⟩ := lt_be hz hb x k
    obtain ⟨Y, c, e1, e2⟩ := lot_ad (ltN S x k) (xkN x (k + 1))
    obtain ⟨_, ez⟩ := ltN_dz S x k
    have e3 : (ltN S x (k + 1)).D = adD (ltN S x k).D Y c := e1
    refine ⟨e2.trans h1, ?_, fun _ => ?_⟩
    · rw [e3]
      show (if c then (ltN S x k).D.b ||| 2 ^ ((ltN S x k).D.z - 1) else (ltN S x k).D.b) % 2 ^ (S.D.z - 1) = _
      rw [ez]
      cases c
      · exact h2
      · show ((ltN S x k).D.b ||| 2 ^ (S.D.z + k - 1)) % 2 ^ (S.D.z - 1) = _
        rw [or_mod (by omega)]
        exact h2
    · rw [e3]
      show (if S.D.z - 1 = (ltN S x k).D.z - 1 then (ltN S x k).D.X else (ltN S x k).D.be (S.D.z - 1)) = _
      rw [ez]
      by_cases e : k = 0
      · subst e
        rw [if_pos (by omega)]
        rfl
      · rw [if_neg (by omega)]
        exact h3 (by omega)
theorem un_E {S : ST} (hz : 0 < S.D.z) (hb : S.D.b < 2 ^ (S.D.z - 1)) (x : Nat) {k : Nat} (hk : 0 < k) : ES S ((ltN S x k).wD (unD (ltN S x k).D (S.D.z - 1))) := by
  obtain ⟨_, h2, h3⟩ := lt_be hz hb x k
  refine ⟨(ltN_dz S x k).1, h3 hk, h2, ?_⟩
  show S.D.z - 1 + 1 = S.D.z
  omega
def csL_law : xCs := [(mX10_init, sX10_init), (mL_lays, sL_lays), (mL_stands, sL_stands), (mL_cell, sL_cell), (mL_acts, sL_acts), (mX10_count, sX10_count), (mL_hash, sL_hash), (mX10_keep, sX10_keep), (mL_goesOn, sL_goesOn), (mL_changed, sL_changed), (mL_matched, sL_matched), (mL_took, sL_took), (mL_chances, sL_chances), (mX10_lots, sX10_lots), (mX10_undo, sX10_undo), (mX10_on, sX10_on)]
theorem okL_law : xOkM mL_law csL_law := ⟨dL_law, by decide +kernel, by decide +kernel, ⟨⟨wdL_10, wdN7.1, wdN7.2, by decide⟩, wdL_87, wdAi, wdL_88, wdL_92, wdL_21, wdL_96, wdL_92, wdL_71, wdL_99, wdL_103, wdL_106, wdL_110, wdL_113, wdL_116, wdL_119, wdL_21, wdL_122, wdL_123, wdL_99, wdL_92, wdL_126, wdL_99, wdL_123, wdL_99, wdL_129, wdL_99, trivial⟩⟩
theorem hhL_law : ∀ q ∈ csL_law, xHd q.1 := xall1 hX10_init (xall1 hL_lays (xall1 hL_stands (xall1 hL_cell (xall1 hL_acts (xall1 hX10_count (xall1 hL_hash (xall1 hX10_keep (xall1 hL_goesOn (xall1 hL_changed (xall1 hL_matched (xall1 hL_took (xall1 hL_chances (xall1 hX10_lots (xall1 hX10_undo (xall1 hX10_on (xall0))))))))))))))))
theorem kkL_law : ∀ q ∈ csL_law, ∀ l, xCon l q.1 q.2 := xall1 kX10_init (xall1 kL_lays (xall1 kL_stands (xall1 kL_cell (xall1 kL_acts (xall1 kX10_count (xall1 kL_hash (xall1 kX10_keep (xall1 kL_goesOn (xall1 kL_changed (xall1 kL_matched (xall1 kL_took (xall1 kL_chances (xall1 kX10_lots (xall1 kX10_undo (xall1 kX10_on (xall0))))))))))))))))
set_option maxHeartbeats 3000000 in
set_option maxRecDepth 100000 in
theorem law_go {Q : xQ} (hQ : ∀ I L, Q (some (.int (nI 1))) 28 I L xP0) {I : xI} {L : xL} : xGo mL_law csL_law 0 Q (xpad (mL mL_law) [.ref 0]) [] 0 0 I L xP0 := by
  have ne0 : ¬ nI 1 = 0 := by decide
  -- behind the deeds
  have h94 : ∀ S I' L', 0 < S.d.nA → 0 < S.d.nL → S.D.z ≤ 7 → Lq S I' L' → WA S.d S.D.X (I' 27) → xGo mL_law csL_law 94 Q [some (.ref 0), some (.ref 1), some (.ref 27), some (.int (nI 1)), none, none, none, none, none, none, none] [] 27 27 I' L' xP0 := by
    rintro S I1 L1 hA hL hz ⟨v1, hC1⟩ hW1
    have hz0 : 0 < S.D.z := hC1.ok.z
    have hb : S.D.b < 2 ^ (S.D.z - 1) := hC1.ok.b
    have hw1 : wok S I1 := ⟨hW1.1, hW1.2.1⟩
    have c3 : cntI (S.wT v1) 3 = nI (S.D.z - 1) := rfl
    refine xrun okL_law hhL_law [] 200 ?_
    (first | (refine xbr_f ?_ ?_; (focus ((simp (disch := omega) only [ix_lt, ix_le, ix_eq, ix_0, nI_clamp, nI_toInt, ng_T, nI_add, nI_mul, nI_sub', Int.neg_zero, not_false_eq_true, not_true_eq_false] <;> omega); done))) | (refine xbr_t ?_ ?_; (focus ((simp (disch := omega) only [ix_lt, ix_le, ix_eq, ix_0, nI_clamp, nI_toInt, ng_T, nI_add, nI_mul, nI_sub', Int.neg_zero, not_false_eq_true, not_true_eq_false] <;> omega); done))) | refine ⟨Or.inl rfl, ?_⟩ | refine ⟨Or.inr rfl, ?_⟩ | (refine ⟨?_, ?_⟩; (focus (exact in_nI (by omega) (by omega)))))
    refine ⟨rfl, rfl, S.wT v1, _, rfl, hC1, fun q => ct_no (by decide) q, fun j e hj => ?_⟩
    obtain rfl := nI_j (by omega) (by omega) e
    rw [c3]
    (first | (refine xbr_f ?_ ?_; (focus ((simp (disch := omega) only [ix_lt, ix_le, ix_eq, ix_0, nI_clamp, nI_toInt, ng_T, nI_add, nI_mul, nI_sub', Int.neg_zero, not_false_eq_true, not_true_eq_false] <;> omega); done))) | (refine xbr_t ?_ ?_; (focus ((simp (disch := omega) only [ix_lt, ix_le, ix_eq, ix_0, nI_clamp, nI_toInt, ng_T, nI_add, nI_mul, nI_sub', Int.neg_zero, not_false_eq_true, not_true_eq_false] <;> omega); done))) | refine ⟨Or.inl rfl, ?_⟩ | refine ⟨Or.inr rfl, ?_⟩ | (refine ⟨?_, ?_⟩; (focus (exact in_nI (by omega) (by omega)))))
    refine ⟨rfl, rfl, S, rfl, ⟨v1, hC1⟩, hw1, fun I2 L2 hf2 hC2 => ?_⟩
    obtain ⟨v2, hC2⟩ := hC2
    (first | (refine xbr_f ?_ ?_; (focus ((simp (disch := omega) only [ix_lt, ix_le, ix_eq, ix_0, nI_clamp, nI_toInt, ng_T, nI_add, nI_mul, nI_sub', Int.neg_zero, not_false_eq_true, not_true_eq_false] <;> omega); done))) | (refine xbr_t ?_ ?_; (focus ((simp (disch := omega) only [ix_lt, ix_le, ix_eq, ix_0, nI_clamp, nI_toInt, ng_T, nI_add, nI_mul, nI_sub', Int.neg_zero, not_false_eq_true, not_true_eq_false] <;> omega); done))) | refine ⟨Or.inl rfl, ?_⟩ | refine ⟨Or.inr rfl, ?_⟩ | (refine ⟨?_, ?_⟩; (focus (exact in_nI (by omega) (by omega)))))
    refine ⟨rfl, rfl, S.wT v2, _, rfl, hC2, fun o S3 I3 L3 hr3 hf3 hC3 => ?_⟩
    have hz9 := keepR_v hr3 (by decide) hA
    simp only [wT_d, wT_D, wT_kp, wT_rz, wT_rv, wR_d, wR_D, wR_kp, wR_rz, wR_rv, wC_d, wC_D, wC_kp, wC_rz, wC_rv, wD_d, wD_D, wD_kp, wD_rz, wD_rv] at hz9
    obtain ⟨q1, q2⟩ : o = nI (S.D.z - 1) ∧ S3 = (kpS S 2).wT v2 := hz9
    subst q1
    subst q2
    refine xbr_t rfl ?_
    have hf13 := frC_t hf2 hf3
    have hkp : (kpS S 2).kp 2 = (kpS S 2).D := rfl
    have e1 : hsh (kpS S 2) = hsh S := hsh_dD rfl rfl
    refine ⟨rfl, rfl, kpS S 2, by rw [e1], ⟨v2, hC3⟩, ⟨by rw [f27 hf13]; exact hW1.1, by rw [f27 hf13]; exact hW1.2.1, fun k hk => by rw [f27 hf13]; exact hW1.2.2.1 k hk⟩, hA, hL, hkp, by show S.D.z ≤ 20; omega, fun I4 L4 hW4 hC4 => ?_⟩
    refine xbr_f ne0 ?_
    refine ⟨rfl, rfl, kpS S 2, by rw [e1], hC4, hW4.wok, hA, hL, hkp, by show S.D.z ≤ 20; omega, fun I5 L5 hf5 hC5 => ?_⟩
    have hw5 : I5 27 0 = nI S.d.nA ∧ I5 27 1 = nI S.d.nL := by rw [f27 hf5]; exact ⟨hW4.1, hW4.2.1⟩
    refine xbr_f ne0 ?_
    refine ⟨rfl, rfl, kpS S 2, rfl, hC5, hw5, hA, hL, fun S6 I6 L6 d6 D6 k6 hf6 hC6 => ?_⟩
    have hw6 : I6 27 0 = nI S.d.nA ∧ I6 27 1 = nI S.d.nL := by rw [f27 hf6]; exact hw5
    have d6 : S6.d = S.d := d6
    have D6 : S6.D = S.D := D6
    refine xbr_f ne0 ?_
    refine ⟨rfl, rfl, S6, rfl, hC6, by rw [wok, d6]; exact hw6, by rw [d6]; exact hA, by rw [d6]; exact hL, fun S7 I7 L7 d7 D7 k7 hf7 hC7 => ?_⟩
    have hw7 : I7 27 0 = nI S.d.nA ∧ I7 27 1 = nI S.d.nL := by rw [f27 hf7]; exact hw6
    have d7 := d7.trans d6
    have D7 := D7.trans D6
    have k7 : S7.kp 2 = S.D := by rw [k7, k6]; rfl
    refine xbr_f ne0 ?_
    refine ⟨rfl, rfl, S7, by rw [hsh_dD (S := S) (S' := S7) d7 D7], hC7, by rw [wok, d7]; exact hw7, by rw [d7]; exact hA, by rw [d7]; exact hL, by rw [k7, D7], by rw [D7]; omega, fun S8 I8 L8 d8 D8 k8 hf8 hC8 => ?_⟩
    have hw8 : I8 27 0 = nI S.d.nA ∧ I8 27 1 = nI S.d.nL := by rw [f27 hf8]; exact hw7
    have d8 := d8.trans d7
    have D8 := D8.trans D7
    have k8 : S8.kp 2 = S.D := by rw [k8]; exact k7
    refine xbr_f ne0 ?_
    refine ⟨rfl, rfl, 18, rfl, by decide, fun x hx => ?_⟩
    refine ⟨by decide, ?_⟩
    rw [pk_rem hx (by decide) (by decide)]
    have hm9 : x % 2147483646 < 2147483646 := Nat.mod_lt _ (by decide)
    generalize x % 2147483646 = m9 at hm9
    (first | (refine xbr_f ?_ ?_; (focus ((simp (disch := omega) only [ix_lt, ix_le, ix_eq, ix_0, nI_clamp, nI_toInt, ng_T, nI_add, nI_mul, nI_sub', Int.neg_zero, not_false_eq_true, not_true_eq_false] <;> omega); done))) | (refine xbr_t ?_ ?_; (focus ((simp (disch := omega) only [ix_lt, ix_le, ix_eq, ix_0, nI_clamp, nI_toInt, ng_T, nI_add, nI_mul, nI_sub', Int.neg_zero, not_false_eq_true, not_true_eq_false] <;> omega); done))) | refine ⟨Or.inl rfl, ?_⟩ | refine ⟨Or.inr rfl, ?_⟩ | (refine ⟨?_, ?_⟩; (focus (exact in_nI (by omega) (by omega)))))
    rw [nI_add]
    have hx2 : 1 + m9 < 2147483647 := by omega
    have hx1 : 1 ≤ 1 + m9 := by omega
    generalize 1 + m9 = y at hx1 hx2
    obtain ⟨v8, hC8⟩ := hC8
    have z8 : S8.D.z = S.D.z := by rw [D8]
    refine ⟨rfl, rfl, S8.wT v8, _, _, rfl, hC8, fun o S9 I9 L9 hr9 hf9 hC9 => ?_⟩
    obtain ⟨K, hK⟩ : ∃ K, K = 20 := ⟨20, rfl⟩
    have eK : nI 20 = nI K := by rw [hK]
    rw [eK] at hr9
    obtain ⟨q1, q2⟩ := lotsR_v hr9 ⟨by omega, by omega⟩ ⟨hx1, hx2⟩ (by show 0 < S8.d.nA; rw [d8]; exact hA) (by show S8.D.z + K ≤ 41; omega)
    have hw9 : I9 27 0 = nI S.d.nA ∧ I9 27 1 = nI S.d.nL := by rw [f27 hf9]; exact hw8
    -- the state ahead of the lots; behind them
    obtain ⟨T, hT⟩ : ∃ T, T = S8.wT v8 := ⟨_, rfl⟩
    rw [← hT] at q1 q2
    have dT : T.d = S.d := by rw [hT]; exact d8
    have DT : T.D = S.D := by rw [hT]; exact D8
    have kT : T.kp 2 = S.D := by rw [hT]; exact k8
    obtain ⟨d9, z9⟩ := ltN_dz T y K
    obtain ⟨k9, _, _⟩ := lt_be (S := T) (by rw [DT]; exact hz0) (by rw [DT]; exact hb) y K
    have eU := un_E (S := T) (by rw [DT]; exact hz0) (by rw [DT]; exact hb) y (k := K) (by omega)
    have eL := lt_E eU y K
    subst q2
    generalize hR : ltN T y K = R at *
    have dR : R.d = S.d := d9.trans dT
    have zR : R.D.z = S.D.z + 20 := by rw [z9, DT, hK]
    have kR : R.kp 2 = S.D := by rw [k9, kT]
    subst q1
    (first | (refine xbr_f ?_ ?_; (focus ((simp (disch := omega) only [ix_lt, ix_le, ix_eq, ix_0, nI_clamp, nI_toInt, ng_T, nI_add, nI_mul, nI_sub', Int.neg_zero, not_false_eq_true, not_true_eq_false] <;> omega); done))) | (refine xbr_t ?_ ?_; (focus ((simp (disch := omega) only [ix_lt, ix_le, ix_eq, ix_0, nI_clamp, nI_toInt, ng_T, nI_add, nI_mul, nI_sub', Int.neg_zero, not_false_eq_true, not_true_eq_false] <;> omega); done))) | refine ⟨Or.inl rfl, ?_⟩ | refine ⟨Or.inr rfl, ?_⟩ | (refine ⟨?_, ?_⟩; (focus (exact in_nI (by omega) (by omega)))))
    have hC9' : Lq R I9 L9 := ⟨R.to, hC9⟩
    refine ⟨rfl, rfl, R, rfl, hC9', by rw [wok, dR]; exact hw9, fun I10 L10 hf10 hC10 => ?_⟩
    have hw10 : I10 27 0 = nI S.d.nA ∧ I10 27 1 = nI S.d.nL := by rw [f27 hf10]; exact hw9
    (first | (refine xbr_f ?_ ?_; (focus ((simp (disch := omega) only [ix_lt, ix_le, ix_eq, ix_0, nI_clamp, nI_toInt, ng_T, nI_add, nI_mul, nI_sub', Int.neg_zero, not_false_eq_true, not_true_eq_false] <;> omega); done))) | (refine xbr_t ?_ ?_; (focus ((simp (disch := omega) only [ix_lt, ix_le, ix_eq, ix_0, nI_clamp, nI_toInt, ng_T, nI_add, nI_mul, nI_sub', Int.neg_zero, not_false_eq_true, not_true_eq_false] <;> omega); done))) | refine ⟨Or.inl rfl, ?_⟩ | refine ⟨Or.inr rfl, ?_⟩ | (refine ⟨?_, ?_⟩; (focus (exact in_nI (by omega) (by omega)))))
    refine ⟨rfl, rfl, R, rfl, hC10, by rw [wok, dR]; exact hw10, fun I11 L11 hf11 hC11 => ?_⟩
    have hw11 : I11 27 0 = nI S.d.nA ∧ I11 27 1 = nI S.d.nL := by rw [f27 hf11]; exact hw10
    refine xbr_f ne0 ?_
    obtain ⟨v11, hC11⟩ := hC11
    refine ⟨rfl, rfl, R.wT v11, _, rfl, hC11, fun o S12 I12 L12 hr12 hf12 hC12 => ?_⟩
    have hw12 : I12 27 0 = nI S.d.nA ∧ I12 27 1 = nI S.d.nL := by rw [f27 hf12]; exact hw11
    obtain ⟨q1, q2⟩ := undoR_v hr12 (by show R.D.z ≤ 41; omega) (by show S.D.z - 1 < R.D.z - 1; omega)
    have q1 : o = nI (R.D.z - 1 - (S.D.z - 1)) := q1
    rw [show R.D.z - 1 - (S.D.z - 1) = 20 by omega] at q1
    subst q1
    subst q2
    refine xbr_t rfl ?_
    have hzT : T.D.z - 1 = S.D.z - 1 := by rw [DT]
    rw [hzT] at eU eL
    -- undone
    obtain ⟨U, hU⟩ : ∃ U, U = R.wD (unD R.D (S.D.z - 1)) := ⟨_, rfl⟩
    rw [← hU] at eU eL
    have hC12 : Cls (U.wT v11) I12 L12 := by rw [hU]; exact hC12
    have dU : U.d = S.d := eU.1.trans dT
    have zU : U.D.z = S.D.z := by rw [eU.2.2.2, DT]
    have kU : U.kp 2 = S.D := by rw [hU]; exact kR
    have eST : hsh T = hsh S := hsh_dD dT DT
    refine ⟨rfl, rfl, U, rfl, ⟨v11, hC12⟩, by rw [wok, dU]; exact hw12, fun I13 L13 hf13 hC13 => ?_⟩
    have hw13 : I13 27 0 = nI S.d.nA ∧ I13 27 1 = nI S.d.nL := by rw [f27 hf13]; exact hw12
    rw [(hsh_E eU).trans eST]
    refine xbr_t (lcmp_0 _) ?_
    obtain ⟨v13, hC13⟩ := hC13
    refine ⟨rfl, rfl, U.wT v13, _, _, rfl, hC13, fun o S14 I14 L14 hr14 hf14 hC14 => ?_⟩
    have hw14 : I14 27 0 = nI S.d.nA ∧ I14 27 1 = nI S.d.nL := by rw [f27 hf14]; exact hw13
    rw [eK] at hr14
    obtain ⟨q1, q2⟩ := lotsR_v hr14 ⟨by omega, by omega⟩ ⟨hx1, hx2⟩ (by show 0 < U.d.nA; rw [dU]; exact hA) (by show U.D.z + K ≤ 41; omega)
    have eV : ES R (ltN (U.wT v13) y K) := by
      have : ES (ltN U y K) (ltN (U.wT v13) y K) := lt_E (S := U) (S' := U.wT v13) ⟨rfl, rfl, rfl, rfl⟩ y K
      exact ⟨this.1.trans eL.1, this.2.1.trans eL.2.1, this.2.2.1.trans eL.2.2.1, this.2.2.2.trans eL.2.2.2⟩
    have kV : (ltN (U.wT v13) y K).kp 2 = S.D := by
      rw [(lt_be (S := U.wT v13) (by show 0 < U.D.z; omega) (by show U.D.b < 2 ^ (U.D.z - 1); rw [eU.2.2.1, eU.2.2.2, DT]; exact hb) y K).1]
      exact kU
    subst q2
    generalize ltN (U.wT v13) y K = V at *
    have dV : V.d = S.d := eV.1.trans dR
    rw [eV.1, eV.2.1] at q1
    subst q1
    refine xbr_t rfl ?_
    have hC14' : Lq V I14 L14 := ⟨V.to, hC14⟩
    refine ⟨rfl, rfl, V, rfl, hC14', by rw [wok, dV]; exact hw14, fun I15 L15 hf15 hC15 => ?_⟩
    have hw15 : I15 27 0 = nI S.d.nA ∧ I15 27 1 = nI S.d.nL := by rw [f27 hf15]; exact hw14
    rw [hsh_E eV]
    refine xbr_t (lcmp_0 _) ?_
    (first | (refine xbr_f ?_ ?_; (focus ((simp (disch := omega) only [ix_lt, ix_le, ix_eq, ix_0, nI_clamp, nI_toInt, ng_T, nI_add, nI_mul, nI_sub', Int.neg_zero, not_false_eq_true, not_true_eq_false] <;> omega); done))) | (refine xbr_t ?_ ?_; (focus ((simp (disch := omega) only [ix_lt, ix_le, ix_eq, ix_0, nI_clamp, nI_toInt, ng_T, nI_add, nI_mul, nI_sub', Int.neg_zero, not_false_eq_true, not_true_eq_false] <;> omega); done))) | refine ⟨Or.inl rfl, ?_⟩ | refine ⟨Or.inr rfl, ?_⟩ | (refine ⟨?_, ?_⟩; (focus (exact in_nI (by omega) (by omega)))))
    obtain ⟨v15, hC15⟩ := hC15
    refine ⟨rfl, rfl, V.wT v15, _, rfl, hC15, fun o S16 I16 L16 hr16 hf16 hC16 => ?_⟩
    have hw16 : I16 27 0 = nI S.d.nA ∧ I16 27 1 = nI S.d.nL := by rw [f27 hf16]; exact hw15
    have kV' : (V.wT v15).kp 2 = S.D := kV
    obtain ⟨q1, q2⟩ := onR_v hr16 (by decide) (by rw [kV']; exact hz0)
    rw [kV'] at q1 q2
    subst q1
    subst q2
    refine xbr_t rfl ?_
    refine ⟨rfl, rfl, V.wD S.D, rfl, ⟨v15, hC16⟩, by rw [wok]; show I16 27 0 = nI V.d.nA ∧ I16 27 1 = nI V.d.nL; rw [dV]; exact hw16, fun I17 L17 hf17 hC17 => ?_⟩
    rw [hsh_dD (S := S) (S' := V.wD S.D) dV rfl]
    refine xbr_t (lcmp_0 _) ?_
    refine ⟨Or.inr rfl, ?_⟩
    exact hQ I17 L17
  refine xrun okL_law hhL_law [(39, [true, true, true, true, true, false, false, false, false, false, false])] 60 ?_
  refine ⟨rfl, rfl, rfl, rfl, fun I1 L1 e1 hC => ?_⟩
  refine ⟨rfl, ?_⟩
  refine ⟨rfl, rfl, rfl, ⟨S0.to, Cls_lk (Cls_wk hC (by decide) _) (by decide) _⟩, xrw_s _ _ _, fun S2 I2 L2 hA hL hz hC2 hW2 => ?_⟩
  refine xbr_f ne0 ?_
  refine ⟨rfl, rfl, S2, rfl, hC2, ⟨hW2.1, hW2.2.1⟩, fun I3 L3 hf3 hC3 => ?_⟩
  refine xbr_f ne0 ?_
  refine xgo_eq (xlpK (M := mL_law) (cs := csL_law) (pc := 39) 6 (fun k => [some (.ref 0), some (.ref 1), some (.ref 27), some (.int (nI 1)), some (.int (nI k)), none, none, none, none, none, none]) (fun k I' L' => ∃ S, 0 < S.d.nA ∧ 0 < S.d.nL ∧ S.D.z ≤ 1 + k ∧ Lq S I' L' ∧ WA S.d S.D.X (I' 27)) ?_ ?_ ⟨S2, hA, hL, by omega, hC3, by rw [f27 hf3]; exact hW2⟩) rfl rfl rfl
  · rintro k hk I4 L4 ⟨S4, a4, b4, z4, hC4, hW4⟩ ih
    refine xrun okL_law hhL_law [(39, [true, true, true, true, true, false, false, false, false, false, false])] 80 ?_
    (first | (refine xbr_f ?_ ?_; (focus ((simp (disch := omega) only [ix_lt, ix_le, ix_eq, ix_0, nI_clamp, nI_toInt, ng_T, nI_add, nI_mul, nI_sub', Int.neg_zero, not_false_eq_true, not_true_eq_false] <;> omega); done))) | (refine xbr_t ?_ ?_; (focus ((simp (disch := omega) only [ix_lt, ix_le, ix_eq, ix_0, nI_clamp, nI_toInt, ng_T, nI_add, nI_mul, nI_sub', Int.neg_zero, not_false_eq_true, not_true_eq_false] <;> omega); done))) | refine ⟨Or.inl rfl, ?_⟩ | refine ⟨Or.inr rfl, ?_⟩ | (refine ⟨?_, ?_⟩; (focus (exact in_nI (by omega) (by omega)))))
    (first | (refine xbr_f ?_ ?_; (focus ((simp (disch := omega) only [ix_lt, ix_le, ix_eq, ix_0, nI_clamp, nI_toInt, ng_T, nI_add, nI_mul, nI_sub', Int.neg_zero, not_false_eq_true, not_true_eq_false] <;> omega); done))) | (refine xbr_t ?_ ?_; (focus ((simp (disch := omega) only [ix_lt, ix_le, ix_eq, ix_0, nI_clamp, nI_toInt, ng_T, nI_add, nI_mul, nI_sub', Int.neg_zero, not_false_eq_true, not_true_eq_false] <;> omega); done))) | refine ⟨Or.inl rfl, ?_⟩ | refine ⟨Or.inr rfl, ?_⟩ | (refine ⟨?_, ?_⟩; (focus (exact in_nI (by omega) (by omega)))))
    refine ⟨rfl, rfl, 7 + k, by rw [nI_add], by omega, fun x hx => ?_⟩
    refine ⟨rfl, rfl, S4, x / 2 ^ 9 % 8192, by rw [shr_n (k := 9) hx (by decide), fa_and, show x / 2 ^ 9 &&& 8191 = x / 2 ^ 9 % 8192 from Nat.and_two_pow_sub_one_eq_mod _ 13], by omega, hC4, a4, b4, by omega, hW4, fun S5 I5 L5 d5 z5 hC5 hW5 => ?_⟩
    refine xbr_f ne0 ?_
    refine ⟨rfl, rfl, S5, rfl, hC5, ⟨hW5.1, hW5.2.1⟩, fun I6 L6 hf6 hC6 => ?_⟩
    refine xbr_f ne0 ?_
    refine xgo_eq (ih _ _ ⟨S5, by rw [d5]; exact a4, by rw [d5]; exact b4, by omega, hC6, by rw [f27 hf6]; exact hW5⟩) ?_ rfl rfl
    ((repeat' (first | (with_reducible rfl) | exact xv_nil | refine xv_cons ?_ ?_ | refine xv_i ?_ | refine xv_l ?_)) <;> (simp (disch := omega) only [↓reduceIte, Bool.false_eq_true, Nat.one_mul, Nat.zero_mul, Nat.or_zero, Nat.add_zero, Nat.zero_add, Bool.toNat_true, Bool.toNat_false, shl_n, shr_n, fa_and, fa_or, nx_xor, nI_add, nI_mul, nI_sub', and_1, and_7, and_3', and_15]))
  · rintro I4 L4 ⟨S4, a4, b4, z4, hC4, hW4⟩
    refine xrun okL_law hhL_law [(94, [true, true, true, true, false, false, false, false, false, false, false])] 60 ?_
    (first | (refine xbr_f ?_ ?_; (focus ((simp (disch := omega) only [ix_lt, ix_le, ix_eq, ix_0, nI_clamp, nI_toInt, ng_T, nI_add, nI_mul, nI_sub', Int.neg_zero, not_false_eq_true, not_true_eq_false] <;> omega); done))) | (refine xbr_t ?_ ?_; (focus ((simp (disch := omega) only [ix_lt, ix_le, ix_eq, ix_0, nI_clamp, nI_toInt, ng_T, nI_add, nI_mul, nI_sub', Int.neg_zero, not_false_eq_true, not_true_eq_false] <;> omega); done))) | refine ⟨Or.inl rfl, ?_⟩ | refine ⟨Or.inr rfl, ?_⟩ | (refine ⟨?_, ?_⟩; (focus (exact in_nI (by omega) (by omega)))))
    exact h94 S4 I4 L4 a4 b4 z4 hC4 hW4
