/-! CHANCES, the walk -/
theorem cnt_dD {S S' : ST} (hd : S'.d = S.d) (hD : S'.D = S.D) : ∀ k, k < 8 → cntI S' k = cntI S k
  | 0, _ => by show nI S'.d.nA = nI S.d.nA; rw [hd]
  | 1, _ => by show nI S'.d.nL = nI S.d.nL; rw [hd]
  | 2, _ => by show nI (pcf 64 S'.D.b) = nI (pcf 64 S.D.b); rw [hD]
  | 3, _ => by show nI (S'.D.z - 1) = nI (S.D.z - 1); rw [hD]
  | 4, _ => by show nI (bsN (hmB S'.d S'.D.X) S'.d.nL) = nI (bsN (hmB S.d S.D.X) S.d.nL); rw [hd, hD]
  | 5, _ => by show nI (roN S'.d 5) = nI (roN S.d 5); rw [hd]
  | 6, _ => by show nI (cnN (fun i => isN (kdN S'.d i) 1) S'.d.nA) = nI (cnN (fun i => isN (kdN S.d i) 1) S.d.nA); rw [hd]
  | 7, _ => by show nI (cnN (fun i => isN (kdN S'.d i) 3) S'.d.nA) = nI (cnN (fun i => isN (kdN S.d i) 3) S.d.nA); rw [hd]
  | k + 8, h => absurd h (by omega)
theorem hsh_dD {S S' : ST} (hd : S'.d = S.d) (hD : S'.D = S.D) : hsh S' = hsh S := hsh_eq hd (by rw [hD]) (cnt_dD hd hD)
theorem oddsR_v {S S' : ST} {a m : Nat} {o : Int32} (h : oddsR S (nI a) (nI m) o S') (hd : S.d.ok) (ha : a < S.d.nL) (hm : m < 13) : o = nI 1 ∧ S' = otS S a m := by
  have h5 := hd.l5
  rcases h with ⟨n, -⟩ | ⟨a', m', e1, h1, e2, h2, h3⟩
  · exact absurd ⟨ibB_n ha (by omega), ibB_n hm (by decide)⟩ n
  · obtain rfl := nI_j (by omega) (by omega) e1
    obtain rfl := nI_j (by omega) (by omega) e2
    exact h3
theorem midR_v {S S' : ST} {m : Nat} {o : Int32} (h : midR S (nI m) o S') (hm : m < 13) (h0 : 0 < S.d.nA) : o = nI 1 ∧ S' = ohS S m := by
  rcases h with ⟨n, -⟩ | ⟨m', e2, h2, ⟨h3, -⟩ | ⟨_, h3⟩⟩
  · rw [ibB_n hm (by decide)] at n
    cases n
  · omega
  · obtain rfl := nI_j (by omega) (by omega) e2
    exact h3
theorem wCT (S : ST) (a b x y : Int64) (t : Int32) : ((S.wC a b).wT t).wC x y = (S.wC x y).wT t := rfl
theorem ohS_e (S : ST) (a b : Int64) (t : Int32) (p : Nat) : ohS ((S.wC a b).wT t) p = (S.wC (lN (ohN S.d S.D.X p (2 ^ S.d.nA) / Nat.gcd (ohN S.d S.D.X p (2 ^ S.d.nA)) (12 ^ S.d.nA))) (lN (12 ^ S.d.nA / Nat.gcd (ohN S.d S.D.X p (2 ^ S.d.nA)) (12 ^ S.d.nA)))).wT t := by
  unfold ohS
  rw [wCT]
  simp only [wT_d, wT_D, wT_kp, wT_rz, wT_rv, wR_d, wR_D, wR_kp, wR_rz, wR_rv, wC_d, wC_D, wC_kp, wC_rz, wC_rv, wD_d, wD_D, wD_kp, wD_rz, wD_rv]
theorem otS_e (S : ST) (a b : Int64) (t : Int32) (l p : Nat) : otS ((S.wC a b).wT t) l p = (S.wC (lN (otN S.d S.D.X l p (2 ^ S.d.nA) / Nat.gcd (otN S.d S.D.X l p (2 ^ S.d.nA)) (12 ^ S.d.nA))) (lN (12 ^ S.d.nA / Nat.gcd (otN S.d S.D.X l p (2 ^ S.d.nA)) (12 ^ S.d.nA)))).wT t := by
  unfold otS
  rw [wCT]
  simp only [wT_d, wT_D, wT_kp, wT_rz, wT_rv, wR_d, wR_D, wR_kp, wR_rz, wR_rv, wC_d, wC_D, wC_kp, wC_rz, wC_rv, wD_d, wD_D, wD_kp, wD_rz, wD_rv]
theorem dyS_d (A : ST) : (dyS A).d = A.d := by
  unfold dyS
  exact wD_d _ _
theorem dyS_kp (A : ST) : (dyS A).kp = A.kp := by
  unfold dyS
  exact wD_kp _ _
theorem adD_X (D : DD) (X : Nat) (b : Bool) : (adD D X b).X = X := rfl
theorem dyS_X (A : ST) : (dyS A).D.X = dayN A.d A.D.X := by
  unfold dyS
  rw [wD_D, adD_X]
theorem wDD (A : ST) (D E : DD) : (A.wD D).wD E = A.wD E := rfl
theorem wD_s (A : ST) : A.wD A.D = A := rfl
theorem dyS_b (A : ST) : (dyS A).wD A.D = A := by
  unfold dyS
  rw [wDD, wD_s]
theorem dyS_c (S : ST) (x y : Int64) (t : Int32) : (dyS ((S.wC x y).wT t)).wD S.D = (S.wC x y).wT t := by
  have h := dyS_b ((S.wC x y).wT t)
  simp only [wT_d, wT_D, wT_kp, wT_rz, wT_rv, wR_d, wR_D, wR_kp, wR_rz, wR_rv, wC_d, wC_D, wC_kp, wC_rz, wC_rv, wD_d, wD_D, wD_kp, wD_rz, wD_rv] at h
  exact h
theorem cnt_4 (A : ST) : cntI A 4 = nI (bsN (hmB A.d A.D.X) A.d.nL) := rfl
theorem cnt_4d (S : ST) (x y : Int64) (t : Int32) : cntI (dyS ((S.wC x y).wT t)) 4 = nI (bsN (hmB S.d (dayN S.d S.D.X)) S.d.nL) := by
  rw [cnt_4, dyS_d, dyS_X]
  simp only [wT_d, wT_D, wT_kp, wT_rz, wT_rv, wR_d, wR_D, wR_kp, wR_rz, wR_rv, wC_d, wC_D, wC_kp, wC_rz, wC_rv, wD_d, wD_D, wD_kp, wD_rz, wD_rv]
theorem T_b {d : PD} (hd : d.ok) : 0 < 12 ^ d.nA ∧ 12 ^ d.nA ≤ 20736 := ⟨Nat.pow_pos (by decide), Nat.le_trans (Nat.pow_le_pow_right (n := 12) (j := 4) (by decide) hd.a4) (by decide)⟩
def csL_chances : xCs := [(mL_cell, sL_cell), (mX10_odds, sX10_odds), (mX10_upper, sX10_upper), (mX10_lower, sX10_lower), (mL_at, sL_at), (mX10_mid, sX10_mid), (mX10_count, sX10_count), (mL_size, sL_size), (mX10_day, sX10_day), (mX10_on, sX10_on), (mL_hash, sL_hash)]
theorem okL_chances : xOkM mL_chances csL_chances := ⟨dL_chances, by decide +kernel, by decide +kernel, ⟨wdL_21, wdL_203, wdL_206, wdL_210, wdL_206, wdL_210, wdL_203, wdL_206, wdL_140, wdL_210, wdL_203, wdL_206, wdL_213, wdL_206, wdL_71, wdL_159, wdL_213, wdL_206, wdL_71, wdL_159, wdL_210, wdL_206, wdL_210, wdL_213, wdL_206, wdL_210, wdL_65, wdL_71, wdL_159, wdL_129, wdL_99, trivial⟩⟩
theorem hhL_chances : ∀ q ∈ csL_chances, xHd q.1 := xall1 hL_cell (xall1 hX10_odds (xall1 hX10_upper (xall1 hX10_lower (xall1 hL_at (xall1 hX10_mid (xall1 hX10_count (xall1 hL_size (xall1 hX10_day (xall1 hX10_on (xall1 hL_hash (xall0)))))))))))
theorem kkL_chances : ∀ q ∈ csL_chances, ∀ l, xCon l q.1 q.2 := xall1 kL_cell (xall1 kX10_odds (xall1 kX10_upper (xall1 kX10_lower (xall1 kL_at (xall1 kX10_mid (xall1 kX10_count (xall1 kL_size (xall1 kX10_day (xall1 kX10_on (xall1 kL_hash (xall0)))))))))))
def sL_chances : xSpec := xRg7 fun as I L Q => ∃ (S : ST), as = [.ref 1, .ref 0, .ref 27, .long (hsh S)] ∧ Lq S I L ∧ wok S I ∧ 0 < S.d.nA ∧ 0 < S.d.nL ∧ S.kp 2 = S.D ∧ S.D.z ≤ 20 ∧ ∀ S' I' L', S'.d = S.d → S'.D = S.D → S'.kp = S.kp → frC I L I' L' → Lq S' I' L' → Q (some (.int (nI 1))) I' L'
set_option maxHeartbeats 3000000 in
set_option maxRecDepth 100000 in
theorem kL_chances : ∀ l, xCon l mL_chances sL_chances := by
  refine xcon_of okL_chances hL_chances rfl hhL_chances kkL_chances ?_
  rintro as n0 I L P Q ⟨hn9, rfl, S, rfl, hC, hw, hA, hL, hkp, hz, hQ⟩
  obtain ⟨e9, rfl⟩ := xe7 hn9
  refine ⟨Nat.le_of_ble_eq_true rfl, ?_⟩
  have hd : S.d.ok := hC.ok.d
  have h4 : S.d.nA ≤ 4 := hd.a4
  have h5 : S.d.nL ≤ 5 := hd.l5
  have hz0 : 0 < S.D.z := hC.ok.z
  have W1 : ∀ {I' L'}, frC I L I' L' → I' 27 (nI 1).toNatClampNeg = nI S.d.nL := fun f => by rw [f27 f, nI_clamp (by decide)]; exact hw.2
  have vp1 : vp_in (nI 1) 64 := in_nI (by omega) (by decide)
  obtain ⟨hT0, hT⟩ := T_b hd
  have fov : ∀ (A : ST) (x y : Int64) (t : Int32), ((A.wC x y).wT t).ov = x := fun _ _ _ _ => rfl
  have fun' : ∀ (A : ST) (x y : Int64) (t : Int32), ((A.wC x y).wT t).un = y := fun _ _ _ _ => rfl
  have fA : ∀ (x y : Int64) (t : Int32), 0 < ((S.wC x y).wT t).d.nA := fun _ _ _ => hA
  have fd : ∀ (x y : Int64) (t : Int32), ((S.wC x y).wT t).d.ok := fun _ _ _ => hd
  have fz : ∀ (x y : Int64) (t : Int32), ((S.wC x y).wT t).D.z < 41 := fun _ _ _ => by show S.D.z < 41; omega
  -- the means
  have h149 : ∀ p a b I' L', p < 13 → Lq (S.wC a b) I' L' → frC I L I' L' → xGo mL_chances csL_chances 149 Q [some (.ref 1), some (.ref 0), some (.ref 27), some (.long (hsh S)), none, some (.int (nI p)), some (.int (nI 1)), some (.int (nI S.d.nL)), none] [] 0 (e9 + 27) I' L' xP0 := by
    rintro p a b I1 L1 hp ⟨t1, hC1⟩ hf1
    have hB : bsN (hmB S.d S.D.X) S.d.nL < 32 := Nat.lt_of_lt_of_le (bsN_lt _ _) (Nat.pow_le_pow_right (n := 2) (j := 5) (by decide) h5)
    have hB2 : bsN (hmB S.d (dayN S.d S.D.X)) S.d.nL < 32 := Nat.lt_of_lt_of_le (bsN_lt _ _) (Nat.pow_le_pow_right (n := 2) (j := 5) (by decide) h5)
    have hh := hc_le hd S.D.X
    have hh2 := hc_le hd (dayN S.d S.D.X)
    have e1 : cnN (tbB (bsN (hmB S.d S.D.X) S.d.nL)) 16 = hcN S.d S.D.X := by rw [cn_tb (by omega), hc_cn hd]
    have e2 : cnN (tbB (bsN (hmB S.d (dayN S.d S.D.X)) S.d.nL)) 16 = hcN S.d (dayN S.d S.D.X) := by rw [cn_tb (by omega), hc_cn hd]
    have c4 : ∀ x y t, cntI ((S.wC x y).wT t) 4 = nI (bsN (hmB S.d S.D.X) S.d.nL) := fun _ _ _ => rfl
    obtain ⟨m12, n12⟩ := fr_m (a := hcN S.d S.D.X) hT0
    rw [← oh_12 hd] at m12 n12
    obtain ⟨m0, n0⟩ := fr_m (a := hcN S.d (dayN S.d S.D.X)) hT0
    rw [← oh_0 hd] at m0 n0
    obtain ⟨o1, o2⟩ := oh_all hd S.D.X hp
    obtain ⟨b1, b2⟩ := fr_b hT0 o1 o2
    have b3 : 12 ^ S.d.nA / Nat.gcd (ohN S.d S.D.X p (2 ^ S.d.nA)) (12 ^ S.d.nA) ≤ 20736 := Nat.le_trans (Nat.div_le_self _ _) hT
    have b4 : S.d.nL * (12 ^ S.d.nA / Nat.gcd (ohN S.d S.D.X p (2 ^ S.d.nA)) (12 ^ S.d.nA)) ≤ 5 * 20736 := Nat.mul_le_mul h5 b3
    refine xrun okL_chances hhL_chances [] 200 ?_
    (first | (refine xbr_f ?_ ?_; (focus ((simp (disch := omega) only [ix_lt, ix_le, ix_eq, ix_0, nI_clamp, nI_toInt, ng_T, nI_add, nI_mul, nI_sub', Int.neg_zero, not_false_eq_true, not_true_eq_false] <;> omega); done))) | (refine xbr_t ?_ ?_; (focus ((simp (disch := omega) only [ix_lt, ix_le, ix_eq, ix_0, nI_clamp, nI_toInt, ng_T, nI_add, nI_mul, nI_sub', Int.neg_zero, not_false_eq_true, not_true_eq_false] <;> omega); done))) | refine ⟨Or.inl rfl, ?_⟩ | refine ⟨Or.inr rfl, ?_⟩ | (refine ⟨?_, ?_⟩; (focus (exact in_nI (by omega) (by omega)))))
    refine ⟨rfl, rfl, (S.wC a b).wT t1, _, rfl, hC1, fun o S2 I2 L2 hr2 hf2 hC2 => ?_⟩
    obtain ⟨q1, q2⟩ := midR_v hr2 (by decide) (fA _ _ _)
    subst q1
    subst q2
    rw [ohS_e] at hC2
    rw [m12, n12] at hC2
    refine xbr_t rfl ?_
    refine ⟨rfl, rfl, _, rfl, hC2, ?_⟩
    rw [fov]
    refine ⟨rfl, rfl, _, _, rfl, hC2, fun q => ct_no (by decide) q, fun j e hj => ?_⟩
    obtain rfl := nI_j (by omega) (by omega) e
    rw [c4]
    refine ⟨rfl, rfl, bsN (hmB S.d S.D.X) S.d.nL, rfl, by omega, ?_⟩
    rw [e1]
    refine xbr_t (by rw [nI_l (by omega)]; exact lcmp_0 _) ?_
    refine ⟨rfl, rfl, _, _, rfl, hC2, fun o S3 I3 L3 hr3 hf3 hC3 => ?_⟩
    obtain ⟨q1, q2⟩ := midR_v hr3 hp (fA _ _ _)
    subst q1
    subst q2
    rw [ohS_e] at hC3
    generalize ohN S.d S.D.X p (2 ^ S.d.nA) / Nat.gcd (ohN S.d S.D.X p (2 ^ S.d.nA)) (12 ^ S.d.nA) = u at b1 b2 hC3
    generalize 12 ^ S.d.nA / Nat.gcd (ohN S.d S.D.X p (2 ^ S.d.nA)) (12 ^ S.d.nA) = v at b1 b2 b3 b4 hC3
    refine xbr_t rfl ?_
    refine ⟨rfl, rfl, _, rfl, hC3, ?_⟩
    rw [fov]
    refine ⟨rfl, rfl, _, _, rfl, hC3, fun q => ct_no (by decide) q, fun j e hj => ?_⟩
    obtain rfl := nI_j (by omega) (by omega) e
    rw [c4]
    refine ⟨rfl, rfl, bsN (hmB S.d S.D.X) S.d.nL, rfl, by omega, ?_⟩
    rw [e1]
    refine ⟨rfl, rfl, _, rfl, hC3, ?_⟩
    rw [fun']
    refine xbr_f (by rw [nI_l (by omega), lN_mul, lg_cmp_lt, pk_lLT (by omega) (by omega)]; omega) ?_
    refine ⟨rfl, rfl, _, rfl, hC3, ?_⟩
    rw [fov]
    refine ⟨vp1, ?_⟩
    rw [W1 (frC_t hf1 (frC_t hf2 hf3))]
    refine ⟨rfl, rfl, _, rfl, hC3, ?_⟩
    rw [fun']
    refine xbr_f (by rw [nI_l (by omega), lN_mul, lg_cmp_gt, pk_lLT (by omega) (by omega)]; omega) ?_
    refine ⟨rfl, rfl, _, _, rfl, hC3, fun o S4 I4 L4 hr4 hf4 hC4 => ?_⟩
    obtain ⟨q1, q2⟩ := midR_v hr4 (by decide) (fA _ _ _)
    subst q1
    subst q2
    rw [ohS_e] at hC4
    rw [m0, n0] at hC4
    refine xbr_t rfl ?_
    refine ⟨rfl, rfl, _, rfl, hC4, ?_⟩
    rw [fov]
    (first | (refine xbr_f ?_ ?_; (focus ((simp (disch := omega) only [ix_lt, ix_le, ix_eq, ix_0, nI_clamp, nI_toInt, ng_T, nI_add, nI_mul, nI_sub', Int.neg_zero, not_false_eq_true, not_true_eq_false] <;> omega); done))) | (refine xbr_t ?_ ?_; (focus ((simp (disch := omega) only [ix_lt, ix_le, ix_eq, ix_0, nI_clamp, nI_toInt, ng_T, nI_add, nI_mul, nI_sub', Int.neg_zero, not_false_eq_true, not_true_eq_false] <;> omega); done))) | refine ⟨Or.inl rfl, ?_⟩ | refine ⟨Or.inr rfl, ?_⟩ | (refine ⟨?_, ?_⟩; (focus (exact in_nI (by omega) (by omega)))))
    refine ⟨rfl, rfl, _, rfl, hC4, ?_⟩
    rw [fun']
    refine xbr_t (lcmp_0 _) ?_
    refine ⟨rfl, rfl, _, rfl, hC4, fun o S5 I5 L5 hr5 hf5 hC5 => ?_⟩
    obtain ⟨q1, q2⟩ := dayR_v hr5 (fA _ _ _) (fz _ _ _)
    subst q1
    subst q2
    have hmt : ∀ T, hmtN T ≤ 4 := fun T => cnN_le _ 4
    refine xbr_f (by rw [ix_lt, nI_toInt (by have := hmt (T0 ((S.wC (lN (hcN S.d (dayN S.d S.D.X))) (lN 1)).wT t1)); omega), ix_0]; omega) ?_
    refine ⟨rfl, rfl, _, _, rfl, hC5, fun q => ct_no (by decide) q, fun j e hj => ?_⟩
    obtain rfl := nI_j (by omega) (by omega) e
    rw [cnt_4d]
    refine ⟨rfl, rfl, bsN (hmB S.d (dayN S.d S.D.X)) S.d.nL, rfl, by omega, ?_⟩
    rw [e2]
    refine xbr_t (by rw [nI_l (by omega)]; exact lcmp_0 _) ?_
    refine ⟨rfl, rfl, _, _, rfl, hC5, fun o S6 I6 L6 hr6 hf6 hC6 => ?_⟩
    have hkz : (dyS ((S.wC (lN (hcN S.d (dayN S.d S.D.X))) (lN 1)).wT t1)).kp 2 = S.D := by rw [dyS_kp]; simp only [wT_d, wT_D, wT_kp, wT_rz, wT_rv, wR_d, wR_D, wR_kp, wR_rz, wR_rv, wC_d, wC_D, wC_kp, wC_rz, wC_rv, wD_d, wD_D, wD_kp, wD_rz, wD_rv]; exact hkp
    obtain ⟨q1, q2⟩ := onR_v hr6 (by decide) (by rw [hkz]; exact hz0)
    rw [hkz] at q1 q2
    subst q1
    subst q2
    rw [dyS_c] at hC6
    have fw : ∀ x y, wok (S.wC x y) I6 := fun x y => ⟨by rw [f27 (frC_t hf1 (frC_t hf2 (frC_t hf3 (frC_t hf4 (frC_t hf5 hf6)))))]; exact hw.1, by rw [f27 (frC_t hf1 (frC_t hf2 (frC_t hf3 (frC_t hf4 (frC_t hf5 hf6)))))]; exact hw.2⟩
    (first | (refine xbr_f ?_ ?_; (focus ((simp (disch := omega) only [ix_lt, ix_le, ix_eq, ix_0, nI_clamp, nI_toInt, ng_T, nI_add, nI_mul, nI_sub', Int.neg_zero, not_false_eq_true, not_true_eq_false] <;> omega); done))) | (refine xbr_t ?_ ?_; (focus ((simp (disch := omega) only [ix_lt, ix_le, ix_eq, ix_0, nI_clamp, nI_toInt, ng_T, nI_add, nI_mul, nI_sub', Int.neg_zero, not_false_eq_true, not_true_eq_false] <;> omega); done))) | refine ⟨Or.inl rfl, ?_⟩ | refine ⟨Or.inr rfl, ?_⟩ | (refine ⟨?_, ?_⟩; (focus (exact in_nI (by omega) (by omega)))))
    have hf16 := frC_t hf1 (frC_t hf2 (frC_t hf3 (frC_t hf4 (frC_t hf5 hf6))))
    refine ⟨rfl, rfl, (S.wC (lN (hcN S.d (dayN S.d S.D.X))) (lN 1)), rfl, ⟨t1, hC6⟩, fw _ _, fun I7 L7 hf7 hC7 => ?_⟩
    rw [hsh_dD (S := S) (S' := S.wC (lN (hcN S.d (dayN S.d S.D.X))) (lN 1)) (wC_d _ _ _) (wC_D _ _ _)]
    refine xbr_t (lcmp_0 _) ?_
    refine ⟨Or.inr rfl, ?_⟩
    exact hQ (S.wC (lN (hcN S.d (dayN S.d S.D.X))) (lN 1)) I7 L7 (wC_d _ _ _) (wC_D _ _ _) (wC_kp _ _ _) (frC_t hf16 hf7) hC7
  refine xrun okL_chances hhL_chances [(17, [true, true, true, true, false, true, true, true, false])] 60 ?_
  refine ⟨rfl, rfl, 17, rfl, by decide, fun x hx => ?_⟩
  refine ⟨by decide, ?_⟩
  rw [pk_rem hx (by decide) (by decide)]
  have hp : x % 13 < 13 := Nat.mod_lt _ (by decide)
  generalize x % 13 = p at hp
  refine xgo_eq (xlpW (M := mL_chances) (cs := csL_chances) (pc := 17) S.d.nL (fun l => [some (.ref 1), some (.ref 0), some (.ref 27), some (.long (hsh S)), none, some (.int (nI p)), some (.int (nI 1)), some (.int (nI l)), none]) (fun l I' L' => (∃ a b, Lq (S.wC a b) I' L') ∧ frC I L I' L') ?_ ?_ ⟨⟨S.ov, S.un, hC⟩, frC_0 _ _⟩) rfl rfl rfl
  · rintro l hl I1 L1 ⟨⟨a, b, t1, hC1⟩, hf1⟩ ih
    have o4 : ∀ x y, olI (S.wC x y).d (S.wC x y).D.X l 4 = cI (tkrN (tkN S.d S.D.X 27 15 S.d.nA).1 l) := fun _ _ => rfl
    have fl : ∀ (x y : Int64) (t : Int32), l < ((S.wC x y).wT t).d.nL := fun _ _ _ => hl
    have fl2 : ∀ x y : Int64, l < (S.wC x y).d.nL := fun _ _ => hl
    obtain ⟨f1, f2⟩ := fr_le hT0 (ot_all hd S.D.X l hp)
    have f3 : 12 ^ S.d.nA / Nat.gcd (otN S.d S.D.X l p (2 ^ S.d.nA)) (12 ^ S.d.nA) ≤ 20736 := Nat.le_trans (Nat.div_le_self _ _) hT
    have e12 : otN S.d S.D.X l 12 (2 ^ S.d.nA) / Nat.gcd (otN S.d S.D.X l 12 (2 ^ S.d.nA)) (12 ^ S.d.nA) = 0 := by rw [ot_12 hd, Nat.zero_div]
    have e0 : otN S.d S.D.X l 0 (2 ^ S.d.nA) / Nat.gcd (otN S.d S.D.X l 0 (2 ^ S.d.nA)) (12 ^ S.d.nA) = (if tkrN (tkN S.d S.D.X 27 15 S.d.nA).1 l = 0 then 0 else 1) ∧ 12 ^ S.d.nA / Nat.gcd (otN S.d S.D.X l 0 (2 ^ S.d.nA)) (12 ^ S.d.nA) = 1 := by
      rw [ot_0 hd]
      by_cases q : tkrN (tkN S.d S.D.X 27 15 S.d.nA).1 l = 0
      · rw [if_pos q, if_pos q, Nat.zero_div, Nat.gcd_zero_left, Nat.div_self hT0]
        exact ⟨rfl, rfl⟩
      · rw [if_neg q, if_neg q, Nat.gcd_self, Nat.div_self hT0]
        exact ⟨rfl, rfl⟩
    refine xrun okL_chances hhL_chances [(17, [true, true, true, true, false, true, true, true, false]), (106, [true, true, true, true, false, true, true, true, false])] 120 ?_
    refine ⟨vp1, ?_⟩
    rw [W1 hf1]
    (first | (refine xbr_f ?_ ?_; (focus ((simp (disch := omega) only [ix_lt, ix_le, ix_eq, ix_0, nI_clamp, nI_toInt, ng_T, nI_add, nI_mul, nI_sub', Int.neg_zero, not_false_eq_true, not_true_eq_false] <;> omega); done))) | (refine xbr_t ?_ ?_; (focus ((simp (disch := omega) only [ix_lt, ix_le, ix_eq, ix_0, nI_clamp, nI_toInt, ng_T, nI_add, nI_mul, nI_sub', Int.neg_zero, not_false_eq_true, not_true_eq_false] <;> omega); done))) | refine ⟨Or.inl rfl, ?_⟩ | refine ⟨Or.inr rfl, ?_⟩ | (refine ⟨?_, ?_⟩; (focus (exact in_nI (by omega) (by omega)))))
    (first | (refine xbr_f ?_ ?_; (focus ((simp (disch := omega) only [ix_lt, ix_le, ix_eq, ix_0, nI_clamp, nI_toInt, ng_T, nI_add, nI_mul, nI_sub', Int.neg_zero, not_false_eq_true, not_true_eq_false] <;> omega); done))) | (refine xbr_t ?_ ?_; (focus ((simp (disch := omega) only [ix_lt, ix_le, ix_eq, ix_0, nI_clamp, nI_toInt, ng_T, nI_add, nI_mul, nI_sub', Int.neg_zero, not_false_eq_true, not_true_eq_false] <;> omega); done))) | refine ⟨Or.inl rfl, ?_⟩ | refine ⟨Or.inr rfl, ?_⟩ | (refine ⟨?_, ?_⟩; (focus (exact in_nI (by omega) (by omega)))))
    refine ⟨rfl, rfl, (S.wC a b).wT t1, _, _, rfl, hC1, fun o S2 I2 L2 hr2 hf2 hC2 => ?_⟩
    obtain ⟨q1, q2⟩ := oddsR_v hr2 (fd _ _ _) (fl _ _ _) hp
    subst q1
    subst q2
    rw [otS_e] at hC2
    generalize otN S.d S.D.X l p (2 ^ S.d.nA) / Nat.gcd (otN S.d S.D.X l p (2 ^ S.d.nA)) (12 ^ S.d.nA) = u at f1 hC2
    generalize 12 ^ S.d.nA / Nat.gcd (otN S.d S.D.X l p (2 ^ S.d.nA)) (12 ^ S.d.nA) = v at f1 f2 f3 hC2
    refine xbr_t rfl ?_
    refine ⟨rfl, rfl, _, rfl, hC2, ?_⟩
    rw [fov]
    refine xbr_f (by rw [lg_cmp_lt, pk_lLT (by omega) (by omega)]; omega) ?_
    refine ⟨rfl, rfl, _, rfl, hC2, ?_⟩
    rw [fun']
    refine xbr_f (by rw [lg_cmp_le, pk_lLE (by omega) (by omega)]; omega) ?_
    refine ⟨rfl, rfl, _, rfl, hC2, ?_⟩
    rw [fov]
    refine ⟨rfl, rfl, _, rfl, hC2, ?_⟩
    rw [fun']
    refine xbr_f (by rw [lg_cmp_gt, pk_lLT (by omega) (by omega)]; omega) ?_
    refine ⟨rfl, rfl, _, _, _, rfl, hC2, fun o S3 I3 L3 hr3 hf3 hC3 => ?_⟩
    obtain ⟨q1, q2⟩ := oddsR_v hr3 (fd _ _ _) (fl _ _ _) (by decide)
    subst q1
    subst q2
    rw [otS_e] at hC3
    rw [e0.1, e0.2] at hC3
    refine xbr_t rfl ?_
    refine ⟨rfl, rfl, _, rfl, hC3, ?_⟩
    rw [fov]
    refine ⟨rfl, rfl, S.wC (lN (if tkrN (tkN S.d S.D.X 27 15 S.d.nA).1 l = 0 then 0 else 1)) (lN 1), l, 4, rfl, fl2 _ _, by decide, ⟨t1, hC3⟩, fun I4 L4 hf4 hC4 => ?_⟩
    rw [o4]
    have hle : tkrN (tkN S.d S.D.X 27 15 S.d.nA).1 l ≤ 4 := ffN_le _ 4
    -- behind what is sure
    obtain ⟨t4, hC4⟩ := hC4
    have hf14 := frC_t hf1 (frC_t hf2 (frC_t hf3 hf4))
    have h106 : xGo mL_chances csL_chances 106 Q [some (.ref 1), some (.ref 0), some (.ref 27), some (.long (hsh S)), none, some (.int (nI p)), some (.int (nI 1)), some (.int (nI l)), none] [] 0 (e9 + 27) I4 L4 xP0 := by
      refine xrun okL_chances hhL_chances [(17, [true, true, true, true, false, true, true, true, false])] 120 ?_
      refine ⟨rfl, rfl, _, rfl, hC4, ?_⟩
      rw [fun']
      refine xbr_t (lcmp_0 _) ?_
      refine ⟨rfl, rfl, _, _, _, rfl, hC4, fun o S5 I5 L5 hr5 hf5 hC5 => ?_⟩
      obtain ⟨q1, q2⟩ := oddsR_v hr5 (fd _ _ _) (fl _ _ _) (by decide)
      subst q1
      subst q2
      rw [otS_e] at hC5
      rw [e12] at hC5
      refine xbr_t rfl ?_
      refine ⟨rfl, rfl, _, rfl, hC5, ?_⟩
      rw [fov]
      refine xbr_t (lcmp_0 _) ?_
      refine xgo_eq (ih _ _ ⟨⟨_, _, ⟨t4, hC5⟩⟩, frC_t hf14 hf5⟩) ?_ rfl rfl
      ((repeat' (first | (with_reducible rfl) | exact xv_nil | refine xv_cons ?_ ?_ | refine xv_i ?_ | refine xv_l ?_)) <;> (simp (disch := omega) only [↓reduceIte, Bool.false_eq_true, Nat.one_mul, Nat.zero_mul, Nat.or_zero, Nat.add_zero, Nat.zero_add, Bool.toNat_true, Bool.toNat_false, shl_n, shr_n, fa_and, fa_or, nx_xor, nI_add, nI_mul, nI_sub', and_1, and_7, and_3', and_15]))
    rcases hk : tkrN (tkN S.d S.D.X 27 15 S.d.nA).1 l with _ | i
    · rw [cI_0, if_pos rfl]
      (first | (refine xbr_f ?_ ?_; (focus ((simp (disch := omega) only [ix_lt, ix_le, ix_eq, ix_0, nI_clamp, nI_toInt, ng_T, nI_add, nI_mul, nI_sub', Int.neg_zero, not_false_eq_true, not_true_eq_false] <;> omega); done))) | (refine xbr_t ?_ ?_; (focus ((simp (disch := omega) only [ix_lt, ix_le, ix_eq, ix_0, nI_clamp, nI_toInt, ng_T, nI_add, nI_mul, nI_sub', Int.neg_zero, not_false_eq_true, not_true_eq_false] <;> omega); done))) | refine ⟨Or.inl rfl, ?_⟩ | refine ⟨Or.inr rfl, ?_⟩ | (refine ⟨?_, ?_⟩; (focus (exact in_nI (by omega) (by omega)))))
      refine xbr_t (lcmp_0 _) ?_
      exact h106
    · rw [cI_s, if_neg (by omega)]
      (first | (refine xbr_f ?_ ?_; (focus ((simp (disch := omega) only [ix_lt, ix_le, ix_eq, ix_0, nI_clamp, nI_toInt, ng_T, nI_add, nI_mul, nI_sub', Int.neg_zero, not_false_eq_true, not_true_eq_false] <;> omega); done))) | (refine xbr_t ?_ ?_; (focus ((simp (disch := omega) only [ix_lt, ix_le, ix_eq, ix_0, nI_clamp, nI_toInt, ng_T, nI_add, nI_mul, nI_sub', Int.neg_zero, not_false_eq_true, not_true_eq_false] <;> omega); done))) | refine ⟨Or.inl rfl, ?_⟩ | refine ⟨Or.inr rfl, ?_⟩ | (refine ⟨?_, ?_⟩; (focus (exact in_nI (by omega) (by omega)))))
      refine xbr_t (lcmp_0 _) ?_
      exact h106
  · rintro I1 L1 ⟨⟨a, b, hC1⟩, hf1⟩
    refine xrun okL_chances hhL_chances [(149, [true, true, true, true, false, true, true, true, false])] 60 ?_
    refine ⟨vp1, ?_⟩
    rw [W1 hf1]
    (first | (refine xbr_f ?_ ?_; (focus ((simp (disch := omega) only [ix_lt, ix_le, ix_eq, ix_0, nI_clamp, nI_toInt, ng_T, nI_add, nI_mul, nI_sub', Int.neg_zero, not_false_eq_true, not_true_eq_false] <;> omega); done))) | (refine xbr_t ?_ ?_; (focus ((simp (disch := omega) only [ix_lt, ix_le, ix_eq, ix_0, nI_clamp, nI_toInt, ng_T, nI_add, nI_mul, nI_sub', Int.neg_zero, not_false_eq_true, not_true_eq_false] <;> omega); done))) | refine ⟨Or.inl rfl, ?_⟩ | refine ⟨Or.inr rfl, ?_⟩ | (refine ⟨?_, ?_⟩; (focus (exact in_nI (by omega) (by omega)))))
    exact h149 p a b I1 L1 hp hC1 hf1
