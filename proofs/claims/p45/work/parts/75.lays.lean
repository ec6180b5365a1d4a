/-! LAYS, the walk -/
theorem by_c : ∀ c, c < 128 → (nI c).toInt8.toInt32 = nI c := by decide +kernel
theorem putR_v {S S' : ST} {p c : Nat} {o : Int32} (h : putR S (nI 0) (nI p) (nI c) o S') (hz : S.tz 0 = 61) (hp : p < 60) (hc : c < 128) : o = nI 1000 + S.tv p ∧ S' = S.wX S.tz (fun t => if t = p then nI c else S.tv t) := by
  rcases h with ⟨n, -⟩ | ⟨j', e, h1, ⟨h2, -⟩ | ⟨_, h2, -⟩ | ⟨m', e2, h2, h3⟩⟩
  · rw [ibB_n (by decide) (by decide)] at n
    cases n
  · obtain rfl := nI_j (by omega) (by omega) e
    omega
  · obtain rfl := nI_j (by omega) (by omega) e
    rw [hz, ibB_n (by omega) (by omega)] at h2
    cases h2
  · obtain rfl := nI_j (by omega) (by omega) e
    rw [hz] at h2
    obtain rfl := nI_j (by omega) (by omega) e2
    rw [by_c c hc, Nat.zero_mul, Nat.zero_add] at h3
    exact h3
theorem textR_v {S S' : ST} {o : Int32} (h : textR S (nI 0) (nI 60) o S') : o = nI 60 ∧ S' = S.wX (fun t => if t = 0 then 60 + 1 else S.tz t) (xfil S.tv (0 * 60) 60 (nI 32)) := by
  rcases h with ⟨n, -⟩ | ⟨_, n, -⟩ | ⟨j', m', e1, h1, e2, h2, h3⟩
  · exact absurd ⟨ibB_n (by decide) (by decide), by rw [nI_toInt (by decide)]; decide⟩ n
  · rw [nI_toInt (by decide)] at n
    omega
  · obtain rfl := nI_j (by omega) (by omega) e1
    obtain rfl := nI_j (by omega) (by omega) e2
    exact h3
theorem plainR_v {S S' : ST} {o : Int32} (h : plainR S (nI 0) o S') (hz : S.tz 0 = 61) (hr : (rdF (txV S 0) 60).2 = true) : o = nI (rdF (txV S 0) 60).1.d.nL ∧ S' = plS S (rdF (txV S 0) 60).1.d (rdF (txV S 0) 60).1.X := by
  rcases h with ⟨n, -⟩ | ⟨j', e, h1, ⟨h2, -⟩ | ⟨n, h2, ⟨h3, -⟩ | ⟨-, h3⟩⟩⟩
  · rw [ibB_n (by decide) (by decide)] at n
    cases n
  · obtain rfl := nI_j (by omega) (by omega) e
    omega
  · obtain rfl := nI_j (by omega) (by omega) e
    obtain rfl : n = 60 := by omega
    rw [hr] at h3
    cases h3
  · obtain rfl := nI_j (by omega) (by omega) e
    obtain rfl : n = 60 := by omega
    exact h3
def csL_letter : xCs := [(mX10_put, sX10_put)]
theorem okL_letter : xOkM mL_letter csL_letter := ⟨dL_letter, by decide +kernel, by decide +kernel, ⟨wdL_9, trivial⟩⟩
theorem hhL_letter : ∀ q ∈ csL_letter, xHd q.1 := xall1 hX10_put (xall0)
theorem kkL_letter : ∀ q ∈ csL_letter, ∀ l, xCon l q.1 q.2 := xall1 kX10_put (xall0)
def sL_letter : xSpec := xRg7 fun as I L Q => ∃ (z : Nat → Nat) (v : Nat → Int32) (p c : Nat), as = [.ref 1, .ref 27, .int (nI c)] ∧ Lq (S0.wX z v) I L ∧ z 0 = 61 ∧ p < 60 ∧ I 27 40 = nI p ∧ v p = nI 32 ∧ c < 128 ∧ ∀ I' L', I' 27 = (fun t => if t = 40 then nI (p + 1) else I 27 t) → Lq (S0.wX z (fun t => if t = p then nI c else v t)) I' L' → Q (some (.int (nI 1))) I' L'
set_option maxRecDepth 100000 in
theorem kL_letter : ∀ l, xCon l mL_letter sL_letter := by
  refine xcon_of okL_letter hL_letter rfl hhL_letter kkL_letter ?_
  rintro as n0 I L P Q ⟨hn9, rfl, z, v, p, c, rfl, ⟨t0, hC⟩, hz, hp, h40, hv, hc, hQ⟩
  obtain ⟨e9, rfl⟩ := xe7 hn9
  refine ⟨Nat.le_of_ble_eq_true rfl, ?_⟩
  have i40 : (nI 40).toNatClampNeg = 40 := nI_clamp (by decide)
  have v40 : vp_in (nI 40) 64 := in_nI (by omega) (by decide)
  refine xrun okL_letter hhL_letter [] 60 ?_
  refine ⟨v40, v40, v40, ?_⟩
  rw [i40, xup_w, xrw_s, if_pos rfl, h40, nI_add]
  have e1 : nI (p + 1) - nI 1 = nI p := by rw [nI_sub' (by omega)]; rfl
  refine ⟨rfl, rfl, (S0.wX z v).wT t0, _, _, _, rfl, Cls_w hC _, fun o S' I' L' hr hf hC' => ?_⟩
  rw [e1] at hr
  obtain ⟨q1, q2⟩ := putR_v hr hz hp hc
  have q1 : o = nI 1000 + v p := q1
  rw [hv, nI_add] at q1
  subst q1
  subst q2
  refine xbr_t rfl ?_
  refine ⟨Or.inr rfl, ?_⟩
  refine hQ _ _ ?_ ⟨t0, hC'⟩
  rw [f27 hf, xrw_s]
def csL_two : xCs := [(mL_letter, sL_letter)]
theorem okL_two : xOkM mL_two csL_two := ⟨dL_two, by decide +kernel, by decide +kernel, ⟨wdL_15, wdL_15, trivial⟩⟩
theorem hhL_two : ∀ q ∈ csL_two, xHd q.1 := xall1 hL_letter (xall0)
theorem kkL_two : ∀ q ∈ csL_two, ∀ l, xCon l q.1 q.2 := xall1 kL_letter (xall0)
def sL_two : xSpec := xRg7 fun as I L Q => ∃ (z : Nat → Nat) (v : Nat → Int32) (p c : Nat), as = [.ref 1, .ref 27, .int (nI c)] ∧ Lq (S0.wX z v) I L ∧ z 0 = 61 ∧ p + 1 < 60 ∧ I 27 40 = nI p ∧ v p = nI 32 ∧ v (p + 1) = nI 32 ∧ c < 16 ∧ ∀ I' L', I' 27 = (fun t => if t = 40 then nI (p + 2) else I 27 t) → Lq (S0.wX z (fun t => if t = p + 1 then nI (48 + c % 10) else if t = p then nI (48 + c / 10) else v t)) I' L' → Q (some (.int (nI 1))) I' L'
set_option maxRecDepth 100000 in
theorem kL_two : ∀ l, xCon l mL_two sL_two := by
  refine xcon_of okL_two hL_two rfl hhL_two kkL_two ?_
  rintro as n0 I L P Q ⟨hn9, rfl, z, v, p, c, rfl, hC, hz, hp, h40, hv, hv2, hc, hQ⟩
  obtain ⟨e9, rfl⟩ := xe7 hn9
  refine ⟨Nat.le_of_ble_eq_true rfl, ?_⟩
  refine xrun okL_two hhL_two [] 60 ?_
  refine ⟨by decide, ?_⟩
  rw [pk_div (by omega) (by decide) (by decide)]
  refine ⟨rfl, rfl, z, v, p, 48 + c / 10, by rw [nI_add], hC, hz, by omega, h40, hv, by omega, fun I1 L1 h1 hC1 => ?_⟩
  refine xbr_f (fun q => absurd q (by decide)) ?_
  refine ⟨by decide, ?_⟩
  rw [pk_rem (by omega) (by decide) (by decide)]
  refine ⟨rfl, rfl, z, _, p + 1, 48 + c % 10, by rw [nI_add], hC1, hz, by omega, by rw [h1]; rfl, ?_, by omega, fun I2 L2 h2 hC2 => ?_⟩
  · show (if p + 1 = p then _ else v (p + 1)) = _
    rw [if_neg (by omega)]
    exact hv2
  refine xbr_f (fun q => absurd q (by decide)) ?_
  refine ⟨Or.inr rfl, ?_⟩
  refine hQ I2 L2 ?_ hC2
  rw [h2, h1]
  funext t
  by_cases e : t = 40
  · rw [if_pos e, if_pos e]
  · rw [if_neg e, if_neg e]
    exact if_neg e
/-- letters from p on are blanks -/
def BL (v : Nat → Int32) (p : Nat) : Prop := ∀ t, p ≤ t → t < 60 → v t = nI 32
theorem BL_s {v : Nat → Int32} {p : Nat} (h : BL v p) (x : Int32) : BL (fun t => if t = p then x else v t) (p + 1) := fun t g1 g2 => by
  show (if t = p then x else v t) = _
  rw [if_neg (by omega)]
  exact h t (by omega) g2
def csL_lays : xCs := [(mL_cell, sL_cell), (mX10_text, sX10_text), (mL_letter, sL_letter), (mL_sort, sL_sort), (mL_two, sL_two), (mX10_plain, sX10_plain)]
theorem okL_lays : xOkM mL_lays csL_lays := ⟨dL_lays, by decide +kernel, by decide +kernel, ⟨wdL_21, wdL_25, wdL_15, wdL_21, wdL_15, wdL_21, wdL_29, wdL_15, wdL_33, wdL_15, wdL_21, wdL_15, wdL_33, wdL_15, wdL_15, wdL_36, trivial⟩⟩
theorem hhL_lays : ∀ q ∈ csL_lays, xHd q.1 := xall1 hL_cell (xall1 hX10_text (xall1 hL_letter (xall1 hL_sort (xall1 hL_two (xall1 hX10_plain (xall0))))))
theorem kkL_lays : ∀ q ∈ csL_lays, ∀ l, xCon l q.1 q.2 := xall1 kL_cell (xall1 kX10_text (xall1 kL_letter (xall1 kL_sort (xall1 kL_two (xall1 kX10_plain (xall0))))))
def sL_lays : xSpec := xRg7 fun as I L Q => as = [.ref 1, .ref 0, .ref 27] ∧ Lq S0 I L ∧ I 27 = (fun _ => 0) ∧ ∀ S' I' L', 0 < S'.d.nA → 0 < S'.d.nL → S'.D.z = 1 → Lq S' I' L' → WA S'.d S'.D.X (I' 27) → Q (some (.int (nI 1))) I' L'
set_option maxHeartbeats 3000000 in
set_option maxRecDepth 100000 in
theorem kL_lays : ∀ l, xCon l mL_lays sL_lays := by
  refine xcon_of okL_lays hL_lays rfl hhL_lays kkL_lays ?_
  rintro as n0 I L P Q ⟨hn9, rfl, rfl, ⟨t0, hC⟩, hW, hQ⟩
  obtain ⟨e9, rfl⟩ := xe7 hn9
  refine ⟨Nat.le_of_ble_eq_true rfl, ?_⟩
  have vp0 : vp_in (nI 0) 64 := in_nI (by omega) (by decide)
  have vp1 : vp_in (nI 1) 64 := in_nI (by omega) (by decide)
  have i1 : (nI 1).toNatClampNeg = 1 := nI_clamp (by decide)
  have i0 : (nI 0).toNatClampNeg = 0 := nI_clamp (by decide)
  refine xrun okL_lays hhL_lays [(38, [true, true, true, true, true, true, false, false, false, false])] 60 ?_
  refine ⟨rfl, rfl, 0, rfl, by decide, fun x hx => ?_⟩
  have e3 : nI x &&& nI 3 = nI (x % 4) := by rw [fa_and, and_3]
  have hA4 : x % 4 < 4 := Nat.mod_lt _ (by decide)
  have ex3 : nI x >>> (nI 3 &&& 31) = nI (x / 2 ^ 3) := shr_n (k := 3) hx (by decide)
  have em5 : nI (x / 2 ^ 3) - nI (x / 2 ^ 3) / nI 5 * nI 5 = nI (x / 2 ^ 3 % 5) := pk_rem (by omega) (by decide) (by decide)
  have hL5 : x / 2 ^ 3 % 5 < 5 := Nat.mod_lt _ (by decide)
  have ex2 : (nI x >>> (nI 2 &&& 31)) &&& nI 1 = bI (tbB x 2) := bit_i hx (by decide)
  generalize hAd : x % 4 = A at e3 hA4
  generalize hLd : x / 2 ^ 3 % 5 = B at em5 hL5
  -- what is written is read
  have h440 : ∀ z v p q I' L' a5 a7 a8 a9, z 0 = 61 → IV v p (1 + A + (1 + B)) q → QK q → q.d.nA = 1 + A → q.d.nL = 1 + B → BL v p → Lq (S0.wX z v) I' L' → WA q.d q.X (I' 27) → xGo mL_lays csL_lays 440 Q [some (.ref 1), some (.ref 0), some (.ref 27), some (.int (nI x)), some (.int (nI 1)), a5, some (.int (nI (1 + B))), a7, a8, a9] [] 0 (e9 + 27) I' L' xP0 := by
    rintro z v p q I1 L1 a5 a7 a8 a9 hz hiv hqk hnA hnL hbl ⟨t1, hC1⟩ hw
    have htx : txV ((S0.wX z v).wT t1) 0 = v := by
      funext k
      show v (60 * 0 + k) = v k
      rw [Nat.mul_zero, Nat.zero_add]
    have hrd := IV_end hiv (by omega) hbl
    refine xrun okL_lays hhL_lays [] 60 ?_
    (first | (refine xbr_f ?_ ?_; (focus ((simp (disch := omega) only [ix_lt, ix_le, ix_eq, ix_0, nI_clamp, nI_toInt, ng_T, nI_add, nI_mul, nI_sub', Int.neg_zero, not_false_eq_true, not_true_eq_false] <;> omega); done))) | (refine xbr_t ?_ ?_; (focus ((simp (disch := omega) only [ix_lt, ix_le, ix_eq, ix_0, nI_clamp, nI_toInt, ng_T, nI_add, nI_mul, nI_sub', Int.neg_zero, not_false_eq_true, not_true_eq_false] <;> omega); done))) | refine ⟨Or.inl rfl, ?_⟩ | refine ⟨Or.inr rfl, ?_⟩ | (refine ⟨?_, ?_⟩; (focus (exact in_nI (by omega) (by omega)))))
    refine ⟨rfl, rfl, (S0.wX z v).wT t1, _, rfl, hC1, fun o S2 I2 L2 hr2 hf2 hC2 => ?_⟩
    obtain ⟨q1, q2⟩ := plainR_v hr2 hz (by rw [htx, hrd]; exact decide_eq_true (by omega))
    rw [htx, hrd] at q1 q2
    have q1 : o = nI q.d.nL := q1
    have q2 : S2 = plS ((S0.wX z v).wT t1) q.d q.X := q2
    subst q2
    rw [hnL] at q1
    subst q1
    refine xbr_t rfl ?_
    refine ⟨Or.inr rfl, ?_⟩
    refine hQ (plS ((S0.wX z v).wT t1) q.d q.X) I2 L2 (by show 0 < q.d.nA; omega) (by show 0 < q.d.nL; omega) rfl ⟨t1, hC2⟩ ?_
    rw [f27 hf2]
    exact hw
  have h259 : ∀ z v q I' L' a6 a7 a8 a9, z 0 = 61 → IV v (6 + 4 * (1 + A)) (1 + A) q → QK q → q.d.nA = 1 + A → q.d.nL = 0 → BL v (6 + 4 * (1 + A)) → I' 27 40 = nI (6 + 4 * (1 + A)) → Lq (S0.wX z v) I' L' → WA q.d q.X (I' 27) → xGo mL_lays csL_lays 259 Q [some (.ref 1), some (.ref 0), some (.ref 27), some (.int (nI x)), some (.int (nI 1)), some (.int (nI (1 + A))), a6, a7, a8, a9] [] 0 (e9 + 27) I' L' xP0 := by
    intro z v q I1 L1 a6 a7 a8 a9 hz hiv hqk hnA hnL hbl h40 hC1 hw
    refine xrun okL_lays hhL_lays [(271, [true, true, true, true, true, true, true, true, false, false])] 60 ?_
    refine ⟨by decide, ?_⟩
    rw [ex3, em5]
    refine xgo_eq (xlpW (M := mL_lays) (cs := csL_lays) (pc := 271) (1 + B) (fun l => [some (.ref 1), some (.ref 0), some (.ref 27), some (.int (nI x)), some (.int (nI 1)), some (.int (nI (1 + A))), some (.int (nI (1 + B))), some (.int (nI l)), none, none]) (fun l I' L' => ∃ v q, IV v (6 + 4 * (1 + A) + 5 * l) (1 + A + l) q ∧ QK q ∧ q.d.nA = 1 + A ∧ q.d.nL = l ∧ BL v (6 + 4 * (1 + A) + 5 * l) ∧ I' 27 40 = nI (6 + 4 * (1 + A) + 5 * l) ∧ Lq (S0.wX z v) I' L' ∧ WA q.d q.X (I' 27)) ?_ ?_ ⟨v, q, hiv, hqk, hnA, hnL, hbl, h40, hC1, hw⟩) ?_ rfl rfl
    · rintro l hl I2 L2 ⟨v2, q2, hiv2, hqk2, hnA2, hnL2, hbl2, h402, hC2, hw2⟩ ih
      have hp : 6 + 4 * (1 + A) + 5 * l + 5 ≤ 60 := by omega
      generalize hP : 6 + 4 * (1 + A) + 5 * l = p at hiv2 hbl2 h402 hp
      have i8 : nI 21 + nI 3 * nI l = nI (21 + 3 * l) := by rw [nI_mul, nI_add]
      have i9 : nI (21 + 3 * l) + nI 1 = nI (22 + 3 * l) := by rw [nI_add]; congr 1; omega
      have i10 : nI (21 + 3 * l) + nI 2 = nI (23 + 3 * l) := by rw [nI_add]; congr 1; omega
      have c8 : (nI (21 + 3 * l)).toNatClampNeg = 21 + 3 * l := nI_clamp (by omega)
      have c9 : (nI (22 + 3 * l)).toNatClampNeg = 22 + 3 * l := nI_clamp (by omega)
      have c10 : (nI (23 + 3 * l)).toNatClampNeg = 23 + 3 * l := nI_clamp (by omega)
      have p8 : vp_in (nI (21 + 3 * l)) 64 := in_nI (by omega) (by decide)
      have p9 : vp_in (nI (22 + 3 * l)) 64 := in_nI (by omega) (by decide)
      have p10 : vp_in (nI (23 + 3 * l)) 64 := in_nI (by omega) (by decide)
      -- behind the three numbers
      have h364 : ∀ m a b I' L' (y : Option Value), m < 16 → a < 5 → b < 5 → I' 27 = (fun t => if t = 23 + 3 * l then nI b else if t = 22 + 3 * l then nI a else if t = 21 + 3 * l then nI m else I2 27 t) → Lq (S0.wX z v2) I' L' → xGo mL_lays csL_lays 364 Q [some (.ref 1), some (.ref 0), some (.ref 27), some (.int (nI x)), some (.int (nI 1)), some (.int (nI (1 + A))), some (.int (nI (1 + B))), some (.int (nI l)), y, some (.int (nI (21 + 3 * l)))] [] 0 (e9 + 27) I' L' xP0 := by
        intro m a b I3 L3 y hm ha hb h27 hC3
        have r8 : I3 27 (21 + 3 * l) = nI m := by
          rw [h27]
          show (if 21 + 3 * l = 23 + 3 * l then _ else if 21 + 3 * l = 22 + 3 * l then _ else if 21 + 3 * l = 21 + 3 * l then nI m else _) = _
          rw [if_neg (by omega), if_neg (by omega), if_pos rfl]
        have r9 : I3 27 (22 + 3 * l) = nI a := by
          rw [h27]
          show (if 22 + 3 * l = 23 + 3 * l then _ else if 22 + 3 * l = 22 + 3 * l then nI a else _) = _
          rw [if_neg (by omega), if_pos rfl]
        have r10 : I3 27 (23 + 3 * l) = nI b := by
          rw [h27]
          show (if 23 + 3 * l = 23 + 3 * l then nI b else _) = _
          rw [if_pos rfl]
        have r40 : I3 27 40 = nI p := by
          rw [h27]
          show (if 40 = 23 + 3 * l then _ else if 40 = 22 + 3 * l then _ else if 40 = 21 + 3 * l then _ else I2 27 40) = _
          rw [if_neg (by omega), if_neg (by omega), if_neg (by omega)]
          exact h402
        refine xrun okL_lays hhL_lays [(271, [true, true, true, true, true, true, true, true, false, false])] 100 ?_
        refine ⟨rfl, rfl, z, v2, p, 108, rfl, hC3, hz, by omega, r40, hbl2 p (by omega) (by omega), by decide, fun I4 L4 h4 hC4 => ?_⟩
        refine xbr_f (fun q => absurd q (by decide)) ?_
        refine ⟨p8, ?_⟩
        rw [c8]
        have w4 : ∀ t, t < 36 → I4 27 t = I3 27 t := fun t ht => by
          rw [h4]
          show (if t = 40 then _ else I3 27 t) = _
          rw [if_neg (by omega)]
        rw [w4 _ (by omega), r8]
        refine ⟨rfl, rfl, z, _, p + 1, m, rfl, hC4, hz, by omega, by rw [h4]; rfl, ?_, ?_, hm, fun I5 L5 h5 hC5 => ?_⟩
        · show (if p + 1 = p then _ else v2 (p + 1)) = _
          rw [if_neg (by omega)]
          exact hbl2 _ (by omega) (by omega)
        · show (if p + 1 + 1 = p then _ else v2 (p + 1 + 1)) = _
          rw [if_neg (by omega)]
          exact hbl2 _ (by omega) (by omega)
        refine xbr_f (fun q => absurd q (by decide)) ?_
        have w5 : ∀ t, t < 36 → I5 27 t = I3 27 t := fun t ht => by
          rw [h5]
          show (if t = 40 then _ else I4 27 t) = _
          rw [if_neg (by omega)]
          exact w4 t ht
        refine ⟨by rw [i9]; exact p9, ?_⟩
        rw [i9, c9, w5 _ (by omega), r9]
        refine ⟨rfl, rfl, z, _, p + 3, 48 + a, by rw [nI_add], hC5, hz, by omega, by rw [h5]; rfl, ?_, by omega, fun I6 L6 h6 hC6 => ?_⟩
        · show (if p + 3 = p + 1 + 1 then _ else if p + 3 = p + 1 then _ else if p + 3 = p then _ else v2 (p + 3)) = _
          rw [if_neg (by omega), if_neg (by omega), if_neg (by omega)]
          exact hbl2 _ (by omega) (by omega)
        refine xbr_f (fun q => absurd q (by decide)) ?_
        have w6 : ∀ t, t < 36 → I6 27 t = I3 27 t := fun t ht => by
          rw [h6]
          show (if t = 40 then _ else I5 27 t) = _
          rw [if_neg (by omega)]
          exact w5 t ht
        refine ⟨by rw [i10]; exact p10, ?_⟩
        rw [i10, c10, w6 _ (by omega), r10]
        refine ⟨rfl, rfl, z, _, p + 4, 48 + b, by rw [nI_add], hC6, hz, by omega, by rw [h6]; rfl, ?_, by omega, fun I7 L7 h7 hC7 => ?_⟩
        · show (if p + 4 = p + 3 then _ else if p + 4 = p + 1 + 1 then _ else if p + 4 = p + 1 then _ else if p + 4 = p then _ else v2 (p + 4)) = _
          rw [if_neg (by omega), if_neg (by omega), if_neg (by omega), if_neg (by omega)]
          exact hbl2 _ (by omega) (by omega)
        refine xbr_f (fun q => absurd q (by decide)) ?_
        have w7 : ∀ t, t < 36 → I7 27 t = I3 27 t := fun t ht => by
          rw [h7]
          show (if t = 40 then _ else I6 27 t) = _
          rw [if_neg (by omega)]
          exact w6 t ht
        have hw1 : I7 27 (nI 1).toNatClampNeg = nI l := by
          rw [i1, w7 1 (by omega), h27]
          show (if 1 = 23 + 3 * l then _ else if 1 = 22 + 3 * l then _ else if 1 = 21 + 3 * l then _ else I2 27 1) = _
          rw [if_neg (by omega), if_neg (by omega), if_neg (by omega), hw2.2.1, hnL2]
        refine ⟨vp1, vp1, ?_⟩
        rw [hw1, i1, nI_add, xup_w]
        have hivl := IV_load (w := fun t => if t = p + 4 then nI (48 + b) else if t = p + 3 then nI (48 + a) else if t = p + 1 + 1 then nI (48 + m % 10) else if t = p + 1 then nI (48 + m / 10) else if t = p then nI 108 else v2 t) hiv2 hp (by omega) (by omega) (fun t ht => by
          show (if t = p + 4 then _ else if t = p + 3 then _ else if t = p + 1 + 1 then _ else if t = p + 1 then _ else if t = p then _ else v2 t) = _
          rw [if_neg (by omega), if_neg (by omega), if_neg (by omega), if_neg (by omega), if_neg (by omega)]) (by
          show (if p = p + 4 then _ else if p = p + 3 then _ else if p = p + 1 + 1 then _ else if p = p + 1 then _ else if p = p then nI 108 else _) = _
          rw [if_neg (by omega), if_neg (by omega), if_neg (by omega), if_neg (by omega), if_pos rfl]) (m := m) (by
          show (if p + 1 = p + 4 then _ else if p + 1 = p + 3 then _ else if p + 1 = p + 1 + 1 then _ else if p + 1 = p + 1 then nI (48 + m / 10) else _) = _
          rw [if_neg (by omega), if_neg (by omega), if_neg (by omega), if_pos rfl]) (by
          show (if p + 2 = p + 4 then _ else if p + 2 = p + 3 then _ else if p + 2 = p + 1 + 1 then nI (48 + m % 10) else _) = _
          rw [if_neg (by omega), if_neg (by omega), if_pos (by omega)]) hm (a := a) (by
          show (if p + 3 = p + 4 then _ else if p + 3 = p + 3 then nI (48 + a) else _) = _
          rw [if_neg (by omega), if_pos rfl]) ha (b := b) (by
          show (if p + 4 = p + 4 then nI (48 + b) else _) = _
          rw [if_pos rfl]) hb
        obtain ⟨hwl, hqkl⟩ := WA_load (p := p + 5) (g := fun t => if t = 1 then nI (l + 1) else I7 27 t) hqk2 (by omega) hw2 hm ha hb (by rw [hnL2]; rfl) (by
          show (if 21 + 3 * q2.d.nL = 1 then _ else I7 27 (21 + 3 * q2.d.nL)) = _
          rw [if_neg (by omega), hnL2, w7 _ (by omega), r8]) (by
          show (if 22 + 3 * q2.d.nL = 1 then _ else I7 27 (22 + 3 * q2.d.nL)) = _
          rw [if_neg (by omega), hnL2, w7 _ (by omega), r9]) (by
          show (if 23 + 3 * q2.d.nL = 1 then _ else I7 27 (23 + 3 * q2.d.nL)) = _
          rw [if_neg (by omega), hnL2, w7 _ (by omega), r10]) (fun t t1 t2 t3 t4 t5 => by
          rw [hnL2] at t2 t3 t4
          show (if t = 1 then _ else I7 27 t) = _
          rw [if_neg t1, w7 t t5, h27]
          show (if t = 23 + 3 * l then _ else if t = 22 + 3 * l then _ else if t = 21 + 3 * l then _ else I2 27 t) = _
          rw [if_neg t4, if_neg t3, if_neg t2])
        refine xgo_eq (ih _ _ ⟨_, _, ?_, hqkl, ?_, ?_, ?_, ?_, Lq_w hC7 _, ?_⟩) ?_ rfl rfl
        · rw [show 6 + 4 * (1 + A) + 5 * (l + 1) = p + 5 by omega, show 1 + A + (l + 1) = 1 + A + l + 1 by omega]
          exact hivl
        · exact hnA2
        · show q2.d.nL + 1 = l + 1
          rw [hnL2]
        · rw [show 6 + 4 * (1 + A) + 5 * (l + 1) = p + 5 by omega]
          intro t g1 g2
          show (if t = p + 4 then _ else if t = p + 3 then _ else if t = p + 1 + 1 then _ else if t = p + 1 then _ else if t = p then _ else v2 t) = _
          rw [if_neg (by omega), if_neg (by omega), if_neg (by omega), if_neg (by omega), if_neg (by omega)]
          exact hbl2 t (by omega) g2
        · rw [show 6 + 4 * (1 + A) + 5 * (l + 1) = p + 4 + 1 by omega, xrw_s]
          show (if 40 = 1 then _ else I7 27 40) = _
          rw [if_neg (by omega), h7]
          rfl
        · rw [xrw_s]
          exact hwl
        · ((repeat' (first | (with_reducible rfl) | exact xv_nil | refine xv_cons ?_ ?_ | refine xv_i ?_ | refine xv_l ?_)) <;> (simp (disch := omega) only [↓reduceIte, Bool.false_eq_true, Nat.one_mul, Nat.zero_mul, Nat.or_zero, Nat.add_zero, Nat.zero_add, Bool.toNat_true, Bool.toNat_false, shl_n, shr_n, fa_and, fa_or, nx_xor, nI_add, nI_mul, nI_sub', and_1, and_7, and_3', and_15]))
      refine xrun okL_lays hhL_lays [(364, [true, true, true, true, true, true, true, true, true, true])] 100 ?_
      (first | (refine xbr_f ?_ ?_; (focus ((simp (disch := omega) only [ix_lt, ix_le, ix_eq, ix_0, nI_clamp, nI_toInt, ng_T, nI_add, nI_mul, nI_sub', Int.neg_zero, not_false_eq_true, not_true_eq_false] <;> omega); done))) | (refine xbr_t ?_ ?_; (focus ((simp (disch := omega) only [ix_lt, ix_le, ix_eq, ix_0, nI_clamp, nI_toInt, ng_T, nI_add, nI_mul, nI_sub', Int.neg_zero, not_false_eq_true, not_true_eq_false] <;> omega); done))) | refine ⟨Or.inl rfl, ?_⟩ | refine ⟨Or.inr rfl, ?_⟩ | (refine ⟨?_, ?_⟩; (focus (exact in_nI (by omega) (by omega)))))
      (first | (refine xbr_f ?_ ?_; (focus ((simp (disch := omega) only [ix_lt, ix_le, ix_eq, ix_0, nI_clamp, nI_toInt, ng_T, nI_add, nI_mul, nI_sub', Int.neg_zero, not_false_eq_true, not_true_eq_false] <;> omega); done))) | (refine xbr_t ?_ ?_; (focus ((simp (disch := omega) only [ix_lt, ix_le, ix_eq, ix_0, nI_clamp, nI_toInt, ng_T, nI_add, nI_mul, nI_sub', Int.neg_zero, not_false_eq_true, not_true_eq_false] <;> omega); done))) | refine ⟨Or.inl rfl, ?_⟩ | refine ⟨Or.inr rfl, ?_⟩ | (refine ⟨?_, ?_⟩; (focus (exact in_nI (by omega) (by omega)))))
      refine ⟨by decide, ?_⟩
      rw [pk_div (by omega) (by decide) (by decide)]
      refine ⟨rfl, rfl, 4 + l / 2, by rw [nI_add], by omega, fun y hy => ?_⟩
      refine ⟨by decide, ?_⟩
      rw [pk_rem (by omega) (by decide) (by decide)]
      refine ⟨by rw [i8]; exact p8, ?_⟩
      rw [nI_mul, shr_n hy (by omega), i8]
      have hy2 : y / 2 ^ (15 * (l % 2)) < 2 ^ 31 := Nat.lt_of_le_of_lt (Nat.div_le_self _ _) hy
      generalize y / 2 ^ (15 * (l % 2)) = u at hy2
      have e15 : nI u &&& nI 15 = nI (u % 16) := by rw [fa_and, and_15]
      have e4 : nI u >>> (nI 4 &&& 31) = nI (u / 2 ^ 4) := shr_n (k := 4) hy2 (by decide)
      have e415 : nI (u / 2 ^ 4) &&& nI 15 = nI (u / 2 ^ 4 % 16) := by rw [fa_and, and_15]
      have e8 : nI u >>> (nI 8 &&& 31) = nI (u / 2 ^ 8) := shr_n (k := 8) hy2 (by decide)
      have e815 : nI (u / 2 ^ 8) &&& nI 15 = nI (u / 2 ^ 8 % 16) := by rw [fa_and, and_15]
      have b16 : u / 2 ^ 4 % 16 < 16 := Nat.mod_lt _ (by decide)
      have b16' : u / 2 ^ 8 % 16 < 16 := Nat.mod_lt _ (by decide)
      cases hb : tbB x 2
      · rw [hb] at ex2
        have ex20 : (nI x >>> (nI 2 &&& 31)) &&& nI 1 = 0 := ex2
        (first | refine xbr_t ex20 ?_ | refine xbr_f ex20 ?_)
        refine ⟨by decide, by rw [i9]; exact p9, by decide, by rw [i10]; exact p10, ?_⟩
        rw [i9, i10, c8, c9, c10, e15, e4, e415, e8, e815, pk_rem (d := 5) (by omega) (by decide) (by decide), pk_rem (d := 5) (by omega) (by decide) (by decide), xup3]
        refine h364 (u % 16) (u / 2 ^ 4 % 16 % 5) (u / 2 ^ 8 % 16 % 5) _ _ _ (Nat.mod_lt _ (by decide)) (Nat.mod_lt _ (by decide)) (Nat.mod_lt _ (by decide)) ?_ (Lq_w hC2 _)
        rw [xrw_s]
      · rw [hb] at ex2
        have ex20 : ¬ (nI x >>> (nI 2 &&& 31)) &&& nI 1 = 0 := by rw [ex2]; decide
        (first | refine xbr_t ex20 ?_ | refine xbr_f ex20 ?_)
        refine ⟨by decide, by rw [i9]; exact p9, by decide, by rw [i10]; exact p10, ?_⟩
        rw [i9, i10, c8, c9, c10, e15, e4, e415, e8, e815, pk_rem (d := 2) (by omega) (by decide) (by decide), pk_rem (d := 5) (by omega) (by decide) (by decide), xup3]
        refine h364 (u % 16) (u / 2 ^ 4 % 16 % 2) (u / 2 ^ 8 % 16 % 5) _ _ _ (Nat.mod_lt _ (by decide)) (by omega) (Nat.mod_lt _ (by decide)) ?_ (Lq_w hC2 _)
        rw [xrw_s]
    · rintro I2 L2 ⟨v2, q2, hiv2, hqk2, hnA2, hnL2, hbl2, h402, hC2, hw2⟩
      refine xrun okL_lays hhL_lays [(440, [true, true, true, true, true, true, true, true, false, false])] 60 ?_
      (first | (refine xbr_f ?_ ?_; (focus ((simp (disch := omega) only [ix_lt, ix_le, ix_eq, ix_0, nI_clamp, nI_toInt, ng_T, nI_add, nI_mul, nI_sub', Int.neg_zero, not_false_eq_true, not_true_eq_false] <;> omega); done))) | (refine xbr_t ?_ ?_; (focus ((simp (disch := omega) only [ix_lt, ix_le, ix_eq, ix_0, nI_clamp, nI_toInt, ng_T, nI_add, nI_mul, nI_sub', Int.neg_zero, not_false_eq_true, not_true_eq_false] <;> omega); done))) | refine ⟨Or.inl rfl, ?_⟩ | refine ⟨Or.inr rfl, ?_⟩ | (refine ⟨?_, ?_⟩; (focus (exact in_nI (by omega) (by omega)))))
      exact h440 z v2 _ q2 I2 L2 _ _ _ _ hz hiv2 hqk2 hnA2 hnL2 hbl2 hC2 hw2
    · ((repeat' (first | (with_reducible rfl) | exact xv_nil | refine xv_cons ?_ ?_ | refine xv_i ?_ | refine xv_l ?_)) <;> (simp (disch := omega) only [↓reduceIte, Bool.false_eq_true, Nat.one_mul, Nat.zero_mul, Nat.or_zero, Nat.add_zero, Nat.zero_add, Bool.toNat_true, Bool.toNat_false, shl_n, shr_n, fa_and, fa_or, nx_xor, nI_add, nI_mul, nI_sub', and_1, and_7, and_3', and_15]))
  have h92 : ∀ z v q I' L' a5 a6 a7 a8 a9, z 0 = 61 → IV v 6 0 q → QK q → q.d.nA = 0 → q.d.nL = 0 → BL v 6 → I' 27 40 = nI 6 → Lq (S0.wX z v) I' L' → WA q.d q.X (I' 27) → xGo mL_lays csL_lays 92 Q [some (.ref 1), some (.ref 0), some (.ref 27), some (.int (nI x)), some (.int (nI 1)), a5, a6, a7, a8, a9] [] 0 (e9 + 27) I' L' xP0 := by
    intro z v q I1 L1 a5 a6 a7 a8 a9 hz hiv hqk hnA hnL hbl h40 hC1 hw
    refine xrun okL_lays hhL_lays [(102, [true, true, true, true, true, true, true, false, false, false])] 60 ?_
    refine xgo_eq (xlpW (M := mL_lays) (cs := csL_lays) (pc := 102) (1 + A) (fun l => [some (.ref 1), some (.ref 0), some (.ref 27), some (.int (nI x)), some (.int (nI 1)), some (.int (nI (1 + A))), some (.int (nI l)), none, none, none]) (fun l I' L' => ∃ v q, IV v (6 + 4 * l) l q ∧ QK q ∧ q.d.nA = l ∧ q.d.nL = 0 ∧ BL v (6 + 4 * l) ∧ I' 27 40 = nI (6 + 4 * l) ∧ Lq (S0.wX z v) I' L' ∧ WA q.d q.X (I' 27)) ?_ ?_ ⟨v, q, hiv, hqk, hnA, hnL, hbl, h40, hC1, hw⟩) ?_ rfl rfl
    · rintro l hl I2 L2 ⟨v2, q2, hiv2, hqk2, hnA2, hnL2, hbl2, h402, hC2, hw2⟩ ih
      have hp : 6 + 4 * l + 4 ≤ 60 := by omega
      generalize hP : 6 + 4 * l = p at hiv2 hbl2 h402 hp
      have i8 : nI 9 + nI 3 * nI l = nI (9 + 3 * l) := by rw [nI_mul, nI_add]
      have i9 : nI (9 + 3 * l) + nI 1 = nI (10 + 3 * l) := by rw [nI_add]; congr 1; omega
      have i10 : nI (9 + 3 * l) + nI 2 = nI (11 + 3 * l) := by rw [nI_add]; congr 1; omega
      have c8 : (nI (9 + 3 * l)).toNatClampNeg = 9 + 3 * l := nI_clamp (by omega)
      have c9 : (nI (10 + 3 * l)).toNatClampNeg = 10 + 3 * l := nI_clamp (by omega)
      have c10 : (nI (11 + 3 * l)).toNatClampNeg = 11 + 3 * l := nI_clamp (by omega)
      have p8 : vp_in (nI (9 + 3 * l)) 64 := in_nI (by omega) (by decide)
      have p9 : vp_in (nI (10 + 3 * l)) 64 := in_nI (by omega) (by decide)
      have p10 : vp_in (nI (11 + 3 * l)) 64 := in_nI (by omega) (by decide)
      -- behind the three numbers
      have h193 : ∀ k m a I' L' (y : Option Value), k < 6 → m < 16 → a < 5 → I' 27 = (fun t => if t = 11 + 3 * l then nI a else if t = 10 + 3 * l then nI m else if t = 9 + 3 * l then nI k else I2 27 t) → Lq (S0.wX z v2) I' L' → xGo mL_lays csL_lays 193 Q [some (.ref 1), some (.ref 0), some (.ref 27), some (.int (nI x)), some (.int (nI 1)), some (.int (nI (1 + A))), some (.int (nI l)), y, some (.int (nI (9 + 3 * l))), none] [] 0 (e9 + 27) I' L' xP0 := by
        intro k m a I3 L3 y hk hm ha h27 hC3
        have r8 : I3 27 (9 + 3 * l) = nI k := by
          rw [h27]
          show (if 9 + 3 * l = 11 + 3 * l then _ else if 9 + 3 * l = 10 + 3 * l then _ else if 9 + 3 * l = 9 + 3 * l then nI k else _) = _
          rw [if_neg (by omega), if_neg (by omega), if_pos rfl]
        have r9 : I3 27 (10 + 3 * l) = nI m := by
          rw [h27]
          show (if 10 + 3 * l = 11 + 3 * l then _ else if 10 + 3 * l = 10 + 3 * l then nI m else _) = _
          rw [if_neg (by omega), if_pos rfl]
        have r10 : I3 27 (11 + 3 * l) = nI a := by
          rw [h27]
          show (if 11 + 3 * l = 11 + 3 * l then nI a else _) = _
          rw [if_pos rfl]
        have r40 : I3 27 40 = nI p := by
          rw [h27]
          show (if 40 = 11 + 3 * l then _ else if 40 = 10 + 3 * l then _ else if 40 = 9 + 3 * l then _ else I2 27 40) = _
          rw [if_neg (by omega), if_neg (by omega), if_neg (by omega)]
          exact h402
        refine xrun okL_lays hhL_lays [(102, [true, true, true, true, true, true, true, false, false, false])] 100 ?_
        refine ⟨p8, ?_⟩
        rw [c8, r8]
        refine ⟨rfl, rfl, k, rfl, hk, fun c hc1 hc2 => ?_⟩
        refine ⟨rfl, rfl, z, v2, p, c, rfl, hC3, hz, by omega, r40, hbl2 p (by omega) (by omega), hc2, fun I4 L4 h4 hC4 => ?_⟩
        refine xbr_f (fun q => absurd q (by decide)) ?_
        have w4 : ∀ t, t < 36 → I4 27 t = I3 27 t := fun t ht => by
          rw [h4]
          show (if t = 40 then _ else I3 27 t) = _
          rw [if_neg (by omega)]
        refine ⟨by rw [i9]; exact p9, ?_⟩
        rw [i9, c9, w4 _ (by omega), r9]
        refine ⟨rfl, rfl, z, _, p + 1, m, rfl, hC4, hz, by omega, by rw [h4]; rfl, ?_, ?_, hm, fun I5 L5 h5 hC5 => ?_⟩
        · show (if p + 1 = p then _ else v2 (p + 1)) = _
          rw [if_neg (by omega)]
          exact hbl2 _ (by omega) (by omega)
        · show (if p + 1 + 1 = p then _ else v2 (p + 1 + 1)) = _
          rw [if_neg (by omega)]
          exact hbl2 _ (by omega) (by omega)
        refine xbr_f (fun q => absurd q (by decide)) ?_
        have w5 : ∀ t, t < 36 → I5 27 t = I3 27 t := fun t ht => by
          rw [h5]
          show (if t = 40 then _ else I4 27 t) = _
          rw [if_neg (by omega)]
          exact w4 t ht
        refine ⟨by rw [i10]; exact p10, ?_⟩
        rw [i10, c10, w5 _ (by omega), r10]
        refine ⟨rfl, rfl, z, _, p + 3, 48 + a, by rw [nI_add], hC5, hz, by omega, by rw [h5]; rfl, ?_, by omega, fun I6 L6 h6 hC6 => ?_⟩
        · show (if p + 3 = p + 1 + 1 then _ else if p + 3 = p + 1 then _ else if p + 3 = p then _ else v2 (p + 3)) = _
          rw [if_neg (by omega), if_neg (by omega), if_neg (by omega)]
          exact hbl2 _ (by omega) (by omega)
        refine xbr_f (fun q => absurd q (by decide)) ?_
        have w6 : ∀ t, t < 36 → I6 27 t = I3 27 t := fun t ht => by
          rw [h6]
          show (if t = 40 then _ else I5 27 t) = _
          rw [if_neg (by omega)]
          exact w5 t ht
        have hw0 : I6 27 (nI 0).toNatClampNeg = nI l := by
          rw [i0, w6 0 (by omega), h27]
          show (if 0 = 11 + 3 * l then _ else if 0 = 10 + 3 * l then _ else if 0 = 9 + 3 * l then _ else I2 27 0) = _
          rw [if_neg (by omega), if_neg (by omega), if_neg (by omega), hw2.1, hnA2]
        refine ⟨vp0, vp0, ?_⟩
        rw [hw0, i0, nI_add, xup_w]
        have hiva := IV_ass (w := fun t => if t = p + 3 then nI (48 + a) else if t = p + 1 + 1 then nI (48 + m % 10) else if t = p + 1 then nI (48 + m / 10) else if t = p then nI c else v2 t) hiv2 hp (by omega) hnL2 (fun t ht => by
          show (if t = p + 3 then _ else if t = p + 1 + 1 then _ else if t = p + 1 then _ else if t = p then _ else v2 t) = _
          rw [if_neg (by omega), if_neg (by omega), if_neg (by omega), if_neg (by omega)]) (k := k) (by
          show blN (if p = p + 3 then _ else if p = p + 1 + 1 then _ else if p = p + 1 then _ else if p = p then nI c else _) = _
          rw [if_neg (by omega), if_neg (by omega), if_neg (by omega), if_pos rfl]
          exact hc1) (m := m) (by
          show (if p + 1 = p + 3 then _ else if p + 1 = p + 1 + 1 then _ else if p + 1 = p + 1 then nI (48 + m / 10) else _) = _
          rw [if_neg (by omega), if_neg (by omega), if_pos rfl]) (by
          show (if p + 2 = p + 3 then _ else if p + 2 = p + 1 + 1 then nI (48 + m % 10) else _) = _
          rw [if_neg (by omega), if_pos (by omega)]) hm (a := a) (by
          show (if p + 3 = p + 3 then nI (48 + a) else _) = _
          rw [if_pos rfl]) ha
        obtain ⟨hwa, hqka⟩ := WA_ass (p := p + 4) (g := fun t => if t = 0 then nI (l + 1) else I6 27 t) hqk2 hnL2 (by omega) hw2 hk hm ha (by rw [hnA2]; rfl) (by
          show (if 9 + 3 * q2.d.nA = 0 then _ else I6 27 (9 + 3 * q2.d.nA)) = _
          rw [if_neg (by omega), hnA2, w6 _ (by omega), r8]) (by
          show (if 10 + 3 * q2.d.nA = 0 then _ else I6 27 (10 + 3 * q2.d.nA)) = _
          rw [if_neg (by omega), hnA2, w6 _ (by omega), r9]) (by
          show (if 11 + 3 * q2.d.nA = 0 then _ else I6 27 (11 + 3 * q2.d.nA)) = _
          rw [if_neg (by omega), hnA2, w6 _ (by omega), r10]) (fun t t1 t2 t3 t4 t5 => by
          rw [hnA2] at t2 t3 t4
          show (if t = 0 then _ else I6 27 t) = _
          rw [if_neg t1, w6 t t5, h27]
          show (if t = 11 + 3 * l then _ else if t = 10 + 3 * l then _ else if t = 9 + 3 * l then _ else I2 27 t) = _
          rw [if_neg t4, if_neg t3, if_neg t2])
        refine xgo_eq (ih _ _ ⟨_, _, ?_, hqka, ?_, ?_, ?_, ?_, Lq_w hC6 _, ?_⟩) ?_ rfl rfl
        · rw [show 6 + 4 * (l + 1) = p + 4 by omega]
          exact hiva
        · show q2.d.nA + 1 = l + 1
          rw [hnA2]
        · exact hnL2
        · rw [show 6 + 4 * (l + 1) = p + 4 by omega]
          intro t g1 g2
          show (if t = p + 3 then _ else if t = p + 1 + 1 then _ else if t = p + 1 then _ else if t = p then _ else v2 t) = _
          rw [if_neg (by omega), if_neg (by omega), if_neg (by omega), if_neg (by omega)]
          exact hbl2 t (by omega) g2
        · rw [show 6 + 4 * (l + 1) = p + 3 + 1 by omega, xrw_s]
          show (if 40 = 0 then _ else I6 27 40) = _
          rw [if_neg (by omega), h6]
          rfl
        · rw [xrw_s]
          exact hwa
        · ((repeat' (first | (with_reducible rfl) | exact xv_nil | refine xv_cons ?_ ?_ | refine xv_i ?_ | refine xv_l ?_)) <;> (simp (disch := omega) only [↓reduceIte, Bool.false_eq_true, Nat.one_mul, Nat.zero_mul, Nat.or_zero, Nat.add_zero, Nat.zero_add, Bool.toNat_true, Bool.toNat_false, shl_n, shr_n, fa_and, fa_or, nx_xor, nI_add, nI_mul, nI_sub', and_1, and_7, and_3', and_15]))
      refine xrun okL_lays hhL_lays [(193, [true, true, true, true, true, true, true, true, true, false])] 100 ?_
      (first | (refine xbr_f ?_ ?_; (focus ((simp (disch := omega) only [ix_lt, ix_le, ix_eq, ix_0, nI_clamp, nI_toInt, ng_T, nI_add, nI_mul, nI_sub', Int.neg_zero, not_false_eq_true, not_true_eq_false] <;> omega); done))) | (refine xbr_t ?_ ?_; (focus ((simp (disch := omega) only [ix_lt, ix_le, ix_eq, ix_0, nI_clamp, nI_toInt, ng_T, nI_add, nI_mul, nI_sub', Int.neg_zero, not_false_eq_true, not_true_eq_false] <;> omega); done))) | refine ⟨Or.inl rfl, ?_⟩ | refine ⟨Or.inr rfl, ?_⟩ | (refine ⟨?_, ?_⟩; (focus (exact in_nI (by omega) (by omega)))))
      (first | (refine xbr_f ?_ ?_; (focus ((simp (disch := omega) only [ix_lt, ix_le, ix_eq, ix_0, nI_clamp, nI_toInt, ng_T, nI_add, nI_mul, nI_sub', Int.neg_zero, not_false_eq_true, not_true_eq_false] <;> omega); done))) | (refine xbr_t ?_ ?_; (focus ((simp (disch := omega) only [ix_lt, ix_le, ix_eq, ix_0, nI_clamp, nI_toInt, ng_T, nI_add, nI_mul, nI_sub', Int.neg_zero, not_false_eq_true, not_true_eq_false] <;> omega); done))) | refine ⟨Or.inl rfl, ?_⟩ | refine ⟨Or.inr rfl, ?_⟩ | (refine ⟨?_, ?_⟩; (focus (exact in_nI (by omega) (by omega)))))
      refine ⟨by decide, ?_⟩
      rw [pk_div (by omega) (by decide) (by decide)]
      refine ⟨rfl, rfl, 2 + l / 2, by rw [nI_add], by omega, fun y hy => ?_⟩
      refine ⟨by decide, ?_⟩
      rw [pk_rem (by omega) (by decide) (by decide)]
      refine ⟨by decide, by rw [i8]; exact p8, by rw [i8, i9]; exact p9, ?_⟩
      rw [nI_mul, shr_n hy (by omega), i8, i9]
      have hy2 : y / 2 ^ (15 * (l % 2)) < 2 ^ 31 := Nat.lt_of_le_of_lt (Nat.div_le_self _ _) hy
      generalize y / 2 ^ (15 * (l % 2)) = u at hy2
      have e4 : nI u >>> (nI 4 &&& 31) = nI (u / 2 ^ 4) := shr_n (k := 4) hy2 (by decide)
      have e415 : nI (u / 2 ^ 4) &&& nI 15 = nI (u / 2 ^ 4 % 16) := by rw [fa_and, and_15]
      have e8 : nI u >>> (nI 8 &&& 31) = nI (u / 2 ^ 8) := shr_n (k := 8) hy2 (by decide)
      have e815 : nI (u / 2 ^ 8) &&& nI 15 = nI (u / 2 ^ 8 % 16) := by rw [fa_and, and_15]
      have b16 : u / 2 ^ 4 % 16 < 16 := Nat.mod_lt _ (by decide)
      have b16' : u / 2 ^ 8 % 16 < 16 := Nat.mod_lt _ (by decide)
      cases hb : tbB x 2
      · rw [hb] at ex2
        have ex20 : (nI x >>> (nI 2 &&& 31)) &&& nI 1 = 0 := ex2
        (first | refine xbr_t ex20 ?_ | refine xbr_f ex20 ?_)
        refine ⟨by decide, by rw [i10]; exact p10, ?_⟩
        rw [i10, c8, c9, c10, e4, e415, e8, e815, pk_rem (d := 6) (by omega) (by decide) (by decide), pk_rem (d := 5) (by omega) (by decide) (by decide), xup3]
        refine h193 (u % 6) (u / 2 ^ 4 % 16) (u / 2 ^ 8 % 16 % 5) _ _ _ (Nat.mod_lt _ (by decide)) (Nat.mod_lt _ (by decide)) (Nat.mod_lt _ (by decide)) ?_ (Lq_w hC2 _)
        rw [xrw_s]
      · rw [hb] at ex2
        have ex20 : ¬ (nI x >>> (nI 2 &&& 31)) &&& nI 1 = 0 := by rw [ex2]; decide
        (first | refine xbr_t ex20 ?_ | refine xbr_f ex20 ?_)
        refine ⟨by decide, by rw [i10]; exact p10, ?_⟩
        rw [i10, c8, c9, c10, e4, e415, e8, e815, pk_rem (d := 6) (by omega) (by decide) (by decide), pk_rem (d := 2) (by omega) (by decide) (by decide), xup3]
        refine h193 (u % 6) (u / 2 ^ 4 % 16) (u / 2 ^ 8 % 16 % 2) _ _ _ (Nat.mod_lt _ (by decide)) (Nat.mod_lt _ (by decide)) (by omega) ?_ (Lq_w hC2 _)
        rw [xrw_s]
    · rintro I2 L2 ⟨v2, q2, hiv2, hqk2, hnA2, hnL2, hbl2, h402, hC2, hw2⟩
      refine xrun okL_lays hhL_lays [(259, [true, true, true, true, true, true, false, false, false, false])] 60 ?_
      (first | (refine xbr_f ?_ ?_; (focus ((simp (disch := omega) only [ix_lt, ix_le, ix_eq, ix_0, nI_clamp, nI_toInt, ng_T, nI_add, nI_mul, nI_sub', Int.neg_zero, not_false_eq_true, not_true_eq_false] <;> omega); done))) | (refine xbr_t ?_ ?_; (focus ((simp (disch := omega) only [ix_lt, ix_le, ix_eq, ix_0, nI_clamp, nI_toInt, ng_T, nI_add, nI_mul, nI_sub', Int.neg_zero, not_false_eq_true, not_true_eq_false] <;> omega); done))) | refine ⟨Or.inl rfl, ?_⟩ | refine ⟨Or.inr rfl, ?_⟩ | (refine ⟨?_, ?_⟩; (focus (exact in_nI (by omega) (by omega)))))
      exact h259 z v2 q2 I2 L2 _ _ _ _ hz hiv2 hqk2 hnA2 hnL2 hbl2 h402 hC2 hw2
    · ((repeat' (first | (with_reducible rfl) | exact xv_nil | refine xv_cons ?_ ?_ | refine xv_i ?_ | refine xv_l ?_)) <;> (simp (disch := omega) only [↓reduceIte, Bool.false_eq_true, Nat.one_mul, Nat.zero_mul, Nat.or_zero, Nat.add_zero, Nat.zero_add, Bool.toNat_true, Bool.toNat_false, shl_n, shr_n, fa_and, fa_or, nx_xor, nI_add, nI_mul, nI_sub', and_1, and_7, and_3', and_15, hAd]))
  refine ⟨rfl, rfl, S0.wT t0, _, _, rfl, hC, fun o S1 I1 L1 hr1 hf1 hC1 => ?_⟩
  obtain ⟨q1, q2⟩ := textR_v hr1
  subst q1
  subst q2
  refine xbr_t rfl ?_
  have hC1 : Cls ((S0.wX (fun t => if t = 0 then 60 + 1 else 0) (xfil (fun _ => 0) (0 * 60) 60 (nI 32))).wT t0) I1 L1 := hC1
  have hW1 : I1 27 = fun _ => 0 := (f27 hf1).trans hW
  have bl0 : BL (xfil (fun _ => 0) (0 * 60) 60 (nI 32)) 0 := fun t _ g2 => by
    show (if 0 * 60 ≤ t ∧ t < 0 * 60 + 60 then nI 32 else _) = _
    rw [if_pos ⟨by omega, by omega⟩]
  refine ⟨rfl, rfl, _, _, 0, 110, rfl, ⟨t0, hC1⟩, rfl, by decide, by rw [hW1]; rfl, bl0 0 (by decide) (by decide), by decide, fun I2 L2 h2 hC2 => ?_⟩
  refine xbr_f (fun q => absurd q (by decide)) ?_
  refine xgo_eq (xlpW (M := mL_lays) (cs := csL_lays) (pc := 38) 5 (fun k => [some (.ref 1), some (.ref 0), some (.ref 27), some (.int (nI x)), some (.int (nI 1)), some (.int (nI k)), none, none, none, none]) (fun k I' L' => ∃ v r, (∀ j, r j < 5) ∧ v 0 = nI 110 ∧ (∀ j, j < k → v (1 + j) = nI (48 + r j) ∧ I' 27 (4 + j) = nI (r j)) ∧ BL v (k + 1) ∧ I' 27 40 = nI (k + 1) ∧ I' 27 0 = nI 0 ∧ I' 27 1 = nI 0 ∧ Lq (S0.wX (fun t => if t = 0 then 60 + 1 else 0) v) I' L') ?_ ?_ ⟨_, fun _ => 0, fun _ => (by show (0 : Nat) < 5; decide), ?_, fun j hj => absurd hj (Nat.not_lt_zero j), BL_s bl0 _, by rw [h2]; rfl, by rw [h2, hW1]; rfl, by rw [h2, hW1]; rfl, hC2⟩) rfl rfl rfl
  · rintro k hk I3 L3 ⟨v, r, hr, hv0, hv, hbl, h40, hw0, hw1, hC3⟩ ih
    have i4 : nI 4 + nI k = nI (4 + k) := nI_add _ _
    have c4 : (nI (4 + k)).toNatClampNeg = 4 + k := nI_clamp (by omega)
    have p4 : vp_in (nI (4 + k)) 64 := in_nI (by omega) (by decide)
    refine xrun okL_lays hhL_lays [(38, [true, true, true, true, true, true, false, false, false, false])] 60 ?_
    (first | (refine xbr_f ?_ ?_; (focus ((simp (disch := omega) only [ix_lt, ix_le, ix_eq, ix_0, nI_clamp, nI_toInt, ng_T, nI_add, nI_mul, nI_sub', Int.neg_zero, not_false_eq_true, not_true_eq_false] <;> omega); done))) | (refine xbr_t ?_ ?_; (focus ((simp (disch := omega) only [ix_lt, ix_le, ix_eq, ix_0, nI_clamp, nI_toInt, ng_T, nI_add, nI_mul, nI_sub', Int.neg_zero, not_false_eq_true, not_true_eq_false] <;> omega); done))) | refine ⟨Or.inl rfl, ?_⟩ | refine ⟨Or.inr rfl, ?_⟩ | (refine ⟨?_, ?_⟩; (focus (exact in_nI (by omega) (by omega)))))
    (first | (refine xbr_f ?_ ?_; (focus ((simp (disch := omega) only [ix_lt, ix_le, ix_eq, ix_0, nI_clamp, nI_toInt, ng_T, nI_add, nI_mul, nI_sub', Int.neg_zero, not_false_eq_true, not_true_eq_false] <;> omega); done))) | (refine xbr_t ?_ ?_; (focus ((simp (disch := omega) only [ix_lt, ix_le, ix_eq, ix_0, nI_clamp, nI_toInt, ng_T, nI_add, nI_mul, nI_sub', Int.neg_zero, not_false_eq_true, not_true_eq_false] <;> omega); done))) | refine ⟨Or.inl rfl, ?_⟩ | refine ⟨Or.inr rfl, ?_⟩ | (refine ⟨?_, ?_⟩; (focus (exact in_nI (by omega) (by omega)))))
    refine ⟨rfl, rfl, 1, rfl, by decide, fun y hy => ?_⟩
    have e31 : y / 2 ^ (5 * k) &&& 31 = y / 2 ^ (5 * k) % 32 := Nat.and_two_pow_sub_one_eq_mod _ 5
    refine ⟨by decide, ?_⟩
    rw [nI_mul, shr_n hy (by omega), fa_and, e31, pk_rem (Nat.lt_of_lt_of_le (Nat.mod_lt _ (by decide)) (by decide)) (by decide) (by decide), i4]
    have hd5 : y / 2 ^ (5 * k) % 32 % 5 < 5 := Nat.mod_lt _ (by decide)
    generalize y / 2 ^ (5 * k) % 32 % 5 = u at hd5
    refine ⟨p4, by rw [i4]; exact p4, ?_⟩
    rw [i4, c4, xup_w, xrw_s, if_pos rfl]
    have h40' : xrw I3 27 (fun t => if t = 4 + k then nI u else I3 27 t) 27 40 = nI (k + 1) := by
      rw [xrw_s, if_neg (by omega)]
      exact h40
    refine ⟨rfl, rfl, _, v, k + 1, 48 + u, by rw [nI_add], Lq_w hC3 _, rfl, by omega, h40', hbl _ (by omega) (by omega), by omega, fun I4 L4 h4 hC4 => ?_⟩
    have w4 : ∀ t, ¬ t = 40 → I4 27 t = if t = 4 + k then nI u else I3 27 t := fun t ht => by
      rw [h4]
      show (if t = 40 then _ else xrw I3 27 (fun t => if t = 4 + k then nI u else I3 27 t) 27 t) = _
      rw [if_neg ht, xrw_s]
    refine xgo_eq (ih _ _ ⟨_, fun j => if j = k then u else r j, fun j => ?_, ?_, fun j hj => ⟨?_, ?_⟩, ?_, by rw [h4]; rfl, ?_, ?_, hC4⟩) ?_ rfl rfl
    · show (if j = k then u else r j) < 5
      split
      · exact hd5
      · exact hr j
    · show (if 0 = k + 1 then _ else v 0) = _
      rw [if_neg (by omega)]
      exact hv0
    · show (if 1 + j = k + 1 then nI (48 + u) else v (1 + j)) = nI (48 + if j = k then u else r j)
      by_cases e : j = k
      · rw [if_pos (by omega), if_pos e]
      · rw [if_neg (by omega), if_neg e]
        exact (hv j (by omega)).1
    · rw [w4 _ (by omega)]
      show (if 4 + j = 4 + k then nI u else _) = nI (if j = k then u else r j)
      by_cases e : j = k
      · rw [if_pos (by omega), if_pos e]
      · rw [if_neg (by omega), if_neg e]
        exact (hv j (by omega)).2
    · exact BL_s hbl _
    · rw [w4 0 (by omega), if_neg (by omega)]
      exact hw0
    · rw [w4 1 (by omega), if_neg (by omega)]
      exact hw1
    · ((repeat' (first | (with_reducible rfl) | exact xv_nil | refine xv_cons ?_ ?_ | refine xv_i ?_ | refine xv_l ?_)) <;> (simp (disch := omega) only [↓reduceIte, Bool.false_eq_true, Nat.one_mul, Nat.zero_mul, Nat.or_zero, Nat.add_zero, Nat.zero_add, Bool.toNat_true, Bool.toNat_false, shl_n, shr_n, fa_and, fa_or, nx_xor, nI_add, nI_mul, nI_sub', and_1, and_7, and_3', and_15]))
  · rintro I3 L3 ⟨v, r, hr, hv0, hv, hbl, h40, hw0, hw1, hC3⟩
    have hiv := IV_0 (v := v) (r := r) hv0 (fun j hj => ⟨(hv j hj).1, hr j⟩)
    obtain ⟨a1, a2, a3, a4⟩ := dR_f r 5
    obtain ⟨b1, b2⟩ := dR_R hr 5
    refine xrun okL_lays hhL_lays [(92, [true, true, true, true, true, false, false, false, false, false])] 60 ?_
    (first | (refine xbr_f ?_ ?_; (focus ((simp (disch := omega) only [ix_lt, ix_le, ix_eq, ix_0, nI_clamp, nI_toInt, ng_T, nI_add, nI_mul, nI_sub', Int.neg_zero, not_false_eq_true, not_true_eq_false] <;> omega); done))) | (refine xbr_t ?_ ?_; (focus ((simp (disch := omega) only [ix_lt, ix_le, ix_eq, ix_0, nI_clamp, nI_toInt, ng_T, nI_add, nI_mul, nI_sub', Int.neg_zero, not_false_eq_true, not_true_eq_false] <;> omega); done))) | refine ⟨Or.inl rfl, ?_⟩ | refine ⟨Or.inr rfl, ?_⟩ | (refine ⟨?_, ?_⟩; (focus (exact in_nI (by omega) (by omega)))))
    refine h92 _ v _ I3 L3 _ _ _ _ _ rfl hiv ⟨?_, ?_, ?_, ?_⟩ a1 a2 hbl h40 hC3 ⟨?_, ?_, fun j hj => ?_, fun i hi => ?_, fun l hl => ?_⟩
    · show (dRN r 5).nA ≤ 4
      rw [a1]
      decide
    · show (dRN r 5).nL ≤ 5
      rw [a2]
      decide
    · show (dRN r 5).K < 2 ^ (3 * (dRN r 5).nA)
      rw [a1, a3]
      decide
    · show (dRN r 5).H < 2 ^ (3 * (dRN r 5).nL)
      rw [a2, a4]
      decide
    · show I3 27 0 = nI (dRN r 5).nA
      rw [a1]
      exact hw0
    · show I3 27 1 = nI (dRN r 5).nL
      rw [a2]
      exact hw1
    · show I3 27 (4 + j) = nI (rdN (dRN r 5) j)
      rw [b2, if_pos hj]
      exact (hv j hj).2
    · have hi : i < (dRN r 5).nA := hi
      rw [a1] at hi
      exact absurd hi (Nat.not_lt_zero i)
    · have hl : l < (dRN r 5).nL := hl
      rw [a2] at hl
      exact absurd hl (Nat.not_lt_zero l)
  · show (if 0 = 0 then nI 110 else _) = _
    rw [if_pos rfl]
