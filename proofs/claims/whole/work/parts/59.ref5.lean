/-! THE REFERENCE, 5: deeds -/
theorem or_pow {b k : Nat} (h : b < 2 ^ k) : b ||| 2 ^ k = 2 ^ k + b := by
  have := Nat.two_pow_add_eq_or_of_lt h 1
  rw [Nat.mul_one] at this
  rw [this, Nat.or_comm]
theorem pc_add {b k : Nat} (h : b < 2 ^ k) (hk : k < 64) : pcf 64 (b ||| 2 ^ k) = pcf 64 b + 1 := by
  obtain ⟨m, hm⟩ : ∃ m, 64 = k + (m + 1) := ⟨63 - k, by omega⟩
  have hp := Nat.two_pow_pos k
  rw [or_pow h, hm, pcf_split, pc_big h]
  have e1 : (2 ^ k + b) / 2 ^ k = 1 := by
    rw [Nat.add_div_left _ hp, Nat.div_eq_of_lt h]
  have e2 : pcf k (2 ^ k + b) = pcf k b := by
    rw [← pcf_mod, Nat.add_mod_left, pcf_mod]
  rw [e1, e2]
  show pcf k b + (1 % 2 + pcf m (1 / 2)) = _
  rw [show 1 / 2 = 0 from rfl, pcf_0]
theorem or_md {b k n : Nat} (h : b < 2 ^ k) (hn : n ≤ k) : (b ||| 2 ^ k) % 2 ^ n = b % 2 ^ n := by
  rw [or_pow h]
  obtain ⟨m, rfl⟩ : ∃ m, k = n + m := ⟨k - n, by omega⟩
  rw [Nat.pow_add, Nat.mul_add_mod]
def csX11_notes : xCs := []
theorem okX11_notes : xOkM mX11_notes csX11_notes := ⟨dX11_notes, by decide +kernel, by decide +kernel, ⟨wdX11_46, wdX11_199, wdX11_37, wdX11_199, ⟨wdX11_199, fun h => Bool.noConfusion h⟩, trivial⟩⟩
theorem hhX11_notes : ∀ q ∈ csX11_notes, xHd q.1 := xall0
theorem kkX11_notes : ∀ q ∈ csX11_notes, ∀ l, xCon l q.1 q.2 := xall0
def sX11_notes : xSpec := xReg fun as I L Q => ∃ s : Nat, as = [.ref 27] ∧ I 27 22 = nI s ∧ s < 40 ∧ (∀ g, (∀ k, k < 19 → g (19 * s + k) = I 37 k) → (∀ t, (t < 19 * s ∨ 19 * s + 19 ≤ t) → g t = I 40 t) → Q none (xup (xrw I 40 g) 27 22 (nI (s + 1))) L)
set_option maxRecDepth 100000 in
theorem kX11_notes : ∀ l, xCon l mX11_notes sX11_notes := by
  refine xcon_of okX11_notes hX11_notes rfl (by decide) hhX11_notes kkX11_notes ?_
  rintro as n0 I L P Q ⟨rfl, rfl, s, rfl, hs, hs40, hQ⟩
  refine ⟨Nat.le_of_ble_eq_true rfl, ?_⟩
  refine xrun okX11_notes hhX11_notes [(2, [true, true])] 60 ?_
  refine xlpW (M := mX11_notes) (cs := csX11_notes) (pc := 2) 19 (fun k => [some (.ref 27), some (.int (nI k))]) (fun k I' L' => L = L' ∧ ∃ g, I' = xrw I 40 g ∧ (∀ t, t < k → g (19 * s + t) = I 37 t) ∧ (∀ t, (t < 19 * s ∨ 19 * s + k ≤ t) → g t = I 40 t)) ?_ ?_ ⟨rfl, I 40, (xrw_self I 40).symm, fun t h => absurd h (by omega), fun _ _ => rfl⟩
  · rintro k hk I2 L2 ⟨rfl, g, rfl, hg1, hg2⟩ ih
    refine xrun okX11_notes hhX11_notes [(2, [true, true])] 60 ?_
    have hs2 : xrw I 40 g 27 22 = nI s := hs
    (first | (refine xbr_f ?_ ?_; (focus ((simp (disch := omega) only [ix_lt, ix_le, ix_eq, ix_0, nI_clamp, nI_toInt, ng_T, nI_add, nI_mul, nI_sub', Int.neg_zero, not_false_eq_true, not_true_eq_false] <;> omega); done))) | (refine xbr_t ?_ ?_; (focus ((simp (disch := omega) only [ix_lt, ix_le, ix_eq, ix_0, nI_clamp, nI_toInt, ng_T, nI_add, nI_mul, nI_sub', Int.neg_zero, not_false_eq_true, not_true_eq_false] <;> omega); done))) | refine ⟨Or.inl rfl, ?_⟩ | refine ⟨Or.inr rfl, ?_⟩ | (refine ⟨?_, ?_⟩; (focus (exact in_nI (by omega) (by omega)))))
    (first | (refine xbr_f ?_ ?_; (focus ((simp (disch := omega) only [ix_lt, ix_le, ix_eq, ix_0, nI_clamp, nI_toInt, ng_T, nI_add, nI_mul, nI_sub', Int.neg_zero, not_false_eq_true, not_true_eq_false, nI_add] <;> omega); done))) | (refine xbr_t ?_ ?_; (focus ((simp (disch := omega) only [ix_lt, ix_le, ix_eq, ix_0, nI_clamp, nI_toInt, ng_T, nI_add, nI_mul, nI_sub', Int.neg_zero, not_false_eq_true, not_true_eq_false, nI_add] <;> omega); done))) | refine ⟨Or.inl rfl, ?_⟩ | refine ⟨Or.inr rfl, ?_⟩ | (refine ⟨?_, ?_⟩; (focus ((try simp (disch := omega) only [nI_add, nI_mul, nI_add, nI_sub']); exact in_nI (by omega) (by omega)))))
    (first | (refine xbr_f ?_ ?_; (focus ((simp (disch := omega) only [ix_lt, ix_le, ix_eq, ix_0, nI_clamp, nI_toInt, ng_T, nI_add, nI_mul, nI_sub', Int.neg_zero, not_false_eq_true, not_true_eq_false, hs2, nI_add] <;> omega); done))) | (refine xbr_t ?_ ?_; (focus ((simp (disch := omega) only [ix_lt, ix_le, ix_eq, ix_0, nI_clamp, nI_toInt, ng_T, nI_add, nI_mul, nI_sub', Int.neg_zero, not_false_eq_true, not_true_eq_false, hs2, nI_add] <;> omega); done))) | refine ⟨Or.inl rfl, ?_⟩ | refine ⟨Or.inr rfl, ?_⟩ | (refine ⟨?_, ?_⟩; (focus ((try simp (disch := omega) only [hs2, nI_add, nI_mul, nI_add, nI_sub']); exact in_nI (by omega) (by omega)))))
    simp (disch := omega) only [hs2, nI_mul, nI_add, nI_clamp, nI_sub']
    rw [xrw_up]
    refine xgo_eq (ih _ _ ⟨rfl, _, rfl, fun t ht => ?_, fun t ht => ?_⟩) ?_ rfl rfl
    · by_cases e : t = k
      · rw [e, if_pos rfl]
        rfl
      · rw [if_neg (by omega)]
        exact hg1 t (by omega)
    · rw [if_neg (by omega)]
      exact hg2 t (by omega)
    · ((repeat' (first | (with_reducible rfl) | exact xv_nil | refine xv_cons ?_ ?_ | refine xv_i ?_ | refine xv_l ?_)) <;> (simp (disch := omega) only [↓reduceIte, Bool.false_eq_true, Nat.one_mul, Nat.zero_mul, Nat.or_zero, Nat.add_zero, Nat.zero_add, Bool.toNat_true, Bool.toNat_false, shl_n, shr_n, fa_and, fa_or, nx_xor, nI_add, nI_mul, nI_sub', and_1, and_7, and_3', and_15]))
  · rintro I2 L2 ⟨rfl, g, rfl, hg1, hg2⟩
    refine xrun okX11_notes hhX11_notes [] 60 ?_
    have hs2 : xrw I 40 g 27 22 = nI s := hs
    repeat (first | (refine xbr_f ?_ ?_; (focus ((simp (disch := omega) only [ix_lt, ix_le, ix_eq, ix_0, nI_clamp, nI_toInt, ng_T, nI_add, nI_mul, nI_sub', Int.neg_zero, not_false_eq_true, not_true_eq_false] <;> omega); done))) | (refine xbr_t ?_ ?_; (focus ((simp (disch := omega) only [ix_lt, ix_le, ix_eq, ix_0, nI_clamp, nI_toInt, ng_T, nI_add, nI_mul, nI_sub', Int.neg_zero, not_false_eq_true, not_true_eq_false] <;> omega); done))) | refine ⟨Or.inl rfl, ?_⟩ | refine ⟨Or.inr rfl, ?_⟩ | (refine ⟨?_, ?_⟩; (focus (exact in_nI (by omega) (by omega)))))
    have hq := hQ g hg1 hg2
    rw [← nI_add, ← hs2] at hq
    exact hq
/-- a deed more -/
theorem Ref_A {S : ST} {I I' : xI} {L : xL} (h : Ref S I L) (hz : S.D.z < 41) {X : Nat} {c : Bool} (hX : XOk X) {g : Nat → Int32} (hg1 : ∀ k, k < 19 → g (19 * (S.D.z - 1) + k) = I 37 k) (hg2 : ∀ t, (t < 19 * (S.D.z - 1) ∨ 19 * (S.D.z - 1) + 19 ≤ t) → g t = I 40 t)
    (e1 : ∀ k, k ≠ 27 → k ≠ 37 → k ≠ 38 → k ≠ 40 → I' k = I k) (e2 : ∀ j, j ≠ 22 → I' 27 j = I 27 j) (e3 : I' 27 22 = nI (S.D.z - 1 + 1)) (e4 : I' 40 = g) (hn : nwR S.d X (if c then pcf 64 S.D.b + 1 else pcf 64 S.D.b) (I' 37)) : Ref (S.wD (adD S.D X c)) I' L := by
  have h0 := h.ok.z
  have hb := h.ok.b
  have hok : SOk (S.wD (adD S.D X c)) := ⟨h.ok.d, adD_ok h.ok.D h0 (by omega) hX, Nat.succ_pos _, h.ok.2.2.2⟩
  have hpc : pcf 64 (if c then S.D.b ||| 2 ^ (S.D.z - 1) else S.D.b) = if c then pcf 64 S.D.b + 1 else pcf 64 S.D.b := by
    cases c
    · rfl
    · exact pc_add hb (by omega)
  refine ⟨hok, ?_, ⟨?_, ?_, fun n hn' => ?_⟩, ?_, ?_, ?_, ?_⟩
  · have p := h.pd
    unfold pdR at p ⊢
    rw [e2 10 (by decide), e2 11 (by decide), e1 34 (by decide) (by decide) (by decide) (by decide), e1 35 (by decide) (by decide) (by decide) (by decide), e1 36 (by decide) (by decide) (by decide) (by decide)]
    exact p
  · show nwR S.d X (pcf 64 (if c then S.D.b ||| 2 ^ (S.D.z - 1) else S.D.b)) (I' 37)
    rw [hpc]
    exact hn
  · show I' 27 22 = nI (S.D.z + 1 - 1)
    rw [e3, show S.D.z - 1 + 1 = S.D.z + 1 - 1 by omega]
  · have hn2 : n < S.D.z + 1 - 1 := hn'
    show nwR S.d (if n = S.D.z - 1 then S.D.X else S.D.be n) (pcf 64 ((if c then S.D.b ||| 2 ^ (S.D.z - 1) else S.D.b) % 2 ^ n)) (fun k => I' 40 (19 * n + k))
    have hmod : (if c then S.D.b ||| 2 ^ (S.D.z - 1) else S.D.b) % 2 ^ n = S.D.b % 2 ^ n := by
      cases c
      · rfl
      · exact or_md hb (by omega)
    rw [hmod, e4]
    by_cases e : n = S.D.z - 1
    · rw [if_pos e, e, Nat.mod_eq_of_lt hb]
      exact nwR_eq h.pd.ok h.nw hg1
    · rw [if_neg e]
      refine nwR_eq h.pd.ok (h.hi n (by omega)) (fun k hk => hg2 _ ?_)
      left
      have := Nat.mul_le_mul_left 19 (show n + 1 ≤ S.D.z - 1 by omega)
      omega
  · have p := h.kp
    show kpR S.d S.kp (I' 41) (I' 42)
    rw [e1 41 (by decide) (by decide) (by decide) (by decide), e1 42 (by decide) (by decide) (by decide) (by decide)]
    exact p
  · have p := h.rw
    show rwR 6 40 S.rz S.rv (I' 29) (I' 30)
    rw [e1 29 (by decide) (by decide) (by decide) (by decide), e1 30 (by decide) (by decide) (by decide) (by decide)]
    exact p
  · have p := h.tx
    show rwR 4 60 S.tz S.tv (I' 31) (I' 32)
    rw [e1 31 (by decide) (by decide) (by decide) (by decide), e1 32 (by decide) (by decide) (by decide) (by decide)]
    exact p
  · obtain ⟨m1, m2, m3, m4, m5⟩ := h.mc
    refine ⟨fun j hj => ?_, ?_, ?_, m4, m5⟩
    · rw [e1 28 (by decide) (by decide) (by decide) (by decide)]
      exact m1 j hj
    · rw [e2 3 (by decide)]
      exact m2
    · rw [e2 0 (by decide)]
      exact m3
def csX11_day : xCs := [(mX11_notes, sX11_notes), (mX11_goesBy, sX11_goesBy)]
theorem okX11_day : xOkM mX11_day csX11_day := ⟨dX11_day, by decide +kernel, by decide +kernel, ⟨wdX11_118, wdX11_199, wdX11_225, wdX11_228, trivial⟩⟩
theorem hhX11_day : ∀ q ∈ csX11_day, xHd q.1 := xall1 hX11_notes (xall1 hX11_goesBy (xall0))
theorem kkX11_day : ∀ q ∈ csX11_day, ∀ l, xCon l q.1 q.2 := xall1 kX11_notes (xall1 kX11_goesBy (xall0))
def sX11_day : xSpec := xReg fun as I L Q => ∃ (S : ST) (o : Int32) (S' : ST), as = [.ref 27] ∧ dayR S o S' ∧ Ref S I L ∧ (∀ I' L', frM I L I' L' → Ref S' I' L' → Q (some (.int o)) I' L')
set_option maxRecDepth 100000 in
theorem kX11_day : ∀ l, xCon l mX11_day sX11_day := by
  refine xcon_of okX11_day hX11_day rfl (by decide) hhX11_day kkX11_day ?_
  rintro as n0 I L P Q ⟨rfl, rfl, S, o, S', rfl, hR, hC, hQ⟩
  refine ⟨Nat.le_of_ble_eq_true rfl, ?_⟩
  have hA := hC.pd.a
  have h4 := hC.pd.ok.a4
  have hs := hC.sz
  have hz := hC.ok.D.1
  have h0 := hC.ok.z
  refine xrun okX11_day hhX11_day [] 60 ?_
  rcases hR with ⟨h, rfl, rfl⟩ | ⟨h, h1, rfl, rfl⟩ | ⟨h, h1, rfl, rfl⟩
  · obtain ⟨S, rfl⟩ : ∃ S, S = S' := ⟨S', rfl⟩
    rw [h] at hA
    repeat (first | (refine xbr_f ?_ ?_; (focus ((simp (disch := omega) only [ix_lt, ix_le, ix_eq, ix_0, nI_clamp, nI_toInt, ng_T, nI_add, nI_mul, nI_sub', Int.neg_zero, not_false_eq_true, not_true_eq_false, hA] <;> omega); done))) | (refine xbr_t ?_ ?_; (focus ((simp (disch := omega) only [ix_lt, ix_le, ix_eq, ix_0, nI_clamp, nI_toInt, ng_T, nI_add, nI_mul, nI_sub', Int.neg_zero, not_false_eq_true, not_true_eq_false, hA] <;> omega); done))) | refine ⟨Or.inl rfl, ?_⟩ | refine ⟨Or.inr rfl, ?_⟩ | (refine ⟨?_, ?_⟩; (focus ((try simp (disch := omega) only [hA, nI_mul, nI_add, nI_sub']); exact in_nI (by omega) (by omega)))))
    exact hQ _ _ (frM_0 _ _) hC
  · obtain ⟨S, rfl⟩ : ∃ S, S = S' := ⟨S', rfl⟩
    rw [h1] at hs
    repeat (first | (refine xbr_f ?_ ?_; (focus ((simp (disch := omega) only [ix_lt, ix_le, ix_eq, ix_0, nI_clamp, nI_toInt, ng_T, nI_add, nI_mul, nI_sub', Int.neg_zero, not_false_eq_true, not_true_eq_false, hA, hs] <;> omega); done))) | (refine xbr_t ?_ ?_; (focus ((simp (disch := omega) only [ix_lt, ix_le, ix_eq, ix_0, nI_clamp, nI_toInt, ng_T, nI_add, nI_mul, nI_sub', Int.neg_zero, not_false_eq_true, not_true_eq_false, hA, hs] <;> omega); done))) | refine ⟨Or.inl rfl, ?_⟩ | refine ⟨Or.inr rfl, ?_⟩ | (refine ⟨?_, ?_⟩; (focus ((try simp (disch := omega) only [hA, hs, nI_mul, nI_add, nI_sub']); exact in_nI (by omega) (by omega)))))
    exact hQ _ _ (frM_0 _ _) hC
  · repeat (first | (refine xbr_f ?_ ?_; (focus ((simp (disch := omega) only [ix_lt, ix_le, ix_eq, ix_0, nI_clamp, nI_toInt, ng_T, nI_add, nI_mul, nI_sub', Int.neg_zero, not_false_eq_true, not_true_eq_false, hA, hs] <;> omega); done))) | (refine xbr_t ?_ ?_; (focus ((simp (disch := omega) only [ix_lt, ix_le, ix_eq, ix_0, nI_clamp, nI_toInt, ng_T, nI_add, nI_mul, nI_sub', Int.neg_zero, not_false_eq_true, not_true_eq_false, hA, hs] <;> omega); done))) | refine ⟨Or.inl rfl, ?_⟩ | refine ⟨Or.inr rfl, ?_⟩ | (refine ⟨?_, ?_⟩; (focus ((try simp (disch := omega) only [hA, hs, nI_mul, nI_add, nI_sub']); exact in_nI (by omega) (by omega)))))
    refine ⟨rfl, rfl, S.D.z - 1, rfl, hs, by omega, fun g hg1 hg2 => ?_⟩
    refine ⟨rfl, rfl, S.d, S.D.X, pcf 64 S.D.b, rfl, hC.pd, hC.nw, hC.ok.X, fun f k hk => ?_⟩
    refine hQ _ _ ?_ (Ref_A (c := true) hC h1 (XOk_day hC.ok.d hC.ok.X) hg1 hg2 ?_ ?_ ?_ ?_ hk)
    · exact frM_t (frM_W (k := 40) (by decide) _ _ _) (frM_t (frM_I (k := 27) (by decide) _ _ _ _) (frM_t (frM_W (k := 38) (by decide) _ _ _) (frM_W (k := 37) (by decide) _ _ _)))
    · intro c a1 a2 a3 a4
      rw [xrw_c _ _ _ a2, xrw_c _ _ _ a3, xup_c _ _ _ _ a1, xrw_c _ _ _ a4]
    · intro j hj
      show xup (xrw I 40 g) 27 22 (nI (S.D.z - 1 + 1)) 27 j = _
      rw [xup_at, if_neg (fun q => hj q.2)]
      rfl
    · rfl
    · rfl
def csX11_smear : xCs := [(mX11_isLoad, sX11_isLoad), (mX11_in, sX11_in), (mX11_notes, sX11_notes)]
theorem okX11_smear : xOkM mX11_smear csX11_smear := ⟨dX11_smear, by decide +kernel, by decide +kernel, ⟨wdX11_211, wdX11_94, wdX11_90, wdX11_199, wdX11_225, wdX11_37, wdX11_37, trivial⟩⟩
theorem hhX11_smear : ∀ q ∈ csX11_smear, xHd q.1 := xall1 hX11_isLoad (xall1 hX11_in (xall1 hX11_notes (xall0)))
theorem kkX11_smear : ∀ q ∈ csX11_smear, ∀ l, xCon l q.1 q.2 := xall1 kX11_isLoad (xall1 kX11_in (xall1 kX11_notes (xall0)))
def sX11_smear : xSpec := xReg fun as I L Q => ∃ (S : ST) (l k o : Int32) (S' : ST), as = [.ref 27, .int l, .int k] ∧ smearR S l k o S' ∧ Ref S I L ∧ (∀ I' L', frM I L I' L' → Ref S' I' L' → Q (some (.int o)) I' L')
set_option maxRecDepth 100000 in
theorem kX11_smear : ∀ l, xCon l mX11_smear sX11_smear := by
  refine xcon_of okX11_smear hX11_smear rfl (by decide) hhX11_smear kkX11_smear ?_
  rintro as n0 I L P Q ⟨rfl, rfl, S, l, k, o, S', rfl, hR, hC, hQ⟩
  refine ⟨Nat.le_of_ble_eq_true rfl, ?_⟩
  have h5 := hC.pd.ok.l5
  have hs := hC.sz
  have hz := hC.ok.D.1
  have h0 := hC.ok.z
  refine xrun okX11_smear hhX11_smear [] 60 ?_
  refine ⟨rfl, rfl, S.d, l, rfl, hC.pd, ?_⟩
  rcases hR with ⟨h, rfl, rfl⟩ | ⟨a, m, rfl, ha, rfl, hm, hR⟩
  · obtain ⟨S, rfl⟩ : ∃ S, S = S' := ⟨S', rfl⟩
    have done := hQ _ _ (frM_0 _ _) hC
    cases hb : ibB l S.d.nL
    · (first | refine xbr_t (by decide) ?_ | refine xbr_f (by decide) ?_)
      exact done
    · (first | refine xbr_t (by decide) ?_ | refine xbr_f (by decide) ?_)
      refine ⟨rfl, rfl, _, _, _, k, nI 0, nI 3, rfl, rfl, by decide, by decide, ?_⟩
      rw [in_c (by decide)]
      cases hw : ibB k 4
      · (first | refine xbr_t (by decide) ?_ | refine xbr_f (by decide) ?_)
        exact done
      · exact absurd ⟨hb, hw⟩ h
  · rw [ib_tt ha (by omega)]
    (first | refine xbr_t (by decide) ?_ | refine xbr_f (by decide) ?_)
    refine ⟨rfl, rfl, _, _, _, nI m, nI 0, nI 3, rfl, rfl, by decide, by decide, ?_⟩
    rw [in_c (by decide), ib_tt hm (by decide)]
    (first | refine xbr_t (by decide) ?_ | refine xbr_f (by decide) ?_)
    rcases hR with ⟨h1, rfl, rfl⟩ | ⟨h1, rfl, rfl⟩
    · obtain ⟨S, rfl⟩ : ∃ S, S = S' := ⟨S', rfl⟩
      rw [h1] at hs
      repeat (first | (refine xbr_f ?_ ?_; (focus ((simp (disch := omega) only [ix_lt, ix_le, ix_eq, ix_0, nI_clamp, nI_toInt, ng_T, nI_add, nI_mul, nI_sub', Int.neg_zero, not_false_eq_true, not_true_eq_false, hs] <;> omega); done))) | (refine xbr_t ?_ ?_; (focus ((simp (disch := omega) only [ix_lt, ix_le, ix_eq, ix_0, nI_clamp, nI_toInt, ng_T, nI_add, nI_mul, nI_sub', Int.neg_zero, not_false_eq_true, not_true_eq_false, hs] <;> omega); done))) | refine ⟨Or.inl rfl, ?_⟩ | refine ⟨Or.inr rfl, ?_⟩ | (refine ⟨?_, ?_⟩; (focus ((try simp (disch := omega) only [hs, nI_mul, nI_add, nI_sub']); exact in_nI (by omega) (by omega)))))
      exact hQ _ _ (frM_0 _ _) hC
    · repeat (first | (refine xbr_f ?_ ?_; (focus ((simp (disch := omega) only [ix_lt, ix_le, ix_eq, ix_0, nI_clamp, nI_toInt, ng_T, nI_add, nI_mul, nI_sub', Int.neg_zero, not_false_eq_true, not_true_eq_false, hs] <;> omega); done))) | (refine xbr_t ?_ ?_; (focus ((simp (disch := omega) only [ix_lt, ix_le, ix_eq, ix_0, nI_clamp, nI_toInt, ng_T, nI_add, nI_mul, nI_sub', Int.neg_zero, not_false_eq_true, not_true_eq_false, hs] <;> omega); done))) | refine ⟨Or.inl rfl, ?_⟩ | refine ⟨Or.inr rfl, ?_⟩ | (refine ⟨?_, ?_⟩; (focus ((try simp (disch := omega) only [hs, nI_mul, nI_add, nI_sub']); exact in_nI (by omega) (by omega)))))
      refine ⟨rfl, rfl, S.D.z - 1, rfl, hs, by omega, fun g hg1 hg2 => ?_⟩
      have e9 : xup (xrw I 40 g) 27 22 (nI (S.D.z - 1 + 1)) 37 (9 + a) = nI (mkN S.D.X a) := hC.nw.k ha
      have h16 := xm_16 (mkN_16 S.D.X a) hm
      have hsh : nI 1 <<< (nI m &&& 31) = nI (2 ^ m) := by rw [shl_n _ (by omega), Nat.one_mul]
      (first | (refine xbr_f ?_ ?_; (focus ((simp (disch := omega) only [ix_lt, ix_le, ix_eq, ix_0, nI_clamp, nI_toInt, ng_T, nI_add, nI_mul, nI_sub', Int.neg_zero, not_false_eq_true, not_true_eq_false, nI_add] <;> omega); done))) | (refine xbr_t ?_ ?_; (focus ((simp (disch := omega) only [ix_lt, ix_le, ix_eq, ix_0, nI_clamp, nI_toInt, ng_T, nI_add, nI_mul, nI_sub', Int.neg_zero, not_false_eq_true, not_true_eq_false, nI_add] <;> omega); done))) | refine ⟨Or.inl rfl, ?_⟩ | refine ⟨Or.inr rfl, ?_⟩ | (refine ⟨?_, ?_⟩; (focus ((try simp (disch := omega) only [nI_add, nI_mul, nI_add, nI_sub']); exact in_nI (by omega) (by omega)))))
      (first | (refine xbr_f ?_ ?_; (focus ((simp (disch := omega) only [ix_lt, ix_le, ix_eq, ix_0, nI_clamp, nI_toInt, ng_T, nI_add, nI_mul, nI_sub', Int.neg_zero, not_false_eq_true, not_true_eq_false, nI_add] <;> omega); done))) | (refine xbr_t ?_ ?_; (focus ((simp (disch := omega) only [ix_lt, ix_le, ix_eq, ix_0, nI_clamp, nI_toInt, ng_T, nI_add, nI_mul, nI_sub', Int.neg_zero, not_false_eq_true, not_true_eq_false, nI_add] <;> omega); done))) | refine ⟨Or.inl rfl, ?_⟩ | refine ⟨Or.inr rfl, ?_⟩ | (refine ⟨?_, ?_⟩; (focus ((try simp (disch := omega) only [nI_add, nI_mul, nI_add, nI_sub']); exact in_nI (by omega) (by omega)))))
      simp (disch := omega) only [e9, nI_mul, nI_add, nI_clamp, nI_sub']
      rw [hsh, nx_xor]
      (first | (refine xbr_f ?_ ?_; (focus ((simp (disch := omega) only [ix_lt, ix_le, ix_eq, ix_0, nI_clamp, nI_toInt, ng_T, nI_add, nI_mul, nI_sub', Int.neg_zero, not_false_eq_true, not_true_eq_false, nI_add] <;> omega); done))) | (refine xbr_t ?_ ?_; (focus ((simp (disch := omega) only [ix_lt, ix_le, ix_eq, ix_0, nI_clamp, nI_toInt, ng_T, nI_add, nI_mul, nI_sub', Int.neg_zero, not_false_eq_true, not_true_eq_false, nI_add] <;> omega); done))) | refine ⟨Or.inl rfl, ?_⟩ | refine ⟨Or.inr rfl, ?_⟩ | (refine ⟨?_, ?_⟩; (focus ((try simp (disch := omega) only [nI_add, nI_mul, nI_add, nI_sub']); exact in_nI (by omega) (by omega)))))
      simp (disch := omega) only [nI_mul, nI_add, nI_clamp, nI_sub']
      have hw2 := nw_mk hC.pd.ok hC.nw ha h16
      have hq := fun f1 f2 => hQ (xup (xup (xrw I 40 g) 27 22 (nI (S.D.z - 1 + 1))) 37 (9 + a) (nI (mkN S.D.X a ^^^ 2 ^ m))) L f1 f2
      have ev : nI (mkN S.D.X a ^^^ 2 ^ m) = xup (xup (xrw I 40 g) 27 22 (nI (S.D.z - 1 + 1))) 37 (9 + a) (nI (mkN S.D.X a ^^^ 2 ^ m)) 37 (9 + a) := by
        rw [xup_at, if_pos ⟨rfl, rfl⟩]
      have hq := hq (frM_t (frM_W (k := 40) (by decide) _ _ _) (frM_t (frM_I (k := 27) (by decide) _ _ _ _) (frM_I (k := 37) (by decide) _ _ _ _))) (Ref_A (c := false) hC h1 (XOk_mk hC.ok.X (by omega) h16) hg1 hg2 (fun c a1 a2 a3 a4 => by
        rw [xup_c _ _ _ _ a2, xup_c _ _ _ _ a1, xrw_c _ _ _ a4]) (fun j hj => by
        show xup (xrw I 40 g) 27 22 (nI (S.D.z - 1 + 1)) 27 j = _
        rw [xup_at, if_neg (fun q => hj q.2)]
        rfl) rfl rfl hw2)
      rw [show (some (Value.int (nI (mkN S.D.X a ^^^ 2 ^ m))) : Option Value) = some (Value.int (xup (xup (xrw I 40 g) 27 22 (nI (S.D.z - 1 + 1))) 37 (9 + a) (nI (mkN S.D.X a ^^^ 2 ^ m)) 37 (9 + a))) from congrArg _ (congrArg _ ev)] at hq
      exact hq
def csX11_lead : xCs := [(mX11_isAss, sX11_isAss), (mX11_in, sX11_in), (mX11_notes, sX11_notes)]
theorem okX11_lead : xOkM mX11_lead csX11_lead := ⟨dX11_lead, by decide +kernel, by decide +kernel, ⟨wdX11_205, wdX11_214, wdX11_90, wdX11_37, wdX11_199, wdX11_225, wdX11_37, trivial⟩⟩
theorem hhX11_lead : ∀ q ∈ csX11_lead, xHd q.1 := xall1 hX11_isAss (xall1 hX11_in (xall1 hX11_notes (xall0)))
theorem kkX11_lead : ∀ q ∈ csX11_lead, ∀ l, xCon l q.1 q.2 := xall1 kX11_isAss (xall1 kX11_in (xall1 kX11_notes (xall0)))
def sX11_lead : xSpec := xReg fun as I L Q => ∃ (S : ST) (l k o : Int32) (S' : ST), as = [.ref 27, .int l, .int k] ∧ leadR S l k o S' ∧ Ref S I L ∧ (∀ I' L', frM I L I' L' → Ref S' I' L' → Q (some (.int o)) I' L')
set_option maxRecDepth 100000 in
theorem kX11_lead : ∀ l, xCon l mX11_lead sX11_lead := by
  refine xcon_of okX11_lead hX11_lead rfl (by decide) hhX11_lead kkX11_lead ?_
  rintro as n0 I L P Q ⟨rfl, rfl, S, l, k, o, S', rfl, hR, hC, hQ⟩
  refine ⟨Nat.le_of_ble_eq_true rfl, ?_⟩
  have h4 := hC.pd.ok.a4
  have hs := hC.sz
  have hz := hC.ok.D.1
  have h0 := hC.ok.z
  refine xrun okX11_lead hhX11_lead [] 60 ?_
  refine ⟨rfl, rfl, S.d, l, rfl, hC.pd, ?_⟩
  rcases hR with ⟨h, rfl, rfl⟩ | ⟨a, m, rfl, ha, rfl, hm, hR⟩
  · obtain ⟨S, rfl⟩ : ∃ S, S = S' := ⟨S', rfl⟩
    have done := hQ _ _ (frM_0 _ _) hC
    cases hb : ibB l S.d.nA
    · (first | refine xbr_t (by decide) ?_ | refine xbr_f (by decide) ?_)
      exact done
    · (first | refine xbr_t (by decide) ?_ | refine xbr_f (by decide) ?_)
      refine ⟨rfl, rfl, _, _, _, k, nI 0, nI 4, rfl, rfl, by decide, by decide, ?_⟩
      rw [in_c (by decide)]
      cases hw : ibB k 5
      · (first | refine xbr_t (by decide) ?_ | refine xbr_f (by decide) ?_)
        exact done
      · exact absurd ⟨hb, hw⟩ h
  · rw [ib_tt ha (by omega)]
    (first | refine xbr_t (by decide) ?_ | refine xbr_f (by decide) ?_)
    refine ⟨rfl, rfl, _, _, _, nI m, nI 0, nI 4, rfl, rfl, by decide, by decide, ?_⟩
    rw [in_c (by decide), ib_tt hm (by decide)]
    (first | refine xbr_t (by decide) ?_ | refine xbr_f (by decide) ?_)
    have e5 := hC.nw.i ha
    have h8 := inN_8 S.D.X a
    rcases hR with ⟨he, rfl, rfl⟩ | ⟨he, h1, rfl, rfl⟩ | ⟨he, h1, rfl, rfl⟩
    · obtain ⟨S, rfl⟩ : ∃ S, S = S' := ⟨S', rfl⟩
      repeat (first | (refine xbr_f ?_ ?_; (focus ((simp (disch := omega) only [ix_lt, ix_le, ix_eq, ix_0, nI_clamp, nI_toInt, ng_T, nI_add, nI_mul, nI_sub', Int.neg_zero, not_false_eq_true, not_true_eq_false, nI_add, e5] <;> omega); done))) | (refine xbr_t ?_ ?_; (focus ((simp (disch := omega) only [ix_lt, ix_le, ix_eq, ix_0, nI_clamp, nI_toInt, ng_T, nI_add, nI_mul, nI_sub', Int.neg_zero, not_false_eq_true, not_true_eq_false, nI_add, e5] <;> omega); done))) | refine ⟨Or.inl rfl, ?_⟩ | refine ⟨Or.inr rfl, ?_⟩ | (refine ⟨?_, ?_⟩; (focus ((try simp (disch := omega) only [nI_add, e5, nI_mul, nI_add, nI_sub']); exact in_nI (by omega) (by omega)))))
      exact hQ _ _ (frM_0 _ _) hC
    · obtain ⟨S, rfl⟩ : ∃ S, S = S' := ⟨S', rfl⟩
      rw [h1] at hs
      repeat (first | (refine xbr_f ?_ ?_; (focus ((simp (disch := omega) only [ix_lt, ix_le, ix_eq, ix_0, nI_clamp, nI_toInt, ng_T, nI_add, nI_mul, nI_sub', Int.neg_zero, not_false_eq_true, not_true_eq_false, nI_add, e5, hs] <;> omega); done))) | (refine xbr_t ?_ ?_; (focus ((simp (disch := omega) only [ix_lt, ix_le, ix_eq, ix_0, nI_clamp, nI_toInt, ng_T, nI_add, nI_mul, nI_sub', Int.neg_zero, not_false_eq_true, not_true_eq_false, nI_add, e5, hs] <;> omega); done))) | refine ⟨Or.inl rfl, ?_⟩ | refine ⟨Or.inr rfl, ?_⟩ | (refine ⟨?_, ?_⟩; (focus ((try simp (disch := omega) only [nI_add, e5, hs, nI_mul, nI_add, nI_sub']); exact in_nI (by omega) (by omega)))))
      exact hQ _ _ (frM_0 _ _) hC
    · repeat (first | (refine xbr_f ?_ ?_; (focus ((simp (disch := omega) only [ix_lt, ix_le, ix_eq, ix_0, nI_clamp, nI_toInt, ng_T, nI_add, nI_mul, nI_sub', Int.neg_zero, not_false_eq_true, not_true_eq_false, nI_add, e5, hs] <;> omega); done))) | (refine xbr_t ?_ ?_; (focus ((simp (disch := omega) only [ix_lt, ix_le, ix_eq, ix_0, nI_clamp, nI_toInt, ng_T, nI_add, nI_mul, nI_sub', Int.neg_zero, not_false_eq_true, not_true_eq_false, nI_add, e5, hs] <;> omega); done))) | refine ⟨Or.inl rfl, ?_⟩ | refine ⟨Or.inr rfl, ?_⟩ | (refine ⟨?_, ?_⟩; (focus ((try simp (disch := omega) only [nI_add, e5, hs, nI_mul, nI_add, nI_sub']); exact in_nI (by omega) (by omega)))))
      refine ⟨rfl, rfl, S.D.z - 1, rfl, hs, by omega, fun g hg1 hg2 => ?_⟩
      (first | (refine xbr_f ?_ ?_; (focus ((simp (disch := omega) only [ix_lt, ix_le, ix_eq, ix_0, nI_clamp, nI_toInt, ng_T, nI_add, nI_mul, nI_sub', Int.neg_zero, not_false_eq_true, not_true_eq_false, nI_add] <;> omega); done))) | (refine xbr_t ?_ ?_; (focus ((simp (disch := omega) only [ix_lt, ix_le, ix_eq, ix_0, nI_clamp, nI_toInt, ng_T, nI_add, nI_mul, nI_sub', Int.neg_zero, not_false_eq_true, not_true_eq_false, nI_add] <;> omega); done))) | refine ⟨Or.inl rfl, ?_⟩ | refine ⟨Or.inr rfl, ?_⟩ | (refine ⟨?_, ?_⟩; (focus ((try simp (disch := omega) only [nI_add, nI_mul, nI_add, nI_sub']); exact in_nI (by omega) (by omega)))))
      simp (disch := omega) only [e5, nI_mul, nI_add, nI_clamp, nI_sub']
      have hw2 := nw_in hC.pd.ok hC.nw ha (show m < 8 by omega)
      refine hQ _ _ ?_ (Ref_A (c := false) hC h1 (XOk_in hC.ok.X (by omega) hm) hg1 hg2 ?_ ?_ ?_ ?_ hw2)
      · exact frM_t (frM_W (k := 40) (by decide) _ _ _) (frM_t (frM_I (k := 27) (by decide) _ _ _ _) (frM_I (k := 37) (by decide) _ _ _ _))
      · intro c a1 a2 a3 a4
        rw [xup_c _ _ _ _ a2, xup_c _ _ _ _ a1, xrw_c _ _ _ a4]
      · intro j hj
        show xup (xrw I 40 g) 27 22 (nI (S.D.z - 1 + 1)) 27 j = _
        rw [xup_at, if_neg (fun q => hj q.2)]
        rfl
      · rfl
      · rfl
