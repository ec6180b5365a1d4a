/-! THE REFERENCE, 8: round; marks to home -/
theorem ffN_all {f : Nat → Bool} : ∀ {n}, (∀ i, i < n → f i = false) → ffN f n = 0
  | 0, _ => rfl
  | n + 1, h => by rw [ffN_s, ffN_all (fun i hi => h i (by omega)), if_pos rfl, h n (by omega), if_neg (by decide)]
theorem ag_0 {d : PD} {X n : Nat} (h : ∀ m, m < n → ¬ dyN d X m = dyN d X n) : agB d X n = false := by
  refine decide_eq_false (fun q => ?_)
  have e : dsN (dyN d X) n = 0 := ffN_all (fun a ha => decide_eq_false (h _ (by omega)))
  omega
theorem ag_1 {d : PD} {X n m : Nat} (hm : m < n) (h : dyN d X m = dyN d X n) (h0 : ffN (agB d X) n = 0) : dsN (dyN d X) n = n - m ∧ agB d X n = true := by
  have key : dsN (dyN d X) n = n - m - 1 + 1 := by
    refine ffN_hit (f := fun a => decide (dyN d X (n - (a + 1)) = dyN d X n)) (i := n - m - 1) (ffN_all (fun a ha => ?_)) (decide_eq_true ?_) (by omega)
    · refine decide_eq_false (fun q => ?_)
      have h1 : n - (a + 1) < n := by omega
      have h2 : agB d X (n - (a + 1)) = false := ffN_none h0 h1
      have h3 := of_decide_eq_false h2
      refine h3 ⟨by omega, ?_⟩
      cases hds : dsN (dyN d X) (n - (a + 1)) with
      | zero =>
        have h4 := ffN_none (f := fun b => decide (dyN d X (n - (a + 1) - (b + 1)) = dyN d X (n - (a + 1)))) hds (i := n - (a + 1) - m - 1) (by omega)
        refine absurd ?_ (of_decide_eq_false h4)
        rw [show n - (a + 1) - (n - (a + 1) - m - 1 + 1) = m by omega, h, q]
      | succ k => exact Nat.succ_pos _
    · rw [show n - (n - m - 1 + 1) = m by omega, h]
  exact ⟨by rw [key]; omega, decide_eq_true ⟨by omega, by rw [key]; omega⟩⟩
def met (d : PD) (X : Nat) (f : Nat → Int64) (n : Nat) : Prop := ∀ k, k < n → f k = lN (seL d (dyN d X k) d.nL)
theorem Ref_days2 {S : ST} {I I' : xI} {L L' : xL} (h : Ref S I L) {f f2 : Nat → Int32} (hf : ∀ k, k < 19 → f k = I 37 k) (hd : dfr (xrw I 43 f) I') (h2 : ∀ k, k < 19 → f2 k = I' 43 k) (hL : ∀ c, c ≠ 44 → L' c = L c) : Ref S (xrw I' 37 f2) L' ∧ frM I L (xrw I' 37 f2) L' := by
  obtain ⟨r1, r2⟩ := Ref_days h hf hd h2
  exact ⟨Ref_s r1 ⟨fun _ _ _ _ _ _ _ => rfl, fun _ _ => rfl, hL⟩, fun c hc => ⟨(r2 c hc).1, hL c (by omega)⟩⟩
def csX11_round : xCs := [(mX11_asides, sX11_asides), (mX11_state, sX11_state), (mX11_goesBy, sX11_goesBy), (mX11_backs, sX11_backs)]
theorem okX11_round : xOkM mX11_round csX11_round := ⟨dX11_round, by decide +kernel, by decide +kernel, ⟨wdX11_118, wdX11_245, wdX11_58, wdX11_254, wdX11_228, wdX11_58, wdX11_254, wdX11_58, wdX11_58, ⟨wdX11_82, fun h => Bool.noConfusion h⟩, wdX11_248, trivial⟩⟩
theorem hhX11_round : ∀ q ∈ csX11_round, xHd q.1 := xall1 hX11_asides (xall1 hX11_state (xall1 hX11_goesBy (xall1 hX11_backs (xall0))))
theorem kkX11_round : ∀ q ∈ csX11_round, ∀ l, xCon l q.1 q.2 := xall1 kX11_asides (xall1 kX11_state (xall1 kX11_goesBy (xall1 kX11_backs (xall0))))
def sX11_round : xSpec := xReg fun as I L Q => ∃ (S : ST) (o : Int32) (S' : ST), as = [.ref 27] ∧ roundR S o S' ∧ Ref S I L ∧ (∀ I' L', frM I L I' L' → Ref S' I' L' → Q (some (.int o)) I' L')
set_option maxRecDepth 100000 in
theorem kX11_round : ∀ l, xCon l mX11_round sX11_round := by
  refine xcon_of okX11_round hX11_round rfl (by decide) hhX11_round kkX11_round ?_
  rintro as n0 I L P Q ⟨rfl, rfl, S, o, S', rfl, hR, hC, hQ⟩
  refine ⟨Nat.le_of_ble_eq_true rfl, ?_⟩
  have h5 := hC.pd.ok.l5
  have h4 := hC.pd.ok.a4
  have hA := hC.pd.a
  have hX : S.D.X < 2 ^ 63 := hC.ok.X.1
  refine xrun okX11_round hhX11_round [(29, [true, true, true, false])] 60 ?_
  rcases hR with ⟨h, rfl, rfl⟩ | ⟨h, hR⟩
  · obtain ⟨S, rfl⟩ : ∃ S, S = S' := ⟨S', rfl⟩
    rw [h] at hA
    repeat (first | (refine xbr_f ?_ ?_; (focus ((simp (disch := omega) only [ix_lt, ix_le, ix_eq, ix_0, nI_clamp, nI_toInt, ng_T, nI_add, nI_mul, nI_sub', Int.neg_zero, not_false_eq_true, not_true_eq_false, hA] <;> omega); done))) | (refine xbr_t ?_ ?_; (focus ((simp (disch := omega) only [ix_lt, ix_le, ix_eq, ix_0, nI_clamp, nI_toInt, ng_T, nI_add, nI_mul, nI_sub', Int.neg_zero, not_false_eq_true, not_true_eq_false, hA] <;> omega); done))) | refine ⟨Or.inl rfl, ?_⟩ | refine ⟨Or.inr rfl, ?_⟩ | (refine ⟨?_, ?_⟩; (focus ((try simp (disch := omega) only [hA, nI_mul, nI_add, nI_sub']); exact in_nI (by omega) (by omega)))))
    exact hQ _ _ (frM_0 _ _) hC
  · repeat (first | (refine xbr_f ?_ ?_; (focus ((simp (disch := omega) only [ix_lt, ix_le, ix_eq, ix_0, nI_clamp, nI_toInt, ng_T, nI_add, nI_mul, nI_sub', Int.neg_zero, not_false_eq_true, not_true_eq_false, hA] <;> omega); done))) | (refine xbr_t ?_ ?_; (focus ((simp (disch := omega) only [ix_lt, ix_le, ix_eq, ix_0, nI_clamp, nI_toInt, ng_T, nI_add, nI_mul, nI_sub', Int.neg_zero, not_false_eq_true, not_true_eq_false, hA] <;> omega); done))) | refine ⟨Or.inl rfl, ?_⟩ | refine ⟨Or.inr rfl, ?_⟩ | (refine ⟨?_, ?_⟩; (focus ((try simp (disch := omega) only [hA, nI_mul, nI_add, nI_sub']); exact in_nI (by omega) (by omega)))))
    refine ⟨rfl, rfl, rfl, fun f hf => ?_⟩
    refine ⟨rfl, rfl, S.d, S.D.X, _, rfl, hC.pd, hC.nw, ?_⟩
    have c0 : (nI 0).toNatClampNeg = 0 := nI_clamp (by decide)
    refine ⟨in_nI (by decide) (by decide), ?_⟩
    obtain ⟨c0', hN0⟩ : ∃ c, nwR S.d S.D.X c (I 37) := ⟨_, hC.nw⟩
    refine xgo_eq (xlpW (M := mX11_round) (cs := csX11_round) (pc := 29) 60 (fun k => [some (.ref 27), some (.int (-(nI 9))), some (.int (nI (k + 1))), none]) (fun k I' L' => dfr (xrw I 43 f) I' ∧ nwR S.d (dyN S.d S.D.X k) (c0' + k) (I' 37) ∧ ffN (agB S.d S.D.X) (k + 1) = 0 ∧ ∃ g, L' = xrw L 44 g ∧ met S.d S.D.X g (k + 1)) ?_ ?_ (I := xrw I 43 f) (L := xrw L 44 (fun t => if t = 0 then lN (seL S.d S.D.X S.d.nL) else L 44 t)) ⟨fun _ _ _ => rfl, hN0, ffN_miss (f := agB S.d S.D.X) (i := 0) rfl (decide_eq_false (fun q => absurd q.1 (by omega))), _, rfl, fun k hk => by
      obtain rfl : k = 0 := by omega
      rw [if_pos rfl]
      rfl⟩) rfl rfl ?_
    · rintro k hk I2 L2 ⟨hd, hN, h0, g, rfl, hg⟩ ih
      refine xrun okX11_round hhX11_round [(58, [true, true, true, true])] 90 ?_
      have hP := pdR_d (I := xrw I 43 f) hC.pd hd
      repeat (first | (refine xbr_f ?_ ?_; (focus ((simp (disch := omega) only [ix_lt, ix_le, ix_eq, ix_0, nI_clamp, nI_toInt, ng_T, nI_add, nI_mul, nI_sub', Int.neg_zero, not_false_eq_true, not_true_eq_false] <;> omega); done))) | (refine xbr_t ?_ ?_; (focus ((simp (disch := omega) only [ix_lt, ix_le, ix_eq, ix_0, nI_clamp, nI_toInt, ng_T, nI_add, nI_mul, nI_sub', Int.neg_zero, not_false_eq_true, not_true_eq_false] <;> omega); done))) | refine ⟨Or.inl rfl, ?_⟩ | refine ⟨Or.inr rfl, ?_⟩ | (refine ⟨?_, ?_⟩; (focus (exact in_nI (by omega) (by omega)))))
      refine ⟨rfl, rfl, S.d, dyN S.d S.D.X k, _, rfl, hP, hN, XOk_dy hC.ok.d hC.ok.X k, fun f2 g2 hg2 => ?_⟩
      have hd2 : dfr (xrw I 43 f) (xrw (xrw I2 38 f2) 37 g2) := dfr_s hd
      have hP2 := pdR_d (I := xrw I 43 f) hC.pd hd2
      have hN2 : nwR S.d (dyN S.d S.D.X (k + 1)) (c0' + (k + 1)) (xrw (xrw I2 38 f2) 37 g2 37) := hg2
      generalize xrw (xrw I2 38 f2) 37 g2 = I3 at *
      refine ⟨rfl, rfl, S.d, dyN S.d S.D.X (k + 1), _, rfl, hP2, hN2, ?_⟩
      refine ⟨in_nI (by omega) (by omega), ?_⟩
      have c1 : (nI (k + 1)).toNatClampNeg = k + 1 := nI_clamp (by omega)
      have hg3 : met S.d S.D.X (fun t => if t = k + 1 then lN (seL S.d (dyN S.d S.D.X (k + 1)) S.d.nL) else g t) (k + 1 + 1) := by
        intro t ht
        show (if t = k + 1 then lN (seL S.d (dyN S.d S.D.X (k + 1)) S.d.nL) else g t) = _
        by_cases e : t = k + 1
        · rw [if_pos e, e]
        · rw [if_neg e]
          exact hg t (by omega)
      rw [c1, xrw_up]
      generalize (fun t => if t = k + 1 then lN (seL S.d (dyN S.d S.D.X (k + 1)) S.d.nL) else g t) = g3 at *
      refine xgo_eq (xlpW (M := mX11_round) (cs := csX11_round) (pc := 58) (k + 1) (fun m => [some (.ref 27), some (.int (-(nI 9))), some (.int (nI (k + 1))), some (.int (nI m))]) (fun m I' L' => I' = I3 ∧ L' = xrw L 44 g3 ∧ ∀ j, j < m → ¬ dyN S.d S.D.X j = dyN S.d S.D.X (k + 1)) ?_ ?_ ⟨rfl, rfl, fun j h => absurd h (by omega)⟩) ?_ rfl rfl
      · rintro m hm I4 L4 ⟨rfl, rfl, hj⟩ ih2
        refine xrun okX11_round hhX11_round [(58, [true, true, true, true])] 90 ?_
        repeat (first | (refine xbr_f ?_ ?_; (focus ((simp (disch := omega) only [ix_lt, ix_le, ix_eq, ix_0, nI_clamp, nI_toInt, ng_T, nI_add, nI_mul, nI_sub', Int.neg_zero, not_false_eq_true, not_true_eq_false] <;> omega); done))) | (refine xbr_t ?_ ?_; (focus ((simp (disch := omega) only [ix_lt, ix_le, ix_eq, ix_0, nI_clamp, nI_toInt, ng_T, nI_add, nI_mul, nI_sub', Int.neg_zero, not_false_eq_true, not_true_eq_false] <;> omega); done))) | refine ⟨Or.inl rfl, ?_⟩ | refine ⟨Or.inr rfl, ?_⟩ | (refine ⟨?_, ?_⟩; (focus (exact in_nI (by omega) (by omega)))))
        have e1 : xrw L 44 g3 44 (nI m).toNatClampNeg = lN (seL S.d (dyN S.d S.D.X m) S.d.nL) := by rw [xrw_s, nI_clamp (by omega), hg3 m (by omega)]
        have e2 : xrw L 44 g3 44 (nI (k + 1)).toNatClampNeg = lN (seL S.d (dyN S.d S.D.X (k + 1)) S.d.nL) := by rw [xrw_s, nI_clamp (by omega), hg3 (k + 1) (by omega)]
        have l1 := seL_lt hC.ok.d (dyN S.d S.D.X m) S.d.nL
        have l2 := seL_lt hC.ok.d (dyN S.d S.D.X (k + 1)) S.d.nL
        have l0 : 2 ^ (32 + 3 * S.d.nL) ≤ 2 ^ 47 := Nat.pow_le_pow_right (by decide) (by omega)
        have hcmp : lg_cmp (xrw L 44 g3 44 (nI m).toNatClampNeg) (xrw L 44 g3 44 (nI (k + 1)).toNatClampNeg) = 0 ↔ dyN S.d S.D.X m = dyN S.d S.D.X (k + 1) := by
          rw [e1, e2, lg_e (by omega) (by omega)]
          exact ⟨fun q => se_dy hC.ok.d hX q, fun q => by rw [q]⟩
        by_cases heq : dyN S.d S.D.X m = dyN S.d S.D.X (k + 1)
        · obtain ⟨k1, k2⟩ := ag_1 hm heq h0
          have hff := ffN_hit h0 k2 (n := 61) (by omega)
          (first | refine xbr_t (hcmp.mpr heq) ?_ | refine xbr_f (hcmp.mpr heq) ?_)
          have hd3 : dfr (xrw I 43 f) (I4) := hd2
          have fin : ∀ f3, (∀ t, t < 19 → f3 t = I4 43 t) → Q (some (.int (nI (k + 1)))) xN (xrw (xup I4 27 0 (nI (k + 1) - nI m)) 37 f3) (xrw L 44 g3) xP0 := by
            intro f3 hf3
            obtain ⟨r1, r2⟩ := Ref_days2 (L' := xrw L 44 g3) hC hf hd3 hf3 (fun c hc => xrw_c _ _ _ hc)
            rcases hR with ⟨q, _, _⟩ | ⟨k', hk', q, rfl, rfl⟩
            · omega
            · obtain rfl : k' = k + 1 := by omega
              have r3 := Ref_T r1 (nI (dsN (dyN S.d S.D.X) (k + 1)))
              have hq := hQ _ _ (frM_t r2 (frM_I (k := 27) (by decide) _ _ _ _)) r3
              refine xq_eq (R := fun W V => Q (some (.int (nI (k + 1)))) xN W V xP0) hq ?_ rfl
              rw [nI_sub' (by omega), ← k1]
              funext c t
              simp only [xrw, xup]
              by_cases c37 : c = 37
              · simp [c37]
              · simp [c37]
          have key : xGo mX11_round csX11_round 58 Q [some (.ref 27), some (.int (nI (k + 1))), some (.int (nI (k + 1))), some (.int (nI (m + 1)))] [] 0 xN (xup I4 27 0 (nI (k + 1) - nI m)) (xrw L 44 g3) xP0 := by
            refine xrun okX11_round hhX11_round [] 60 ?_
            by_cases hl1 : m + 1 < k + 1
            · by_cases hl2 : k + 1 + 1 < 61
              · repeat (first | (refine xbr_f ?_ ?_; (focus ((simp (disch := omega) only [ix_lt, ix_le, ix_eq, ix_0, nI_clamp, nI_toInt, ng_T, nI_add, nI_mul, nI_sub', Int.neg_zero, not_false_eq_true, not_true_eq_false] <;> omega); done))) | (refine xbr_t ?_ ?_; (focus ((simp (disch := omega) only [ix_lt, ix_le, ix_eq, ix_0, nI_clamp, nI_toInt, ng_T, nI_add, nI_mul, nI_sub', Int.neg_zero, not_false_eq_true, not_true_eq_false] <;> omega); done))) | refine ⟨Or.inl rfl, ?_⟩ | refine ⟨Or.inr rfl, ?_⟩ | (refine ⟨?_, ?_⟩; (focus (exact in_nI (by omega) (by omega)))))
                exact ⟨rfl, rfl, rfl, fin⟩
              · repeat (first | (refine xbr_f ?_ ?_; (focus ((simp (disch := omega) only [ix_lt, ix_le, ix_eq, ix_0, nI_clamp, nI_toInt, ng_T, nI_add, nI_mul, nI_sub', Int.neg_zero, not_false_eq_true, not_true_eq_false] <;> omega); done))) | (refine xbr_t ?_ ?_; (focus ((simp (disch := omega) only [ix_lt, ix_le, ix_eq, ix_0, nI_clamp, nI_toInt, ng_T, nI_add, nI_mul, nI_sub', Int.neg_zero, not_false_eq_true, not_true_eq_false] <;> omega); done))) | refine ⟨Or.inl rfl, ?_⟩ | refine ⟨Or.inr rfl, ?_⟩ | (refine ⟨?_, ?_⟩; (focus (exact in_nI (by omega) (by omega)))))
                exact ⟨rfl, rfl, rfl, fin⟩
            · by_cases hl2 : k + 1 + 1 < 61
              · repeat (first | (refine xbr_f ?_ ?_; (focus ((simp (disch := omega) only [ix_lt, ix_le, ix_eq, ix_0, nI_clamp, nI_toInt, ng_T, nI_add, nI_mul, nI_sub', Int.neg_zero, not_false_eq_true, not_true_eq_false] <;> omega); done))) | (refine xbr_t ?_ ?_; (focus ((simp (disch := omega) only [ix_lt, ix_le, ix_eq, ix_0, nI_clamp, nI_toInt, ng_T, nI_add, nI_mul, nI_sub', Int.neg_zero, not_false_eq_true, not_true_eq_false] <;> omega); done))) | refine ⟨Or.inl rfl, ?_⟩ | refine ⟨Or.inr rfl, ?_⟩ | (refine ⟨?_, ?_⟩; (focus (exact in_nI (by omega) (by omega)))))
                exact ⟨rfl, rfl, rfl, fin⟩
              · repeat (first | (refine xbr_f ?_ ?_; (focus ((simp (disch := omega) only [ix_lt, ix_le, ix_eq, ix_0, nI_clamp, nI_toInt, ng_T, nI_add, nI_mul, nI_sub', Int.neg_zero, not_false_eq_true, not_true_eq_false] <;> omega); done))) | (refine xbr_t ?_ ?_; (focus ((simp (disch := omega) only [ix_lt, ix_le, ix_eq, ix_0, nI_clamp, nI_toInt, ng_T, nI_add, nI_mul, nI_sub', Int.neg_zero, not_false_eq_true, not_true_eq_false] <;> omega); done))) | refine ⟨Or.inl rfl, ?_⟩ | refine ⟨Or.inr rfl, ?_⟩ | (refine ⟨?_, ?_⟩; (focus (exact in_nI (by omega) (by omega)))))
                exact ⟨rfl, rfl, rfl, fin⟩
          refine xgo_eq key ?_ rfl rfl
          ((repeat' (first | (with_reducible rfl) | exact xv_nil | refine xv_cons ?_ ?_ | refine xv_i ?_ | refine xv_l ?_)) <;> (simp (disch := omega) only [↓reduceIte, Bool.false_eq_true, Nat.one_mul, Nat.zero_mul, Nat.or_zero, Nat.add_zero, Nat.zero_add, Bool.toNat_true, Bool.toNat_false, shl_n, shr_n, fa_and, fa_or, nx_xor, nI_add, nI_mul, nI_sub', and_1, and_7, and_3', and_15]))
        · have hne : ¬ lg_cmp (xrw L 44 g3 44 (nI m).toNatClampNeg) (xrw L 44 g3 44 (nI (k + 1)).toNatClampNeg) = 0 := fun q => heq (hcmp.mp q)
          (first | refine xbr_t hne ?_ | refine xbr_f hne ?_)
          refine xgo_eq (ih2 _ _ ⟨rfl, rfl, fun j hj2 => ?_⟩) ?_ rfl rfl
          · by_cases e : j = m
            · rw [e]
              exact heq
            · exact hj j (by omega)
          · ((repeat' (first | (with_reducible rfl) | exact xv_nil | refine xv_cons ?_ ?_ | refine xv_i ?_ | refine xv_l ?_)) <;> (simp (disch := omega) only [↓reduceIte, Bool.false_eq_true, Nat.one_mul, Nat.zero_mul, Nat.or_zero, Nat.add_zero, Nat.zero_add, Bool.toNat_true, Bool.toNat_false, shl_n, shr_n, fa_and, fa_or, nx_xor, nI_add, nI_mul, nI_sub', and_1, and_7, and_3', and_15]))
      · rintro I4 L4 ⟨rfl, rfl, hj⟩
        refine xrun okX11_round hhX11_round [(29, [true, true, true, false])] 60 ?_
        repeat (first | (refine xbr_f ?_ ?_; (focus ((simp (disch := omega) only [ix_lt, ix_le, ix_eq, ix_0, nI_clamp, nI_toInt, ng_T, nI_add, nI_mul, nI_sub', Int.neg_zero, not_false_eq_true, not_true_eq_false] <;> omega); done))) | (refine xbr_t ?_ ?_; (focus ((simp (disch := omega) only [ix_lt, ix_le, ix_eq, ix_0, nI_clamp, nI_toInt, ng_T, nI_add, nI_mul, nI_sub', Int.neg_zero, not_false_eq_true, not_true_eq_false] <;> omega); done))) | refine ⟨Or.inl rfl, ?_⟩ | refine ⟨Or.inr rfl, ?_⟩ | (refine ⟨?_, ?_⟩; (focus (exact in_nI (by omega) (by omega)))))
        refine xgo_eq (ih _ _ ⟨hd2, hN2, ffN_miss h0 (ag_0 hj), g3, rfl, hg3⟩) ?_ rfl rfl
        ((repeat' (first | (with_reducible rfl) | exact xv_nil | refine xv_cons ?_ ?_ | refine xv_i ?_ | refine xv_l ?_)) <;> (simp (disch := omega) only [↓reduceIte, Bool.false_eq_true, Nat.one_mul, Nat.zero_mul, Nat.or_zero, Nat.add_zero, Nat.zero_add, Bool.toNat_true, Bool.toNat_false, shl_n, shr_n, fa_and, fa_or, nx_xor, nI_add, nI_mul, nI_sub', and_1, and_7, and_3', and_15]))
      · ((repeat' (first | (with_reducible rfl) | exact xv_nil | refine xv_cons ?_ ?_ | refine xv_i ?_ | refine xv_l ?_)) <;> (simp (disch := omega) only [↓reduceIte, Bool.false_eq_true, Nat.one_mul, Nat.zero_mul, Nat.or_zero, Nat.add_zero, Nat.zero_add, Bool.toNat_true, Bool.toNat_false, shl_n, shr_n, fa_and, fa_or, nx_xor, nI_add, nI_mul, nI_sub', and_1, and_7, and_3', and_15]))
    · rintro I2 L2 ⟨hd, hN, h0, g, rfl, hg⟩
      refine xrun okX11_round hhX11_round [] 60 ?_
      repeat (first | (refine xbr_f ?_ ?_; (focus ((simp (disch := omega) only [ix_lt, ix_le, ix_eq, ix_0, nI_clamp, nI_toInt, ng_T, nI_add, nI_mul, nI_sub', Int.neg_zero, not_false_eq_true, not_true_eq_false] <;> omega); done))) | (refine xbr_t ?_ ?_; (focus ((simp (disch := omega) only [ix_lt, ix_le, ix_eq, ix_0, nI_clamp, nI_toInt, ng_T, nI_add, nI_mul, nI_sub', Int.neg_zero, not_false_eq_true, not_true_eq_false] <;> omega); done))) | refine ⟨Or.inl rfl, ?_⟩ | refine ⟨Or.inr rfl, ?_⟩ | (refine ⟨?_, ?_⟩; (focus (exact in_nI (by omega) (by omega)))))
      refine ⟨rfl, rfl, rfl, fun f3 hf3 => ?_⟩
      obtain ⟨r1, r2⟩ := Ref_days2 (L' := xrw L 44 g) hC hf hd hf3 (fun c hc => xrw_c _ _ _ hc)
      have h0 : ffN (agB S.d S.D.X) 61 = 0 := h0
      rcases hR with ⟨q, rfl, rfl⟩ | ⟨k', hk', q, _, _⟩
      · exact hQ _ _ r2 r1
      · omega
    · show xup L 44 (nI 0).toNatClampNeg _ = _
      rw [c0]
      rfl
theorem ch_may (d : PD) (X i g : Nat) : ∀ n, (chN d X i g n).1 = 0 ∨ ¬ plN X ((chN d X i g n).1 - 1) = hmN d ((chN d X i g n).1 - 1)
  | 0 => Or.inl rfl
  | n + 1 => by
    rw [chN_s]
    by_cases h : (chN d X i g n).2 < (if tbB g n then 0 else pullN d X i n)
    · rw [if_pos h]
      refine Or.inr ?_
      show ¬ plN X (n + 1 - 1) = hmN d (n + 1 - 1)
      rw [Nat.add_sub_cancel]
      intro q
      have hp : pullN d X i n = 0 := if_neg (fun r => r.2 q)
      rw [hp] at h
      have e : (if tbB g n = true then 0 else 0) = 0 := by split <;> rfl
      rw [e] at h
      exact absurd h (Nat.not_lt_zero _)
    · rw [if_neg h]
      exact ch_may d X i g n
theorem tb15' : ∀ i, i < 4 → tbB 15 i = true := by decide
theorem home_day {d : PD} (hd : d.ok) {X l : Nat} (h : hmB d X l = true) : hmB d (dayN d X) l = true := by
  have h4 := hd.a4
  have hpl : plN (dayN d X) l = plN X l := by
    refine go_pl d X _ l d.nA h4 (fun i hi => ?_)
    rw [tk27_get hd X 15 d.nA h4 i hi]
    intro q
    have e : coN d X 15 i = if tbB 15 i then (chN d X i (tkN d X 27 15 i).2 d.nL).1 else 0 := rfl
    rw [tb15' i (by omega), if_pos rfl, q] at e
    have hm := ch_may d X i (tkN d X 27 15 i).2 d.nL
    rw [← e] at hm
    rcases hm with hm | hm
    · omega
    · rw [Nat.add_sub_cancel] at hm
      have h2 : plN X l = hmN d l := of_decide_eq_true h
      exact hm h2
  unfold hmB at *
  rw [hpl]
  exact h
theorem home_dy {d : PD} (hd : d.ok) {X l : Nat} (h : hmB d X l = true) : ∀ n, hmB d (dyN d X n) l = true
  | 0 => h
  | n + 1 => home_day hd (home_dy hd h n)
theorem dyN_add (d : PD) (X m : Nat) : ∀ n, dyN d X (m + n) = dyN d (dyN d X m) n
  | 0 => rfl
  | n + 1 => by
    show dayN d (dyN d X (m + n)) = dayN d (dyN d (dyN d X m) n)
    rw [dyN_add d X m n]
def csX11_comesHome : xCs := [(mX11_isHome, sX11_isHome), (mX11_goesBy, sX11_goesBy)]
theorem okX11_comesHome : xOkM mX11_comesHome csX11_comesHome := ⟨dX11_comesHome, by decide +kernel, by decide +kernel, ⟨wdX11_139, wdX11_228, wdX11_139, trivial⟩⟩
theorem hhX11_comesHome : ∀ q ∈ csX11_comesHome, xHd q.1 := xall1 hX11_isHome (xall1 hX11_goesBy (xall0))
theorem kkX11_comesHome : ∀ q ∈ csX11_comesHome, ∀ l, xCon l q.1 q.2 := xall1 kX11_isHome (xall1 kX11_goesBy (xall0))
def sX11_comesHome : xSpec := xReg fun as I L Q => ∃ (d : PD) (X c l n : Nat), as = [.ref 27, .int (nI l), .int (nI n)] ∧ pdR d I ∧ nwR d X c (I 37) ∧ XOk X ∧ l < d.nL ∧ n < 100 ∧ (∀ I', dfr I I' → Q (some (.int (bI (hmB d (dyN d X n) l)))) I' L)
set_option maxRecDepth 100000 in
theorem kX11_comesHome : ∀ l, xCon l mX11_comesHome sX11_comesHome := by
  refine xcon_of okX11_comesHome hX11_comesHome rfl (by decide) hhX11_comesHome kkX11_comesHome ?_
  rintro as n0 I L P Q ⟨rfl, rfl, d, X, c, l, n, rfl, hP, hN, hX, hl, hn, hQ⟩
  refine ⟨Nat.le_of_ble_eq_true rfl, ?_⟩
  refine xrun okX11_comesHome hhX11_comesHome [(2, [true, true, true, true])] 60 ?_
  refine xlpW (M := mX11_comesHome) (cs := csX11_comesHome) (pc := 2) n (fun k => [some (.ref 27), some (.int (nI l)), some (.int (nI n)), some (.int (nI k))]) (fun k I' L' => L = L' ∧ dfr I I' ∧ nwR d (dyN d X k) (c + k) (I' 37)) ?_ ?_ ⟨rfl, fun _ _ _ => rfl, hN⟩
  · rintro k hk I2 L2 ⟨rfl, hd, hN2⟩ ih
    refine xrun okX11_comesHome hhX11_comesHome [(2, [true, true, true, true])] 60 ?_
    have hP2 := pdR_d hP hd
    (first | (refine xbr_f ?_ ?_; (focus ((simp (disch := omega) only [ix_lt, ix_le, ix_eq, ix_0, nI_clamp, nI_toInt, ng_T, nI_add, nI_mul, nI_sub', Int.neg_zero, not_false_eq_true, not_true_eq_false] <;> omega); done))) | (refine xbr_t ?_ ?_; (focus ((simp (disch := omega) only [ix_lt, ix_le, ix_eq, ix_0, nI_clamp, nI_toInt, ng_T, nI_add, nI_mul, nI_sub', Int.neg_zero, not_false_eq_true, not_true_eq_false] <;> omega); done))) | refine ⟨Or.inl rfl, ?_⟩ | refine ⟨Or.inr rfl, ?_⟩ | (refine ⟨?_, ?_⟩; (focus (exact in_nI (by omega) (by omega)))))
    refine ⟨rfl, rfl, d, dyN d X k, _, l, rfl, hP2, hN2, hl, ?_⟩
    cases hb : hmB d (dyN d X k) l
    · (first | refine xbr_t (by decide) ?_ | refine xbr_f (by decide) ?_)
      refine ⟨rfl, rfl, d, dyN d X k, _, rfl, hP2, hN2, XOk_dy hP.ok hX k, fun f2 g2 hg2 => ?_⟩
      refine xgo_eq (ih _ _ ⟨rfl, dfr_s hd, hg2⟩) ?_ rfl rfl
      ((repeat' (first | (with_reducible rfl) | exact xv_nil | refine xv_cons ?_ ?_ | refine xv_i ?_ | refine xv_l ?_)) <;> (simp (disch := omega) only [↓reduceIte, Bool.false_eq_true, Nat.one_mul, Nat.zero_mul, Nat.or_zero, Nat.add_zero, Nat.zero_add, Bool.toNat_true, Bool.toNat_false, shl_n, shr_n, fa_and, fa_or, nx_xor, nI_add, nI_mul, nI_sub', and_1, and_7, and_3', and_15]))
    · (first | refine xbr_t (by decide) ?_ | refine xbr_f (by decide) ?_)
      refine ⟨rfl, rfl, d, dyN d X k, _, l, rfl, hP2, hN2, hl, ?_⟩
      have e : hmB d (dyN d X n) l = true := by
        obtain ⟨m, rfl⟩ : ∃ m, n = k + m := ⟨n - k, by omega⟩
        rw [dyN_add]
        exact home_dy hP.ok hb m
      have hq := hQ I2 hd
      rw [e] at hq
      rw [hb]
      repeat (first | (refine xbr_f ?_ ?_; (focus ((simp (disch := omega) only [ix_lt, ix_le, ix_eq, ix_0, nI_clamp, nI_toInt, ng_T, nI_add, nI_mul, nI_sub', Int.neg_zero, not_false_eq_true, not_true_eq_false] <;> omega); done))) | (refine xbr_t ?_ ?_; (focus ((simp (disch := omega) only [ix_lt, ix_le, ix_eq, ix_0, nI_clamp, nI_toInt, ng_T, nI_add, nI_mul, nI_sub', Int.neg_zero, not_false_eq_true, not_true_eq_false] <;> omega); done))) | refine ⟨Or.inl rfl, ?_⟩ | refine ⟨Or.inr rfl, ?_⟩ | (refine ⟨?_, ?_⟩; (focus (exact in_nI (by omega) (by omega)))))
      exact hq
  · rintro I2 L2 ⟨rfl, hd, hN2⟩
    refine xrun okX11_comesHome hhX11_comesHome [] 60 ?_
    repeat (first | (refine xbr_f ?_ ?_; (focus ((simp (disch := omega) only [ix_lt, ix_le, ix_eq, ix_0, nI_clamp, nI_toInt, ng_T, nI_add, nI_mul, nI_sub', Int.neg_zero, not_false_eq_true, not_true_eq_false] <;> omega); done))) | (refine xbr_t ?_ ?_; (focus ((simp (disch := omega) only [ix_lt, ix_le, ix_eq, ix_0, nI_clamp, nI_toInt, ng_T, nI_add, nI_mul, nI_sub', Int.neg_zero, not_false_eq_true, not_true_eq_false] <;> omega); done))) | refine ⟨Or.inl rfl, ?_⟩ | refine ⟨Or.inr rfl, ?_⟩ | (refine ⟨?_, ?_⟩; (focus (exact in_nI (by omega) (by omega)))))
    refine ⟨rfl, rfl, d, dyN d X n, _, l, rfl, pdR_d hP hd, hN2, hl, ?_⟩
    exact ⟨bI_01 _, hQ I2 hd⟩
