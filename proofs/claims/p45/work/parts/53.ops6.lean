/-! CALLS, 5: orders, what it took -/
def lnV (S : ST) (j o : Nat) : Nat → Int32 := fun t => if j * 40 ≤ t ∧ t < j * 40 + S.d.nA then nI (orN o (t - j * 40)) else S.rv t
def lineR (S : ST) (i l r o : Int32) (S' : ST) : Prop := (¬ (ibB i S.d.nA = true ∧ ibB l S.d.nL = true ∧ ibB r 6 = true) ∧ o = -(nI 1) ∧ S' = S) ∨ (∃ a b j, i = nI a ∧ a < S.d.nA ∧ l = nI b ∧ b < S.d.nL ∧ r = nI j ∧ j < 6 ∧ ((ffN (oyB S.d S.D.X a b) (2 ^ (2 * S.d.nA)) = 0 ∧ o = -(nI 9) ∧ S' = S) ∨ (∃ n, ffN (oyB S.d S.D.X a b) (2 ^ (2 * S.d.nA)) = n + 1 ∧ o = nI (cnN (oyB S.d S.D.X a b) (2 ^ (2 * S.d.nA))) ∧ S' = S.wR (fun t => if t = j then S.d.nA + 1 else S.rz t) (lnV S j (n * 2 ^ (2 * (4 - S.d.nA)))))))
def csX10_line : xCs := [(mX5_isAss, sX5_isAss), (mX5_isLoad, sX5_isLoad), (mX8_isNumber, sX8_isNumber), (mX9_firstOrder, sX9_firstOrder), (mX8_renew, sX8_renew), (mX5_assInLine, sX5_assInLine), (mX8_swap, sX8_swap), (mX9_howManyOrders, sX9_howManyOrders)]
theorem okX10_line : xOkM mX10_line csX10_line := ⟨dX10_line, by decide +kernel, by decide +kernel, ⟨wdX10_31, wdX10_148, wdX10_31, wdX10_154, wdX10_14, wdX10_75, wdX10_31, wdX10_38, wdX10_169, wdX10_272, wdX10_14, wdX10_31, wdX10_195, wdX10_83, wdX10_31, wdX10_195, wdX10_14, wdX10_275, wdX10_91, wdX10_31, wdX10_38, wdX10_169, wdX10_278, trivial⟩⟩
theorem hhX10_line : ∀ q ∈ csX10_line, xHd q.1 := xall1 hX5_isAss (xall1 hX5_isLoad (xall1 hX8_isNumber (xall1 hX9_firstOrder (xall1 hX8_renew (xall1 hX5_assInLine (xall1 hX8_swap (xall1 hX9_howManyOrders (xall0))))))))
theorem kkX10_line : ∀ q ∈ csX10_line, ∀ l, xCon l q.1 q.2 := xall1 kX5_isAss (xall1 kX5_isLoad (xall1 kX8_isNumber (xall1 kX9_firstOrder (xall1 kX8_renew (xall1 kX5_assInLine (xall1 kX8_swap (xall1 kX9_howManyOrders (xall0))))))))
def sX10_line : xSpec := xReg fun as I L Q => ∃ (S : ST) (i l r : Int32), as = [.ref 1, .int i, .int l, .int r] ∧ Cls S I L ∧ (∀ o S' I' L', lineR S i l r o S' → frC I L I' L' → Cls S' I' L' → Q (some (.int o)) I' L')
set_option maxRecDepth 100000 in
theorem kX10_line : ∀ l, xCon l mX10_line sX10_line := by
  refine xcon_of okX10_line hX10_line rfl hhX10_line kkX10_line ?_
  rintro as n0 I L P Q ⟨hn9, rfl, S, i, l, r, rfl, hC, hQ⟩
  obtain ⟨e9, rfl⟩ := xe9 hn9
  refine ⟨Nat.le_of_ble_eq_true rfl, ?_⟩
  refine xrun okX10_line hhX10_line [(82, [true, true, true, true, true, true])] 60 ?_
  have hA := hC.pl.a
  have h4 := hC.ok.d.a4
  have h5 := hC.ok.d.l5
  have eX := hC.X
  have hX : S.D.X < 2 ^ 63 := hC.ok.X.1
  refine ⟨rfl, rfl, S.d, i, hC.pl, rfl, ?_⟩
  cases hb : ibB i S.d.nA
  · (first | refine xbr_t (by decide) ?_ | refine xbr_f (by decide) ?_)
    exact hQ _ _ _ _ (Or.inl ⟨fun q => by rw [hb] at q; exact absurd q.1 (by decide), rfl, rfl⟩) (frC_0 _ _) hC
  (first | refine xbr_t (by decide) ?_ | refine xbr_f (by decide) ?_)
  refine ⟨rfl, rfl, S.d, l, hC.pl, rfl, ?_⟩
  cases hb2 : ibB l S.d.nL
  · (first | refine xbr_t (by decide) ?_ | refine xbr_f (by decide) ?_)
    exact hQ _ _ _ _ (Or.inl ⟨fun q => by rw [hb2] at q; exact absurd q.2.1 (by decide), rfl, rfl⟩) (frC_0 _ _) hC
  (first | refine xbr_t (by decide) ?_ | refine xbr_f (by decide) ?_)
  refine ⟨rfl, rfl, 2, 3, 4, 6, 40, r, Or.inl ⟨rfl, rfl, rfl, rfl, rfl⟩, rfl, fun hr => ?_, fun hr => ?_⟩
  · have hb3 := (in_ib (by decide)).mp hr
    (first | refine xbr_t (by decide) ?_ | refine xbr_f (by decide) ?_)
    obtain ⟨a, ha, rfl⟩ := ibB_t hb (by omega)
    obtain ⟨b, hbb, rfl⟩ := ibB_t hb2 (by omega)
    obtain ⟨j, hj, rfl⟩ := ibB_t hb3 (by decide)
    have hQ := fun o S' I' L' h => hQ o S' I' L' (Or.inr ⟨a, b, j, rfl, ha, rfl, hbb, rfl, hj, h⟩)
    refine ⟨rfl, rfl, S.d, S.D.X, a, b, hC.pl, by rw [eX], hX, by omega, by omega, fun e => ?_, fun n e => ?_⟩
    · (first | refine xbr_t (by decide) ?_ | refine xbr_f (by decide) ?_)
      exact hQ _ _ _ _ (Or.inl ⟨e, rfl, rfl⟩) (frC_0 _ _) hC
    · have hn : n < 2 ^ (2 * S.d.nA) := by
        have := ffN_le (oyB S.d S.D.X a b) (2 ^ (2 * S.d.nA))
        omega
      have ho := o_256 hC.ok.d hn
      (first | (refine xbr_f ?_ ?_; (focus ((simp (disch := omega) only [ix_lt, ix_le, ix_eq, ix_0, nI_clamp, nI_toInt, ng_T, nI_add, nI_mul, nI_sub', Int.neg_zero, not_false_eq_true, not_true_eq_false] <;> omega); done))) | (refine xbr_t ?_ ?_; (focus ((simp (disch := omega) only [ix_lt, ix_le, ix_eq, ix_0, nI_clamp, nI_toInt, ng_T, nI_add, nI_mul, nI_sub', Int.neg_zero, not_false_eq_true, not_true_eq_false] <;> omega); done))) | refine ⟨Or.inl rfl, ?_⟩ | refine ⟨Or.inr rfl, ?_⟩ | (refine ⟨?_, ?_⟩; (focus (exact in_nI (by omega) (by omega)))))
      refine ⟨rfl, rfl, 2, 3, 4, 6, 40, j, S.d.nA, nI 0, Or.inl ⟨rfl, rfl, rfl, rfl, rfl⟩, ?_, hj, by omega, hC.m2, ?_⟩
      · rw [hA]
      have hC2 := Cls_new hC j (m := S.d.nA) (by omega) (nI 0)
      refine xlpW (M := mX10_line) (cs := csX10_line) (pc := 82) S.d.nA (fun p => [some (.ref 1), some (.int (nI a)), some (.int (nI b)), some (.int (nI j)), some (.int (nI (n * 2 ^ (2 * (4 - S.d.nA))))), some (.int (nI p))]) (fun p I' L' => L = L' ∧ ∃ f, I' = xrw (xup I 3 j (nI S.d.nA)) 4 f ∧ (∀ q, q < p → f (j * 40 + q) = nI (orN (n * 2 ^ (2 * (4 - S.d.nA))) q)) ∧ (∀ t, (t < j * 40 ∨ j * 40 + S.d.nA ≤ t) → f t = S.rv t)) ?_ ?_ ⟨rfl, _, rfl, fun q h => absurd h (by omega), fun t ht => ?_⟩
      · rintro p hp I2 L2 ⟨rfl, f, rfl, hf1, hf2⟩ ih
        refine xrun okX10_line hhX10_line [(82, [true, true, true, true, true, true])] 60 ?_
        have hA2 : xrw (xup I 3 j (nI S.d.nA)) 4 f 11 0 = nI S.d.nA := hA
        repeat (first | (refine xbr_f ?_ ?_; (focus ((simp (disch := omega) only [ix_lt, ix_le, ix_eq, ix_0, nI_clamp, nI_toInt, ng_T, nI_add, nI_mul, nI_sub', Int.neg_zero, not_false_eq_true, not_true_eq_false, hA2] <;> omega); done))) | (refine xbr_t ?_ ?_; (focus ((simp (disch := omega) only [ix_lt, ix_le, ix_eq, ix_0, nI_clamp, nI_toInt, ng_T, nI_add, nI_mul, nI_sub', Int.neg_zero, not_false_eq_true, not_true_eq_false, hA2] <;> omega); done))) | refine ⟨Or.inl rfl, ?_⟩ | refine ⟨Or.inr rfl, ?_⟩ | (refine ⟨?_, ?_⟩; (focus ((try simp (disch := omega) only [hA2, nI_mul, nI_add, nI_sub']); exact in_nI (by omega) (by omega)))))
        refine ⟨rfl, rfl, _, p, rfl, ho, by omega, ?_⟩
        refine ⟨rfl, rfl, 2, 3, 4, 6, 40, j, p, S.d.nA, _, Or.inl ⟨rfl, rfl, rfl, rfl, rfl⟩, rfl, hj, ?_, hp, by omega, hC.m2, ?_⟩
        · show (if j = j then nI S.d.nA else I 3 j) = nI S.d.nA
          rw [if_pos rfl]
        rw [xrw_up]
        refine xgo_eq (ih _ _ ⟨rfl, _, rfl, fun q hq => ?_, fun t ht => ?_⟩) ?_ rfl rfl
        · by_cases e2 : q = p
          · rw [e2, if_pos rfl]
          · rw [if_neg (by omega)]
            exact hf1 q (by omega)
        · rw [if_neg (by omega)]
          exact hf2 t ht
        · ((repeat' (first | (with_reducible rfl) | exact xv_nil | refine xv_cons ?_ ?_ | refine xv_i ?_ | refine xv_l ?_)) <;> (simp (disch := omega) only [↓reduceIte, Bool.false_eq_true, Nat.one_mul, Nat.zero_mul, Nat.or_zero, Nat.add_zero, Nat.zero_add, Bool.toNat_true, Bool.toNat_false, shl_n, shr_n, fa_and, fa_or, nx_xor, nI_add, nI_mul, nI_sub', and_1, and_7, and_3', and_15]))
      · rintro I2 L2 ⟨rfl, f, rfl, hf1, hf2⟩
        refine xrun okX10_line hhX10_line [] 60 ?_
        have hA2 : xrw (xup I 3 j (nI S.d.nA)) 4 f 11 0 = nI S.d.nA := hA
        repeat (first | (refine xbr_f ?_ ?_; (focus ((simp (disch := omega) only [ix_lt, ix_le, ix_eq, ix_0, nI_clamp, nI_toInt, ng_T, nI_add, nI_mul, nI_sub', Int.neg_zero, not_false_eq_true, not_true_eq_false, hA2] <;> omega); done))) | (refine xbr_t ?_ ?_; (focus ((simp (disch := omega) only [ix_lt, ix_le, ix_eq, ix_0, nI_clamp, nI_toInt, ng_T, nI_add, nI_mul, nI_sub', Int.neg_zero, not_false_eq_true, not_true_eq_false, hA2] <;> omega); done))) | refine ⟨Or.inl rfl, ?_⟩ | refine ⟨Or.inr rfl, ?_⟩ | (refine ⟨?_, ?_⟩; (focus ((try simp (disch := omega) only [hA2, nI_mul, nI_add, nI_sub']); exact in_nI (by omega) (by omega)))))
        have eX2 : L 12 1 = lN S.D.X := eX
        have ev : f = lnV S j (n * 2 ^ (2 * (4 - S.d.nA))) := by
          funext t
          unfold lnV
          by_cases ht : j * 40 ≤ t ∧ t < j * 40 + S.d.nA
          · rw [if_pos ht]
            have e := hf1 (t - j * 40) (by omega)
            rw [show j * 40 + (t - j * 40) = t by omega] at e
            exact e
          · rw [if_neg ht, hf2 t (by omega)]
        have hC3 := Cls_R hC (g := fun r => if r = j then nI S.d.nA else I 3 r) (z := fun t => if t = j then S.d.nA + 1 else S.rz t) (v := lnV S j (n * 2 ^ (2 * (4 - S.d.nA)))) (rz_up hC j S.d.nA) (rz_le hC.ok (by omega))
        refine ⟨rfl, rfl, S.d, S.D.X, a, b, hC3.pl, by rw [eX], hX, by omega, by omega, ?_⟩
        refine hQ _ _ _ _ (Or.inr ⟨n, e, rfl, rfl⟩) (frC_t (frC_I (by decide) _ _ _ _) (frC_W (by decide) _ _ _)) ?_
        rw [ev]
        exact hC3
      · show (if j * 40 ≤ t ∧ t < j * 40 + S.d.nA then nI 0 else I 4 t) = S.rv t
        rw [if_neg (by omega), hC.rv]
  · have hb3 := ib_no (by decide) hr
    (first | refine xbr_t (by decide) ?_ | refine xbr_f (by decide) ?_)
    exact hQ _ _ _ _ (Or.inl ⟨fun q => by rw [hb3] at q; exact absurd q.2.2 (by decide), rfl, rfl⟩) (frC_0 _ _) hC
def wpS (S : ST) (j : Nat) : Nat := wpN S.rv j (S.rz j)
theorem ffN_none {f : Nat → Bool} : ∀ {n}, ffN f n = 0 → ∀ {i}, i < n → f i = false
  | 0, _, _, hi => absurd hi (by omega)
  | n + 1, h, i, hi => by
    rw [ffN_s] at h
    by_cases h0 : ffN f n = 0
    · rw [if_pos h0] at h
      by_cases hin : i < n
      · exact ffN_none h0 hin
      · obtain rfl : i = n := by omega
        cases hf : f i
        · rfl
        · rw [hf, if_pos rfl] at h
          omega
    · rw [if_neg h0] at h
      exact absurd h h0
/-- pairs in order -/
theorem wp_0 {v : Nat → Int32} {j z : Nat} (h : wpN v j z = 0) : ∃ n, z = 2 * n + 1 ∧ n ≤ 8 ∧ prOk v j n := by
  unfold wpN at h
  by_cases h0 : z = 0
  · rw [if_pos h0] at h
    omega
  · rw [if_neg h0] at h
    by_cases h1 : 16 < z - 1 ∨ (z - 1) % 2 = 1
    · rw [if_pos h1] at h
      omega
    · rw [if_neg h1] at h
      by_cases h2 : ffN (bpF v j) ((z - 1) / 2) = 0
      · refine ⟨(z - 1) / 2, by omega, by omega, fun i hi => ?_⟩
        have hF : bpF v j i = false := by
          cases hb : bpF v j i
          · rfl
          · have := ffN_none h2 hi
            rw [hb] at this
            cases this
        unfold bpF at hF
        have hA : ibB (v (40 * j + 2 * i)) 16 = true := by
          cases hA : ibB (v (40 * j + 2 * i)) 16
          · rw [hA] at hF
            exact absurd hF (by simp)
          · rfl
        obtain ⟨m, hm, e⟩ := ibB_t hA (by decide)
        have e2 : prA v j i = m := by
          unfold prA
          rw [e, nI_clamp (by omega)]
        rw [e2]
        exact ⟨e, hm⟩
      · rw [if_neg h2] at h
        omega
theorem wp_6 (v : Nat → Int32) (j z : Nat) : wpN v j z < 6 := by
  unfold wpN
  split
  · decide
  · split
    · decide
    · split <;> decide
def meB (S : ST) (a j n : Nat) : Nat := bsN (fun m => ftB S.rv j (kdN S.d a) m n) 16
def memR (S : ST) (i r o : Int32) (S' : ST) : Prop := (¬ (ibB i S.d.nA = true ∧ ibB r 6 = true) ∧ o = -(nI 1) ∧ S' = S) ∨ (∃ a j, i = nI a ∧ a < S.d.nA ∧ r = nI j ∧ j < 6 ∧ ((0 < wpS S j ∧ fin S (wpS S j) o S') ∨ (∃ n, wpS S j = 0 ∧ S.rz j = 2 * n + 1 ∧ o = nI (meB S a j n) ∧ S' = S)))
def kinR (S : ST) (i r o : Int32) (S' : ST) : Prop := (¬ (ibB i S.d.nA = true ∧ ibB r 6 = true) ∧ o = -(nI 1) ∧ S' = S) ∨ (∃ a j, i = nI a ∧ a < S.d.nA ∧ r = nI j ∧ j < 6 ∧ ((0 < wpS S j ∧ fin S (wpS S j) o S') ∨ (∃ n, wpS S j = 0 ∧ S.rz j = 2 * n + 1 ∧ o = nI (bsN (fun k => ftB S.rv j k (meN S.D.X a) n) 6) ∧ S' = S)))
def nexR (S : ST) (i r o : Int32) (S' : ST) : Prop := (¬ (ibB i S.d.nA = true ∧ ibB r 6 = true) ∧ o = -(nI 1) ∧ S' = S) ∨ (∃ a j, i = nI a ∧ a < S.d.nA ∧ r = nI j ∧ j < 6 ∧ ((0 < wpS S j ∧ fin S (wpS S j) o S') ∨ (∃ n, wpS S j = 0 ∧ S.rz j = 2 * n + 1 ∧ ((meB S a j n = 0 ∧ o = -(nI 9) ∧ S' = S) ∨ (0 < meB S a j n ∧ o = nI (tmN (kdN S.d a) (meB S a j n) 15) ∧ S' = S.wT (nI (gpN (kdN S.d a) (meB S a j n) (tmN (kdN S.d a) (meB S a j n) 15))))))))
def csX10_memories : xCs := [(mX5_isAss, sX5_isAss), (mX8_isNumber, sX8_isNumber), (mX3_wrongPairs, sX3_wrongPairs), (mX10_refuse, sX10_refuse), (mX5_kindOf, sX5_kindOf), (mX3_memoriesBy, sX3_memoriesBy)]
theorem okX10_memories : xOkM mX10_memories csX10_memories := ⟨dX10_memories, by decide +kernel, by decide +kernel, ⟨wdX10_31, wdX10_148, wdX10_14, wdX10_75, wdX10_14, wdX10_284, wdX10_79, wdX10_14, wdX10_31, wdX10_162, wdX10_289, trivial⟩⟩
theorem hhX10_memories : ∀ q ∈ csX10_memories, xHd q.1 := xall1 hX5_isAss (xall1 hX8_isNumber (xall1 hX3_wrongPairs (xall1 hX10_refuse (xall1 hX5_kindOf (xall1 hX3_memoriesBy (xall0))))))
theorem kkX10_memories : ∀ q ∈ csX10_memories, ∀ l, xCon l q.1 q.2 := xall1 kX5_isAss (xall1 kX8_isNumber (xall1 kX3_wrongPairs (xall1 kX10_refuse (xall1 kX5_kindOf (xall1 kX3_memoriesBy (xall0))))))
def sX10_memories : xSpec := xReg fun as I L Q => ∃ (S : ST) (i r : Int32), as = [.ref 1, .int i, .int r] ∧ Cls S I L ∧ (∀ o S' I' L', memR S i r o S' → frC I L I' L' → Cls S' I' L' → Q (some (.int o)) I' L')
set_option maxRecDepth 100000 in
theorem kX10_memories : ∀ l, xCon l mX10_memories sX10_memories := by
  refine xcon_of okX10_memories hX10_memories rfl hhX10_memories kkX10_memories ?_
  rintro as n0 I L P Q ⟨hn9, rfl, S, i, r, rfl, hC, hQ⟩
  obtain ⟨e9, rfl⟩ := xe9 hn9
  refine ⟨Nat.le_of_ble_eq_true rfl, ?_⟩
  refine xrun okX10_memories hhX10_memories [] 80 ?_
  have h4 := hC.ok.d.a4
  have eX := hC.X
  have hX : S.D.X < 2 ^ 63 := hC.ok.X.1
  refine ⟨rfl, rfl, S.d, i, hC.pl, rfl, ?_⟩
  cases hb : ibB i S.d.nA
  · (first | refine xbr_t (by decide) ?_ | refine xbr_f (by decide) ?_)
    exact hQ _ _ _ _ (Or.inl ⟨fun q => by rw [hb] at q; exact absurd q.1 (by decide), rfl, rfl⟩) (frC_0 _ _) hC
  (first | refine xbr_t (by decide) ?_ | refine xbr_f (by decide) ?_)
  refine ⟨rfl, rfl, 2, 3, 4, 6, 40, r, Or.inl ⟨rfl, rfl, rfl, rfl, rfl⟩, rfl, fun hr => ?_, fun hr => ?_⟩
  · have hb3 := (in_ib (by decide)).mp hr
    (first | refine xbr_t (by decide) ?_ | refine xbr_f (by decide) ?_)
    obtain ⟨a, ha, rfl⟩ := ibB_t hb (by omega)
    obtain ⟨j, hj, rfl⟩ := ibB_t hb3 (by decide)
    have hQ := fun o S' I' L' h => hQ o S' I' L' (Or.inr ⟨a, j, rfl, ha, rfl, hj, h⟩)
    refine ⟨rfl, rfl, j, S.rz j, rfl, hj, hC.ok.rz j hj, hC.rz j hj, hC.m2, ?_⟩
    have ew : wpN (I 4) j (S.rz j) = wpS S j := by rw [hC.rv]; rfl
    rw [ew]
    have hw6 : wpS S j < 6 := wp_6 _ _ _
    by_cases h0 : wpS S j = 0
    · rw [h0]
      (first | refine xbr_t (by decide) ?_ | refine xbr_f (by decide) ?_)
      obtain ⟨n, hn1, hn2, hn3⟩ := wp_0 h0
      have hz := hC.rz j hj
      rw [hn1, szI_s] at hz
      have hp : prOk (I 4) j n := by rw [hC.rv]; exact hn3
      have hk := kdN_8 S.d a
      refine ⟨rfl, rfl, S.d, a, hC.pl, rfl, by omega, ?_⟩
      refine ⟨rfl, rfl, j, kdN S.d a, n, rfl, hj, hk, hn2, hz, hC.m2, hp, ?_⟩
      rw [hC.rv]
      exact hQ _ _ _ _ (Or.inr ⟨n, h0, hn1, rfl, rfl⟩) (frC_0 _ _) hC
    · (first | (refine xbr_f ?_ ?_; (focus ((simp (disch := omega) only [ix_lt, ix_le, ix_eq, ix_0, nI_clamp, nI_toInt, ng_T, nI_add, nI_mul, nI_sub', Int.neg_zero, not_false_eq_true, not_true_eq_false] <;> omega); done))) | (refine xbr_t ?_ ?_; (focus ((simp (disch := omega) only [ix_lt, ix_le, ix_eq, ix_0, nI_clamp, nI_toInt, ng_T, nI_add, nI_mul, nI_sub', Int.neg_zero, not_false_eq_true, not_true_eq_false] <;> omega); done))) | refine ⟨Or.inl rfl, ?_⟩ | refine ⟨Or.inr rfl, ?_⟩ | (refine ⟨?_, ?_⟩; (focus (exact in_nI (by omega) (by omega)))))
      refine ⟨rfl, rfl, S, wpS S j, rfl, hw6, hC, fun I' hf hC' => ?_⟩
      exact hQ _ _ _ _ (Or.inl ⟨by omega, rfl, rfl⟩) hf hC'
  · have hb3 := ib_no (by decide) hr
    (first | refine xbr_t (by decide) ?_ | refine xbr_f (by decide) ?_)
    exact hQ _ _ _ _ (Or.inl ⟨fun q => by rw [hb3] at q; exact absurd q.2 (by decide), rfl, rfl⟩) (frC_0 _ _) hC
def csX10_kinds : xCs := [(mX5_isAss, sX5_isAss), (mX8_isNumber, sX8_isNumber), (mX3_wrongPairs, sX3_wrongPairs), (mX10_refuse, sX10_refuse), (mX7_memoryOf, sX7_memoryOf), (mX3_kindsBy, sX3_kindsBy)]
theorem okX10_kinds : xOkM mX10_kinds csX10_kinds := ⟨dX10_kinds, by decide +kernel, by decide +kernel, ⟨wdX10_31, wdX10_148, wdX10_14, wdX10_75, wdX10_14, wdX10_284, wdX10_79, wdX10_14, wdX10_38, wdX10_169, wdX10_172, wdX10_293, trivial⟩⟩
theorem hhX10_kinds : ∀ q ∈ csX10_kinds, xHd q.1 := xall1 hX5_isAss (xall1 hX8_isNumber (xall1 hX3_wrongPairs (xall1 hX10_refuse (xall1 hX7_memoryOf (xall1 hX3_kindsBy (xall0))))))
theorem kkX10_kinds : ∀ q ∈ csX10_kinds, ∀ l, xCon l q.1 q.2 := xall1 kX5_isAss (xall1 kX8_isNumber (xall1 kX3_wrongPairs (xall1 kX10_refuse (xall1 kX7_memoryOf (xall1 kX3_kindsBy (xall0))))))
def sX10_kinds : xSpec := xReg fun as I L Q => ∃ (S : ST) (i r : Int32), as = [.ref 1, .int i, .int r] ∧ Cls S I L ∧ (∀ o S' I' L', kinR S i r o S' → frC I L I' L' → Cls S' I' L' → Q (some (.int o)) I' L')
set_option maxRecDepth 100000 in
theorem kX10_kinds : ∀ l, xCon l mX10_kinds sX10_kinds := by
  refine xcon_of okX10_kinds hX10_kinds rfl hhX10_kinds kkX10_kinds ?_
  rintro as n0 I L P Q ⟨hn9, rfl, S, i, r, rfl, hC, hQ⟩
  obtain ⟨e9, rfl⟩ := xe9 hn9
  refine ⟨Nat.le_of_ble_eq_true rfl, ?_⟩
  refine xrun okX10_kinds hhX10_kinds [] 80 ?_
  have h4 := hC.ok.d.a4
  have eX := hC.X
  have hX : S.D.X < 2 ^ 63 := hC.ok.X.1
  refine ⟨rfl, rfl, S.d, i, hC.pl, rfl, ?_⟩
  cases hb : ibB i S.d.nA
  · (first | refine xbr_t (by decide) ?_ | refine xbr_f (by decide) ?_)
    exact hQ _ _ _ _ (Or.inl ⟨fun q => by rw [hb] at q; exact absurd q.1 (by decide), rfl, rfl⟩) (frC_0 _ _) hC
  (first | refine xbr_t (by decide) ?_ | refine xbr_f (by decide) ?_)
  refine ⟨rfl, rfl, 2, 3, 4, 6, 40, r, Or.inl ⟨rfl, rfl, rfl, rfl, rfl⟩, rfl, fun hr => ?_, fun hr => ?_⟩
  · have hb3 := (in_ib (by decide)).mp hr
    (first | refine xbr_t (by decide) ?_ | refine xbr_f (by decide) ?_)
    obtain ⟨a, ha, rfl⟩ := ibB_t hb (by omega)
    obtain ⟨j, hj, rfl⟩ := ibB_t hb3 (by decide)
    have hQ := fun o S' I' L' h => hQ o S' I' L' (Or.inr ⟨a, j, rfl, ha, rfl, hj, h⟩)
    refine ⟨rfl, rfl, j, S.rz j, rfl, hj, hC.ok.rz j hj, hC.rz j hj, hC.m2, ?_⟩
    have ew : wpN (I 4) j (S.rz j) = wpS S j := by rw [hC.rv]; rfl
    rw [ew]
    have hw6 : wpS S j < 6 := wp_6 _ _ _
    by_cases h0 : wpS S j = 0
    · rw [h0]
      (first | refine xbr_t (by decide) ?_ | refine xbr_f (by decide) ?_)
      obtain ⟨n, hn1, hn2, hn3⟩ := wp_0 h0
      have hz := hC.rz j hj
      rw [hn1, szI_s] at hz
      have hp : prOk (I 4) j n := by rw [hC.rv]; exact hn3
      have hk := kdN_8 S.d a
      refine ⟨rfl, rfl, S.D.X, a, by rw [eX], by omega, by omega, ?_⟩
      refine ⟨rfl, rfl, j, meN S.D.X a, n, rfl, hj, meN_16 _ _, hn2, hz, hC.m2, hp, ?_⟩
      rw [hC.rv]
      exact hQ _ _ _ _ (Or.inr ⟨n, h0, hn1, rfl, rfl⟩) (frC_0 _ _) hC
    · (first | (refine xbr_f ?_ ?_; (focus ((simp (disch := omega) only [ix_lt, ix_le, ix_eq, ix_0, nI_clamp, nI_toInt, ng_T, nI_add, nI_mul, nI_sub', Int.neg_zero, not_false_eq_true, not_true_eq_false] <;> omega); done))) | (refine xbr_t ?_ ?_; (focus ((simp (disch := omega) only [ix_lt, ix_le, ix_eq, ix_0, nI_clamp, nI_toInt, ng_T, nI_add, nI_mul, nI_sub', Int.neg_zero, not_false_eq_true, not_true_eq_false] <;> omega); done))) | refine ⟨Or.inl rfl, ?_⟩ | refine ⟨Or.inr rfl, ?_⟩ | (refine ⟨?_, ?_⟩; (focus (exact in_nI (by omega) (by omega)))))
      refine ⟨rfl, rfl, S, wpS S j, rfl, hw6, hC, fun I' hf hC' => ?_⟩
      exact hQ _ _ _ _ (Or.inl ⟨by omega, rfl, rfl⟩) hf hC'
  · have hb3 := ib_no (by decide) hr
    (first | refine xbr_t (by decide) ?_ | refine xbr_f (by decide) ?_)
    exact hQ _ _ _ _ (Or.inl ⟨fun q => by rw [hb3] at q; exact absurd q.2 (by decide), rfl, rfl⟩) (frC_0 _ _) hC
def csX10_next : xCs := [(mX5_isAss, sX5_isAss), (mX8_isNumber, sX8_isNumber), (mX3_wrongPairs, sX3_wrongPairs), (mX10_refuse, sX10_refuse), (mX5_kindOf, sX5_kindOf), (mX3_memoriesBy, sX3_memoriesBy), (mX3_tellingMarks, sX3_tellingMarks), (mX3_greaterPart, sX3_greaterPart), (mX10_tell, sX10_tell)]
theorem okX10_next : xOkM mX10_next csX10_next := ⟨dX10_next, by decide +kernel, by decide +kernel, ⟨wdX10_31, wdX10_148, wdX10_14, wdX10_75, wdX10_14, wdX10_284, wdX10_79, wdX10_31, wdX10_162, wdX10_14, wdX10_289, wdX10_296, wdX10_299, wdX10_95, trivial⟩⟩
theorem hhX10_next : ∀ q ∈ csX10_next, xHd q.1 := xall1 hX5_isAss (xall1 hX8_isNumber (xall1 hX3_wrongPairs (xall1 hX10_refuse (xall1 hX5_kindOf (xall1 hX3_memoriesBy (xall1 hX3_tellingMarks (xall1 hX3_greaterPart (xall1 hX10_tell (xall0)))))))))
theorem kkX10_next : ∀ q ∈ csX10_next, ∀ l, xCon l q.1 q.2 := xall1 kX5_isAss (xall1 kX8_isNumber (xall1 kX3_wrongPairs (xall1 kX10_refuse (xall1 kX5_kindOf (xall1 kX3_memoriesBy (xall1 kX3_tellingMarks (xall1 kX3_greaterPart (xall1 kX10_tell (xall0)))))))))
def sX10_next : xSpec := xReg fun as I L Q => ∃ (S : ST) (i r : Int32), as = [.ref 1, .int i, .int r] ∧ Cls S I L ∧ (∀ o S' I' L', nexR S i r o S' → frC I L I' L' → Cls S' I' L' → Q (some (.int o)) I' L')
set_option maxRecDepth 100000 in
theorem kX10_next : ∀ l, xCon l mX10_next sX10_next := by
  refine xcon_of okX10_next hX10_next rfl hhX10_next kkX10_next ?_
  rintro as n0 I L P Q ⟨hn9, rfl, S, i, r, rfl, hC, hQ⟩
  obtain ⟨e9, rfl⟩ := xe9 hn9
  refine ⟨Nat.le_of_ble_eq_true rfl, ?_⟩
  refine xrun okX10_next hhX10_next [] 80 ?_
  have h4 := hC.ok.d.a4
  have eX := hC.X
  have hX : S.D.X < 2 ^ 63 := hC.ok.X.1
  refine ⟨rfl, rfl, S.d, i, hC.pl, rfl, ?_⟩
  cases hb : ibB i S.d.nA
  · (first | refine xbr_t (by decide) ?_ | refine xbr_f (by decide) ?_)
    exact hQ _ _ _ _ (Or.inl ⟨fun q => by rw [hb] at q; exact absurd q.1 (by decide), rfl, rfl⟩) (frC_0 _ _) hC
  (first | refine xbr_t (by decide) ?_ | refine xbr_f (by decide) ?_)
  refine ⟨rfl, rfl, 2, 3, 4, 6, 40, r, Or.inl ⟨rfl, rfl, rfl, rfl, rfl⟩, rfl, fun hr => ?_, fun hr => ?_⟩
  · have hb3 := (in_ib (by decide)).mp hr
    (first | refine xbr_t (by decide) ?_ | refine xbr_f (by decide) ?_)
    obtain ⟨a, ha, rfl⟩ := ibB_t hb (by omega)
    obtain ⟨j, hj, rfl⟩ := ibB_t hb3 (by decide)
    have hQ := fun o S' I' L' h => hQ o S' I' L' (Or.inr ⟨a, j, rfl, ha, rfl, hj, h⟩)
    refine ⟨rfl, rfl, j, S.rz j, rfl, hj, hC.ok.rz j hj, hC.rz j hj, hC.m2, ?_⟩
    have ew : wpN (I 4) j (S.rz j) = wpS S j := by rw [hC.rv]; rfl
    rw [ew]
    have hw6 : wpS S j < 6 := wp_6 _ _ _
    by_cases h0 : wpS S j = 0
    · rw [h0]
      (first | refine xbr_t (by decide) ?_ | refine xbr_f (by decide) ?_)
      obtain ⟨n, hn1, hn2, hn3⟩ := wp_0 h0
      have hz := hC.rz j hj
      rw [hn1, szI_s] at hz
      have hp : prOk (I 4) j n := by rw [hC.rv]; exact hn3
      have hk := kdN_8 S.d a
      refine ⟨rfl, rfl, S.d, a, hC.pl, rfl, by omega, ?_⟩
      refine ⟨rfl, rfl, j, kdN S.d a, n, rfl, hj, hk, hn2, hz, hC.m2, hp, ?_⟩
      have em : bsN (fun m => ftB (I 4) j (kdN S.d a) m n) 16 = meB S a j n := by rw [hC.rv]; rfl
      rw [em]
      have hlt : meB S a j n < 2 ^ 16 := bsN_lt _ 16
      by_cases hm : meB S a j n = 0
      · rw [hm]
        (first | refine xbr_t (by decide) ?_ | refine xbr_f (by decide) ?_)
        exact hQ _ _ _ _ (Or.inr ⟨n, h0, hn1, Or.inl ⟨hm, rfl, rfl⟩⟩) (frC_0 _ _) hC
      · (first | (refine xbr_f ?_ ?_; (focus ((simp (disch := omega) only [ix_lt, ix_le, ix_eq, ix_0, nI_clamp, nI_toInt, ng_T, nI_add, nI_mul, nI_sub', Int.neg_zero, not_false_eq_true, not_true_eq_false] <;> omega); done))) | (refine xbr_t ?_ ?_; (focus ((simp (disch := omega) only [ix_lt, ix_le, ix_eq, ix_0, nI_clamp, nI_toInt, ng_T, nI_add, nI_mul, nI_sub', Int.neg_zero, not_false_eq_true, not_true_eq_false] <;> omega); done))) | refine ⟨Or.inl rfl, ?_⟩ | refine ⟨Or.inr rfl, ?_⟩ | (refine ⟨?_, ?_⟩; (focus (exact in_nI (by omega) (by omega)))))
        have hle := tmN_le (kdN S.d a) (meB S a j n) 15
        refine ⟨rfl, rfl, kdN S.d a, meB S a j n, rfl, hk, hlt, ?_⟩
        refine ⟨rfl, rfl, kdN S.d a, meB S a j n, _, rfl, hk, hlt, by omega, ?_⟩
        refine ⟨rfl, rfl, S, _, rfl, hC, fun I' hf hC' => ?_⟩
        exact hQ _ _ _ _ (Or.inr ⟨n, h0, hn1, Or.inr ⟨by omega, rfl, rfl⟩⟩) hf hC'
    · (first | (refine xbr_f ?_ ?_; (focus ((simp (disch := omega) only [ix_lt, ix_le, ix_eq, ix_0, nI_clamp, nI_toInt, ng_T, nI_add, nI_mul, nI_sub', Int.neg_zero, not_false_eq_true, not_true_eq_false] <;> omega); done))) | (refine xbr_t ?_ ?_; (focus ((simp (disch := omega) only [ix_lt, ix_le, ix_eq, ix_0, nI_clamp, nI_toInt, ng_T, nI_add, nI_mul, nI_sub', Int.neg_zero, not_false_eq_true, not_true_eq_false] <;> omega); done))) | refine ⟨Or.inl rfl, ?_⟩ | refine ⟨Or.inr rfl, ?_⟩ | (refine ⟨?_, ?_⟩; (focus (exact in_nI (by omega) (by omega)))))
      refine ⟨rfl, rfl, S, wpS S j, rfl, hw6, hC, fun I' hf hC' => ?_⟩
      exact hQ _ _ _ _ (Or.inl ⟨by omega, rfl, rfl⟩) hf hC'
  · have hb3 := ib_no (by decide) hr
    (first | refine xbr_t (by decide) ?_ | refine xbr_f (by decide) ?_)
    exact hQ _ _ _ _ (Or.inl ⟨fun q => by rw [hb3] at q; exact absurd q.2 (by decide), rfl, rfl⟩) (frC_0 _ _) hC
