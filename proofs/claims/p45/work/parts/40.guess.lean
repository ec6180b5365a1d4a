/-! GUESS: pairs in a ROW -/
def szI (z : Nat) : Int32 := if z = 0 then -(nI 1) else nI (z - 1)
theorem szI_0 : szI 0 = -(nI 1) := rfl
theorem szI_s (s : Nat) : szI (s + 1) = nI s := rfl
def prA (v : Nat → Int32) (r j : Nat) : Nat := (v (40 * r + 2 * j)).toNatClampNeg
def prB (v : Nat → Int32) (r j : Nat) : Bool := decide (v (40 * r + (2 * j + 1)) = nI 1)
def prOk (v : Nat → Int32) (r n : Nat) : Prop := ∀ j, j < n → v (40 * r + 2 * j) = nI (prA v r j) ∧ prA v r j < 16
def ftF (v : Nat → Int32) (r k m : Nat) : Nat → Bool := fun j => wtN k m (prA v r j) != prB v r j
def ftB (v : Nat → Int32) (r k m n : Nat) : Bool := decide (ffN (ftF v r k m) n = 0)
def csX3_fits : xCs := [(mX8_sizeOf, sX8_sizeOf), (mX8_get, sX8_get), (mX4_wouldTake, sX4_wouldTake)]
theorem okX3_fits : xOkM mX3_fits csX3_fits := ⟨dX3_fits, by decide +kernel, by decide +kernel, ⟨wdX3_15, wdX3_19, wdX3_19, wdX3_26, trivial⟩⟩
theorem hhX3_fits : ∀ q ∈ csX3_fits, xHd q.1 := xall1 hX8_sizeOf (xall1 hX8_get (xall1 hX4_wouldTake (xall0)))
theorem kkX3_fits : ∀ q ∈ csX3_fits, ∀ l, xCon l q.1 q.2 := xall1 kX8_sizeOf (xall1 kX8_get (xall1 kX4_wouldTake (xall0)))
def sX3_fits : xSpec := xReg fun as I L Q => ∃ (r k m n : Nat), as = [.ref 2, .int (nI r), .int (nI k), .int (nI m)] ∧ r < 6 ∧ k < 8 ∧ m < 16 ∧ n ≤ 8 ∧ I 3 r = nI (2 * n) ∧ I 2 0 = nI 40 ∧ prOk (I 4) r n ∧ Q (some (.int (bI (ftB (I 4) r k m n)))) I L
set_option maxRecDepth 100000 in
theorem kX3_fits : ∀ l, xCon l mX3_fits sX3_fits := by
  refine xcon_of okX3_fits hX3_fits rfl hhX3_fits kkX3_fits ?_
  rintro as n0 I L P Q ⟨hn9, rfl, r, k, m, n, rfl, hr, hk, hm, hn, hz, hmo, hp, hQ⟩
  obtain ⟨e9, rfl⟩ := xe9 hn9
  refine ⟨Nat.le_of_ble_eq_true rfl, ?_⟩
  refine xrun okX3_fits hhX3_fits [(3, [true, true, true, true, true, false])] 20 ?_
  refine xlpI (M := mX3_fits) (cs := csX3_fits) (pc := 3) (fun j => ffN (ftF (I 4) r k m) j = 0) n (fun j => [some (.ref 2), some (.int (nI r)), some (.int (nI k)), some (.int (nI m)), some (.int (nI (2 * j))), none]) (fun _ => I) (fun _ => L) ?_ ?_ rfl
  · intro j hj hI ih
    refine xrun okX3_fits hhX3_fits [(3, [true, true, true, true, true, false]), (33, [true, true, true, true, true, true])] 90 ?_
    repeat (first | (refine xbr_f ?_ ?_; (focus ((simp (disch := omega) only [ix_lt, ix_le, ix_eq, ix_0, nI_clamp, nI_toInt, ng_T, nI_add, nI_mul, nI_sub', Int.neg_zero, not_false_eq_true, not_true_eq_false, hz] <;> omega); done))) | (refine xbr_t ?_ ?_; (focus ((simp (disch := omega) only [ix_lt, ix_le, ix_eq, ix_0, nI_clamp, nI_toInt, ng_T, nI_add, nI_mul, nI_sub', Int.neg_zero, not_false_eq_true, not_true_eq_false, hz] <;> omega); done))) | refine ⟨Or.inl rfl, ?_⟩ | refine ⟨Or.inr rfl, ?_⟩ | (refine ⟨?_, ?_⟩; (focus ((try simp (disch := omega) only [hz, nI_mul, nI_add, nI_sub']); exact in_nI (by omega) (by omega)))))
    refine ⟨rfl, rfl, 2, 3, 4, 6, 40, r, 2 * j + 1, 2 * n, Or.inl ⟨rfl, rfl, rfl, rfl, rfl⟩, by rw [nI_add], hr, hz, by omega, by omega, hmo, ?_⟩
    rw [show r * 40 + (2 * j + 1) = 40 * r + (2 * j + 1) by omega]
    obtain ⟨e1, e2⟩ := hp j hj
    have hb : prB (I 4) r j = decide (I 4 (40 * r + (2 * j + 1)) = nI 1) := rfl
    have h33 : xGo mX3_fits csX3_fits 33 Q [some (.ref 2), some (.int (nI r)), some (.int (nI k)), some (.int (nI m)), some (.int (nI (2 * j))), some (.int (bI (prB (I 4) r j)))] [] 0 (e9 + 26) I L xP0 := by
      refine xrun okX3_fits hhX3_fits [(3, [true, true, true, true, true, false])] 90 ?_
      refine ⟨rfl, rfl, 2, 3, 4, 6, 40, r, 2 * j, 2 * n, Or.inl ⟨rfl, rfl, rfl, rfl, rfl⟩, rfl, hr, hz, by omega, by omega, hmo, ?_⟩
      rw [show r * 40 + 2 * j = 40 * r + 2 * j by omega]
      refine ⟨rfl, rfl, k, m, prA (I 4) r j, by rw [e1], hk, hm, e2, ?_⟩
      by_cases hc : wtN k m (prA (I 4) r j) = prB (I 4) r j
      · have e := ffN_miss hI (f := ftF (I 4) r k m) (by unfold ftF; rw [hc]; exact bne_self_eq_false _)
        rw [hc]
        (first | refine xbr_t rfl ?_ | refine xbr_f rfl ?_)
        refine xgo_eq (ih e) ?_ rfl rfl
        ((repeat' (first | (with_reducible rfl) | exact xv_nil | refine xv_cons ?_ ?_ | refine xv_i ?_ | refine xv_l ?_)) <;> (simp (disch := omega) only [↓reduceIte, Bool.false_eq_true, Nat.one_mul, Nat.zero_mul, Nat.or_zero, Nat.add_zero, Nat.zero_add, Bool.toNat_true, Bool.toNat_false, shl_n, shr_n, fa_and, fa_or, nx_xor, nI_add, nI_mul, nI_sub', and_1, and_7, and_3', and_15, Nat.mul_add]))
      · have e := ffN_hit hI (f := ftF (I 4) r k m) (by unfold ftF; exact bne_iff_ne.mpr hc) hj
        have e2 : ¬ bI (wtN k m (prA (I 4) r j)) = bI (prB (I 4) r j) := by
          revert hc
          generalize wtN k m (prA (I 4) r j) = x
          generalize prB (I 4) r j = y
          cases x <;> cases y <;> decide
        (first | refine xbr_t e2 ?_ | refine xbr_f e2 ?_)
        have e3 : ftB (I 4) r k m n = false := decide_eq_false (by omega)
        rw [e3] at hQ
        repeat (first | (refine xbr_f ?_ ?_; (focus ((simp (disch := omega) only [ix_lt, ix_le, ix_eq, ix_0, nI_clamp, nI_toInt, ng_T, nI_add, nI_mul, nI_sub', Int.neg_zero, not_false_eq_true, not_true_eq_false] <;> omega); done))) | (refine xbr_t ?_ ?_; (focus ((simp (disch := omega) only [ix_lt, ix_le, ix_eq, ix_0, nI_clamp, nI_toInt, ng_T, nI_add, nI_mul, nI_sub', Int.neg_zero, not_false_eq_true, not_true_eq_false] <;> omega); done))) | refine ⟨Or.inl rfl, ?_⟩ | refine ⟨Or.inr rfl, ?_⟩ | (refine ⟨?_, ?_⟩; (focus (exact in_nI (by omega) (by omega)))))
        exact hQ
    by_cases hc : I 4 (40 * r + (2 * j + 1)) = nI 1
    · (first | refine xbr_t hc ?_ | refine xbr_f hc ?_)
      rw [decide_eq_true hc] at hb
      rw [hb] at h33
      exact h33
    · (first | refine xbr_t hc ?_ | refine xbr_f hc ?_)
      rw [decide_eq_false hc] at hb
      rw [hb] at h33
      exact h33
  · intro hI
    refine xrun okX3_fits hhX3_fits [] 60 ?_
    repeat (first | (refine xbr_f ?_ ?_; (focus ((simp (disch := omega) only [ix_lt, ix_le, ix_eq, ix_0, nI_clamp, nI_toInt, ng_T, nI_add, nI_mul, nI_sub', Int.neg_zero, not_false_eq_true, not_true_eq_false, hz] <;> omega); done))) | (refine xbr_t ?_ ?_; (focus ((simp (disch := omega) only [ix_lt, ix_le, ix_eq, ix_0, nI_clamp, nI_toInt, ng_T, nI_add, nI_mul, nI_sub', Int.neg_zero, not_false_eq_true, not_true_eq_false, hz] <;> omega); done))) | refine ⟨Or.inl rfl, ?_⟩ | refine ⟨Or.inr rfl, ?_⟩ | (refine ⟨?_, ?_⟩; (focus ((try simp (disch := omega) only [hz, nI_mul, nI_add, nI_sub']); exact in_nI (by omega) (by omega)))))
    have e3 : ftB (I 4) r k m n = true := decide_eq_true hI
    rw [e3] at hQ
    exact hQ
def csX3_memoriesBy : xCs := [(mX3_fits, sX3_fits)]
theorem okX3_memoriesBy : xOkM mX3_memoriesBy csX3_memoriesBy := ⟨dX3_memoriesBy, by decide +kernel, by decide +kernel, ⟨wdX3_32, trivial⟩⟩
theorem hhX3_memoriesBy : ∀ q ∈ csX3_memoriesBy, xHd q.1 := xall1 hX3_fits (xall0)
theorem kkX3_memoriesBy : ∀ q ∈ csX3_memoriesBy, ∀ l, xCon l q.1 q.2 := xall1 kX3_fits (xall0)
def sX3_memoriesBy : xSpec := xReg fun as I L Q => ∃ (r k n : Nat), as = [.ref 2, .int (nI r), .int (nI k)] ∧ r < 6 ∧ k < 8 ∧ n ≤ 8 ∧ I 3 r = nI (2 * n) ∧ I 2 0 = nI 40 ∧ prOk (I 4) r n ∧ Q (some (.int (nI (bsN (fun m => ftB (I 4) r k m n) 16)))) I L
set_option maxRecDepth 100000 in
theorem kX3_memoriesBy : ∀ l, xCon l mX3_memoriesBy sX3_memoriesBy := by
  refine xcon_of okX3_memoriesBy hX3_memoriesBy rfl hhX3_memoriesBy kkX3_memoriesBy ?_
  rintro as n0 I L P Q ⟨hn9, rfl, r, k, n, rfl, hr, hk, hn, hz, hmo, hp, hQ⟩
  obtain ⟨e9, rfl⟩ := xe9 hn9
  refine ⟨Nat.le_of_ble_eq_true rfl, ?_⟩
  refine xrun okX3_memoriesBy hhX3_memoriesBy [(5, [true, true, true, true, true])] 20 ?_
  refine xlp (M := mX3_memoriesBy) (cs := csX3_memoriesBy) (pc := 5) 16 (fun m => [some (.ref 2), some (.int (nI r)), some (.int (nI k)), some (.int (nI (bsN (fun m => ftB (I 4) r k m n) m))), some (.int (nI m))]) (fun _ => I) (fun _ => L) ?_ ?_
  · intro m hm ih
    refine xrun okX3_memoriesBy hhX3_memoriesBy [(5, [true, true, true, true, true])] 60 ?_
    (first | (refine xbr_f ?_ ?_; (focus ((simp (disch := omega) only [ix_lt, ix_le, ix_eq, ix_0, nI_clamp, nI_toInt, ng_T, nI_add, nI_mul, nI_sub', Int.neg_zero, not_false_eq_true, not_true_eq_false] <;> omega); done))) | (refine xbr_t ?_ ?_; (focus ((simp (disch := omega) only [ix_lt, ix_le, ix_eq, ix_0, nI_clamp, nI_toInt, ng_T, nI_add, nI_mul, nI_sub', Int.neg_zero, not_false_eq_true, not_true_eq_false] <;> omega); done))) | refine ⟨Or.inl rfl, ?_⟩ | refine ⟨Or.inr rfl, ?_⟩ | (refine ⟨?_, ?_⟩; (focus (exact in_nI (by omega) (by omega)))))
    refine ⟨rfl, rfl, r, k, m, n, rfl, hr, hk, hm, hn, hz, hmo, hp, ?_⟩
    cases hb : ftB (I 4) r k m n
    · (first | refine xbr_t (by decide) ?_ | refine xbr_f (by decide) ?_)
      refine xgo_eq ih ?_ rfl rfl
      ((repeat' (first | (with_reducible rfl) | exact xv_nil | refine xv_cons ?_ ?_ | refine xv_i ?_ | refine xv_l ?_)) <;> (simp (disch := omega) only [↓reduceIte, Bool.false_eq_true, Nat.one_mul, Nat.zero_mul, Nat.or_zero, Nat.add_zero, Nat.zero_add, Bool.toNat_true, Bool.toNat_false, shl_n, shr_n, fa_and, fa_or, nx_xor, nI_add, nI_mul, nI_sub', and_1, and_7, and_3', and_15, bsN, hb]))
    · (first | refine xbr_t (by decide) ?_ | refine xbr_f (by decide) ?_)
      refine xgo_eq ih ?_ rfl rfl
      ((repeat' (first | (with_reducible rfl) | exact xv_nil | refine xv_cons ?_ ?_ | refine xv_i ?_ | refine xv_l ?_)) <;> (simp (disch := omega) only [↓reduceIte, Bool.false_eq_true, Nat.one_mul, Nat.zero_mul, Nat.or_zero, Nat.add_zero, Nat.zero_add, Bool.toNat_true, Bool.toNat_false, shl_n, shr_n, fa_and, fa_or, nx_xor, nI_add, nI_mul, nI_sub', and_1, and_7, and_3', and_15, bsN, hb]))
  · refine xrun okX3_memoriesBy hhX3_memoriesBy [] 60 ?_
    repeat (first | (refine xbr_f ?_ ?_; (focus ((simp (disch := omega) only [ix_lt, ix_le, ix_eq, ix_0, nI_clamp, nI_toInt, ng_T, nI_add, nI_mul, nI_sub', Int.neg_zero, not_false_eq_true, not_true_eq_false] <;> omega); done))) | (refine xbr_t ?_ ?_; (focus ((simp (disch := omega) only [ix_lt, ix_le, ix_eq, ix_0, nI_clamp, nI_toInt, ng_T, nI_add, nI_mul, nI_sub', Int.neg_zero, not_false_eq_true, not_true_eq_false] <;> omega); done))) | refine ⟨Or.inl rfl, ?_⟩ | refine ⟨Or.inr rfl, ?_⟩ | (refine ⟨?_, ?_⟩; (focus (exact in_nI (by omega) (by omega)))))
    exact hQ
def csX3_kindsBy : xCs := [(mX3_fits, sX3_fits)]
theorem okX3_kindsBy : xOkM mX3_kindsBy csX3_kindsBy := ⟨dX3_kindsBy, by decide +kernel, by decide +kernel, ⟨wdX3_32, trivial⟩⟩
theorem hhX3_kindsBy : ∀ q ∈ csX3_kindsBy, xHd q.1 := xall1 hX3_fits (xall0)
theorem kkX3_kindsBy : ∀ q ∈ csX3_kindsBy, ∀ l, xCon l q.1 q.2 := xall1 kX3_fits (xall0)
def sX3_kindsBy : xSpec := xReg fun as I L Q => ∃ (r m n : Nat), as = [.ref 2, .int (nI r), .int (nI m)] ∧ r < 6 ∧ m < 16 ∧ n ≤ 8 ∧ I 3 r = nI (2 * n) ∧ I 2 0 = nI 40 ∧ prOk (I 4) r n ∧ Q (some (.int (nI (bsN (fun k => ftB (I 4) r k m n) 6)))) I L
set_option maxRecDepth 100000 in
theorem kX3_kindsBy : ∀ l, xCon l mX3_kindsBy sX3_kindsBy := by
  refine xcon_of okX3_kindsBy hX3_kindsBy rfl hhX3_kindsBy kkX3_kindsBy ?_
  rintro as n0 I L P Q ⟨hn9, rfl, r, m, n, rfl, hr, hm, hn, hz, hmo, hp, hQ⟩
  obtain ⟨e9, rfl⟩ := xe9 hn9
  refine ⟨Nat.le_of_ble_eq_true rfl, ?_⟩
  refine xrun okX3_kindsBy hhX3_kindsBy [(5, [true, true, true, true, true])] 20 ?_
  refine xlp (M := mX3_kindsBy) (cs := csX3_kindsBy) (pc := 5) 6 (fun k => [some (.ref 2), some (.int (nI r)), some (.int (nI m)), some (.int (nI (bsN (fun k => ftB (I 4) r k m n) k))), some (.int (nI k))]) (fun _ => I) (fun _ => L) ?_ ?_
  · intro k hk ih
    refine xrun okX3_kindsBy hhX3_kindsBy [(5, [true, true, true, true, true])] 60 ?_
    (first | (refine xbr_f ?_ ?_; (focus ((simp (disch := omega) only [ix_lt, ix_le, ix_eq, ix_0, nI_clamp, nI_toInt, ng_T, nI_add, nI_mul, nI_sub', Int.neg_zero, not_false_eq_true, not_true_eq_false] <;> omega); done))) | (refine xbr_t ?_ ?_; (focus ((simp (disch := omega) only [ix_lt, ix_le, ix_eq, ix_0, nI_clamp, nI_toInt, ng_T, nI_add, nI_mul, nI_sub', Int.neg_zero, not_false_eq_true, not_true_eq_false] <;> omega); done))) | refine ⟨Or.inl rfl, ?_⟩ | refine ⟨Or.inr rfl, ?_⟩ | (refine ⟨?_, ?_⟩; (focus (exact in_nI (by omega) (by omega)))))
    refine ⟨rfl, rfl, r, k, m, n, rfl, hr, by omega, hm, hn, hz, hmo, hp, ?_⟩
    cases hb : ftB (I 4) r k m n
    · (first | refine xbr_t (by decide) ?_ | refine xbr_f (by decide) ?_)
      refine xgo_eq ih ?_ rfl rfl
      ((repeat' (first | (with_reducible rfl) | exact xv_nil | refine xv_cons ?_ ?_ | refine xv_i ?_ | refine xv_l ?_)) <;> (simp (disch := omega) only [↓reduceIte, Bool.false_eq_true, Nat.one_mul, Nat.zero_mul, Nat.or_zero, Nat.add_zero, Nat.zero_add, Bool.toNat_true, Bool.toNat_false, shl_n, shr_n, fa_and, fa_or, nx_xor, nI_add, nI_mul, nI_sub', and_1, and_7, and_3', and_15, bsN, hb]))
    · (first | refine xbr_t (by decide) ?_ | refine xbr_f (by decide) ?_)
      refine xgo_eq ih ?_ rfl rfl
      ((repeat' (first | (with_reducible rfl) | exact xv_nil | refine xv_cons ?_ ?_ | refine xv_i ?_ | refine xv_l ?_)) <;> (simp (disch := omega) only [↓reduceIte, Bool.false_eq_true, Nat.one_mul, Nat.zero_mul, Nat.or_zero, Nat.add_zero, Nat.zero_add, Bool.toNat_true, Bool.toNat_false, shl_n, shr_n, fa_and, fa_or, nx_xor, nI_add, nI_mul, nI_sub', and_1, and_7, and_3', and_15, bsN, hb]))
  · refine xrun okX3_kindsBy hhX3_kindsBy [] 60 ?_
    repeat (first | (refine xbr_f ?_ ?_; (focus ((simp (disch := omega) only [ix_lt, ix_le, ix_eq, ix_0, nI_clamp, nI_toInt, ng_T, nI_add, nI_mul, nI_sub', Int.neg_zero, not_false_eq_true, not_true_eq_false] <;> omega); done))) | (refine xbr_t ?_ ?_; (focus ((simp (disch := omega) only [ix_lt, ix_le, ix_eq, ix_0, nI_clamp, nI_toInt, ng_T, nI_add, nI_mul, nI_sub', Int.neg_zero, not_false_eq_true, not_true_eq_false] <;> omega); done))) | refine ⟨Or.inl rfl, ?_⟩ | refine ⟨Or.inr rfl, ?_⟩ | (refine ⟨?_, ?_⟩; (focus (exact in_nI (by omega) (by omega)))))
    exact hQ
theorem cn_pc (p : Nat) : ∀ n, cnN (fun m => tbB p m) n = pcf n p
  | 0 => rfl
  | n + 1 => by
    rw [pcf_split n 1 p]
    show cnN (fun m => tbB p m) n + (tbB p n).toNat = pcf n p + (p / 2 ^ n % 2 + pcf 0 (p / 2 ^ n / 2))
    rw [cn_pc p n]
    unfold tbB
    have h : p / 2 ^ n % 2 = 0 ∨ p / 2 ^ n % 2 = 1 := by omega
    rcases h with h | h <;> rw [h] <;> rfl
theorem pc_big {f g p : Nat} (h : p < 2 ^ f) : pcf (f + g) p = pcf f p := by
  rw [pcf_split f g p, Nat.div_eq_of_lt h, pcf_0, Nat.add_zero]
theorem cnN_mono {f g : Nat → Bool} (h : ∀ i, f i = true → g i = true) : ∀ n, cnN f n ≤ cnN g n
  | 0 => Nat.le_refl 0
  | n + 1 => by
    have ih := cnN_mono h n
    show cnN f n + (f n).toNat ≤ cnN g n + (g n).toNat
    have h2 : (f n).toNat ≤ (g n).toNat := by
      cases hf : f n
      · exact Nat.zero_le _
      · rw [h n hf]
        exact Nat.le_refl _
    omega
def gtF (k p x : Nat) : Nat → Bool := fun m => tbB p m && wtN k m x
def gtN (k p x : Nat) : Nat := cnN (gtF k p x) 16
def gpN (k p x : Nat) : Nat := if gtN k p x < pcf 32 p - gtN k p x then pcf 32 p - gtN k p x else gtN k p x
theorem gtN_le {k p x : Nat} (hp : p < 2 ^ 16) : gtN k p x ≤ pcf 32 p := by
  have h := cnN_mono (f := gtF k p x) (g := fun m => tbB p m) (fun i hi => (Bool.and_eq_true _ _ ▸ hi).1) 16
  rw [cn_pc, ← pc_big (f := 16) (g := 16) hp] at h
  exact h
theorem gpN_le (k p x : Nat) : gpN k p x ≤ 32 := by
  have h1 := pcf_le 32 p
  have h2 := cnN_le (gtF k p x) 16
  have e : gtN k p x = cnN (gtF k p x) 16 := rfl
  unfold gpN
  split <;> omega
def csX3_greaterPart : xCs := [(mX4_wouldTake, sX4_wouldTake), (mJ6_bitCount_0f7a4, sJ6_bitCount_0f7a4)]
theorem okX3_greaterPart : xOkM mX3_greaterPart csX3_greaterPart := ⟨dX3_greaterPart, by decide +kernel, by decide +kernel, ⟨wdX3_26, wdX3_42, ⟨wdX3_47, wdMax.1, wdMax.2.1, wdMax.2.2⟩, trivial⟩⟩
theorem hhX3_greaterPart : ∀ q ∈ csX3_greaterPart, xHd q.1 := xall1 hX4_wouldTake (xall1 hJ6_bitCount_0f7a4 (xall0))
theorem kkX3_greaterPart : ∀ q ∈ csX3_greaterPart, ∀ l, xCon l q.1 q.2 := xall1 kX4_wouldTake (xall1 kJ6_bitCount_0f7a4 (xall0))
def sX3_greaterPart : xSpec := xReg fun as I L Q => ∃ (k p x : Nat), as = [.int (nI k), .int (nI p), .int (nI x)] ∧ k < 8 ∧ p < 2 ^ 16 ∧ x < 16 ∧ Q (some (.int (nI (gpN k p x)))) I L
set_option maxRecDepth 100000 in
theorem kX3_greaterPart : ∀ l, xCon l mX3_greaterPart sX3_greaterPart := by
  refine xcon_of okX3_greaterPart hX3_greaterPart rfl hhX3_greaterPart kkX3_greaterPart ?_
  rintro as n0 I L P Q ⟨hn9, rfl, k, p, x, rfl, hk, hp, hx, hQ⟩
  obtain ⟨e9, rfl⟩ := xe9 hn9
  refine ⟨Nat.le_of_ble_eq_true rfl, ?_⟩
  refine xrun okX3_greaterPart hhX3_greaterPart [(5, [true, true, true, true, true])] 20 ?_
  refine xlp (M := mX3_greaterPart) (cs := csX3_greaterPart) (pc := 5) 16 (fun m => [some (.int (nI k)), some (.int (nI p)), some (.int (nI x)), some (.int (nI (cnN (gtF k p x) m))), some (.int (nI m))]) (fun _ => I) (fun _ => L) ?_ ?_
  · intro m hm ih
    refine xrun okX3_greaterPart hhX3_greaterPart [(5, [true, true, true, true, true])] 60 ?_
    (first | (refine xbr_f ?_ ?_; (focus ((simp (disch := omega) only [ix_lt, ix_le, ix_eq, ix_0, nI_clamp, nI_toInt, ng_T, nI_add, nI_mul, nI_sub', Int.neg_zero, not_false_eq_true, not_true_eq_false] <;> omega); done))) | (refine xbr_t ?_ ?_; (focus ((simp (disch := omega) only [ix_lt, ix_le, ix_eq, ix_0, nI_clamp, nI_toInt, ng_T, nI_add, nI_mul, nI_sub', Int.neg_zero, not_false_eq_true, not_true_eq_false] <;> omega); done))) | refine ⟨Or.inl rfl, ?_⟩ | refine ⟨Or.inr rfl, ?_⟩ | (refine ⟨?_, ?_⟩; (focus (exact in_nI (by omega) (by omega)))))
    have hcl := cnN_le (gtF k p x) m
    have hbt := bit_i (t := p) (i := m) (by omega) (by omega)
    have e : gtF k p x m = (tbB p m && wtN k m x) := rfl
    cases hb : tbB p m
    · rw [hb, Bool.false_and] at e
      have e2 : ¬ (nI p >>> (nI m &&& 31)) &&& nI 1 = nI 1 := by rw [hbt, hb]; decide
      (first | refine xbr_t e2 ?_ | refine xbr_f e2 ?_)
      refine xgo_eq ih ?_ rfl rfl
      ((repeat' (first | (with_reducible rfl) | exact xv_nil | refine xv_cons ?_ ?_ | refine xv_i ?_ | refine xv_l ?_)) <;> (simp (disch := omega) only [↓reduceIte, Bool.false_eq_true, Nat.one_mul, Nat.zero_mul, Nat.or_zero, Nat.add_zero, Nat.zero_add, Bool.toNat_true, Bool.toNat_false, shl_n, shr_n, fa_and, fa_or, nx_xor, nI_add, nI_mul, nI_sub', and_1, and_7, and_3', and_15, cnN, e]))
    · rw [hb, Bool.true_and] at e
      have e2 : (nI p >>> (nI m &&& 31)) &&& nI 1 = nI 1 := by rw [hbt, hb]; decide
      (first | refine xbr_t e2 ?_ | refine xbr_f e2 ?_)
      refine ⟨rfl, rfl, k, m, x, rfl, hk, hm, hx, ?_⟩
      cases hw : wtN k m x
      · rw [hw] at e
        (first | refine xbr_t (by decide) ?_ | refine xbr_f (by decide) ?_)
        refine xgo_eq ih ?_ rfl rfl
        ((repeat' (first | (with_reducible rfl) | exact xv_nil | refine xv_cons ?_ ?_ | refine xv_i ?_ | refine xv_l ?_)) <;> (simp (disch := omega) only [↓reduceIte, Bool.false_eq_true, Nat.one_mul, Nat.zero_mul, Nat.or_zero, Nat.add_zero, Nat.zero_add, Bool.toNat_true, Bool.toNat_false, shl_n, shr_n, fa_and, fa_or, nx_xor, nI_add, nI_mul, nI_sub', and_1, and_7, and_3', and_15, cnN, e]))
      · rw [hw] at e
        (first | refine xbr_t (by decide) ?_ | refine xbr_f (by decide) ?_)
        refine xgo_eq ih ?_ rfl rfl
        ((repeat' (first | (with_reducible rfl) | exact xv_nil | refine xv_cons ?_ ?_ | refine xv_i ?_ | refine xv_l ?_)) <;> (simp (disch := omega) only [↓reduceIte, Bool.false_eq_true, Nat.one_mul, Nat.zero_mul, Nat.or_zero, Nat.add_zero, Nat.zero_add, Bool.toNat_true, Bool.toNat_false, shl_n, shr_n, fa_and, fa_or, nx_xor, nI_add, nI_mul, nI_sub', and_1, and_7, and_3', and_15, cnN, e]))
  · refine xrun okX3_greaterPart hhX3_greaterPart [] 60 ?_
    (first | (refine xbr_f ?_ ?_; (focus ((simp (disch := omega) only [ix_lt, ix_le, ix_eq, ix_0, nI_clamp, nI_toInt, ng_T, nI_add, nI_mul, nI_sub', Int.neg_zero, not_false_eq_true, not_true_eq_false] <;> omega); done))) | (refine xbr_t ?_ ?_; (focus ((simp (disch := omega) only [ix_lt, ix_le, ix_eq, ix_0, nI_clamp, nI_toInt, ng_T, nI_add, nI_mul, nI_sub', Int.neg_zero, not_false_eq_true, not_true_eq_false] <;> omega); done))) | refine ⟨Or.inl rfl, ?_⟩ | refine ⟨Or.inr rfl, ?_⟩ | (refine ⟨?_, ?_⟩; (focus (exact in_nI (by omega) (by omega)))))
    refine ⟨rfl, rfl, p, rfl, by omega, ?_⟩
    have h1 := gtN_le (k := k) (x := x) hp
    have h2 := pcf_le 32 p
    have e : nI (gpN k p x) = if nI (gtN k p x) < nI (pcf 32 p) - nI (gtN k p x) then nI (pcf 32 p) - nI (gtN k p x) else nI (gtN k p x) := by
      rw [nI_sub' h1]
      unfold gpN
      by_cases h : gtN k p x < pcf 32 p - gtN k p x
      · rw [if_pos h, if_pos (by (simp (disch := omega) only [ix_lt, ix_le, ix_eq, ix_0, nI_clamp, nI_toInt, ng_T, nI_add, nI_mul, nI_sub', Int.neg_zero, not_false_eq_true, not_true_eq_false] <;> omega))]
      · rw [if_neg h, if_neg (by (simp (disch := omega) only [ix_lt, ix_le, ix_eq, ix_0, nI_clamp, nI_toInt, ng_T, nI_add, nI_mul, nI_sub', Int.neg_zero, not_false_eq_true, not_true_eq_false] <;> omega))]
    rw [e] at hQ
    exact hQ
def tmN (k p : Nat) : Nat → Nat
  | 0 => 0
  | i + 1 => if gpN k p (i + 1) < gpN k p (tmN k p i) then i + 1 else tmN k p i
theorem tmN_le (k p : Nat) : ∀ i, tmN k p i ≤ i
  | 0 => Nat.le_refl 0
  | i + 1 => by
    have ih := tmN_le k p i
    show (if gpN k p (i + 1) < gpN k p (tmN k p i) then i + 1 else tmN k p i) ≤ i + 1
    split <;> omega
def csX3_tellingMarks : xCs := [(mX3_greaterPart, sX3_greaterPart)]
theorem okX3_tellingMarks : xOkM mX3_tellingMarks csX3_tellingMarks := ⟨dX3_tellingMarks, by decide +kernel, by decide +kernel, ⟨wdX3_38, wdX3_38, trivial⟩⟩
theorem hhX3_tellingMarks : ∀ q ∈ csX3_tellingMarks, xHd q.1 := xall1 hX3_greaterPart (xall0)
theorem kkX3_tellingMarks : ∀ q ∈ csX3_tellingMarks, ∀ l, xCon l q.1 q.2 := xall1 kX3_greaterPart (xall0)
def sX3_tellingMarks : xSpec := xReg fun as I L Q => ∃ (k p : Nat), as = [.int (nI k), .int (nI p)] ∧ k < 8 ∧ p < 2 ^ 16 ∧ Q (some (.int (nI (tmN k p 15)))) I L
set_option maxRecDepth 100000 in
theorem kX3_tellingMarks : ∀ l, xCon l mX3_tellingMarks sX3_tellingMarks := by
  refine xcon_of okX3_tellingMarks hX3_tellingMarks rfl hhX3_tellingMarks kkX3_tellingMarks ?_
  rintro as n0 I L P Q ⟨hn9, rfl, k, p, rfl, hk, hp, hQ⟩
  obtain ⟨e9, rfl⟩ := xe9 hn9
  refine ⟨Nat.le_of_ble_eq_true rfl, ?_⟩
  refine xrun okX3_tellingMarks hhX3_tellingMarks [(4, [true, true, true, true])] 20 ?_
  refine xlp (M := mX3_tellingMarks) (cs := csX3_tellingMarks) (pc := 4) 15 (fun i => [some (.int (nI k)), some (.int (nI p)), some (.int (nI (tmN k p i))), some (.int (nI (i + 1)))]) (fun _ => I) (fun _ => L) ?_ ?_
  · intro i hi ih
    refine xrun okX3_tellingMarks hhX3_tellingMarks [(4, [true, true, true, true])] 60 ?_
    (first | (refine xbr_f ?_ ?_; (focus ((simp (disch := omega) only [ix_lt, ix_le, ix_eq, ix_0, nI_clamp, nI_toInt, ng_T, nI_add, nI_mul, nI_sub', Int.neg_zero, not_false_eq_true, not_true_eq_false] <;> omega); done))) | (refine xbr_t ?_ ?_; (focus ((simp (disch := omega) only [ix_lt, ix_le, ix_eq, ix_0, nI_clamp, nI_toInt, ng_T, nI_add, nI_mul, nI_sub', Int.neg_zero, not_false_eq_true, not_true_eq_false] <;> omega); done))) | refine ⟨Or.inl rfl, ?_⟩ | refine ⟨Or.inr rfl, ?_⟩ | (refine ⟨?_, ?_⟩; (focus (exact in_nI (by omega) (by omega)))))
    have ht := tmN_le k p i
    refine ⟨rfl, rfl, k, p, i + 1, rfl, hk, hp, by omega, ?_⟩
    refine ⟨rfl, rfl, k, p, tmN k p i, rfl, hk, hp, by omega, ?_⟩
    have g1 := gpN_le k p (i + 1)
    have g2 := gpN_le k p (tmN k p i)
    have e : tmN k p (i + 1) = if gpN k p (i + 1) < gpN k p (tmN k p i) then i + 1 else tmN k p i := rfl
    by_cases h : gpN k p (i + 1) < gpN k p (tmN k p i)
    · rw [if_pos h] at e
      (first | (refine xbr_f ?_ ?_; (focus ((simp (disch := omega) only [ix_lt, ix_le, ix_eq, ix_0, nI_clamp, nI_toInt, ng_T, nI_add, nI_mul, nI_sub', Int.neg_zero, not_false_eq_true, not_true_eq_false] <;> omega); done))) | (refine xbr_t ?_ ?_; (focus ((simp (disch := omega) only [ix_lt, ix_le, ix_eq, ix_0, nI_clamp, nI_toInt, ng_T, nI_add, nI_mul, nI_sub', Int.neg_zero, not_false_eq_true, not_true_eq_false] <;> omega); done))) | refine ⟨Or.inl rfl, ?_⟩ | refine ⟨Or.inr rfl, ?_⟩ | (refine ⟨?_, ?_⟩; (focus (exact in_nI (by omega) (by omega)))))
      refine xgo_eq ih ?_ rfl rfl
      rw [e]
      ((repeat' (first | (with_reducible rfl) | exact xv_nil | refine xv_cons ?_ ?_ | refine xv_i ?_ | refine xv_l ?_)) <;> (simp (disch := omega) only [↓reduceIte, Bool.false_eq_true, Nat.one_mul, Nat.zero_mul, Nat.or_zero, Nat.add_zero, Nat.zero_add, Bool.toNat_true, Bool.toNat_false, shl_n, shr_n, fa_and, fa_or, nx_xor, nI_add, nI_mul, nI_sub', and_1, and_7, and_3', and_15]))
    · rw [if_neg h] at e
      (first | (refine xbr_f ?_ ?_; (focus ((simp (disch := omega) only [ix_lt, ix_le, ix_eq, ix_0, nI_clamp, nI_toInt, ng_T, nI_add, nI_mul, nI_sub', Int.neg_zero, not_false_eq_true, not_true_eq_false] <;> omega); done))) | (refine xbr_t ?_ ?_; (focus ((simp (disch := omega) only [ix_lt, ix_le, ix_eq, ix_0, nI_clamp, nI_toInt, ng_T, nI_add, nI_mul, nI_sub', Int.neg_zero, not_false_eq_true, not_true_eq_false] <;> omega); done))) | refine ⟨Or.inl rfl, ?_⟩ | refine ⟨Or.inr rfl, ?_⟩ | (refine ⟨?_, ?_⟩; (focus (exact in_nI (by omega) (by omega)))))
      refine xgo_eq ih ?_ rfl rfl
      rw [e]
      ((repeat' (first | (with_reducible rfl) | exact xv_nil | refine xv_cons ?_ ?_ | refine xv_i ?_ | refine xv_l ?_)) <;> (simp (disch := omega) only [↓reduceIte, Bool.false_eq_true, Nat.one_mul, Nat.zero_mul, Nat.or_zero, Nat.add_zero, Nat.zero_add, Bool.toNat_true, Bool.toNat_false, shl_n, shr_n, fa_and, fa_or, nx_xor, nI_add, nI_mul, nI_sub', and_1, and_7, and_3', and_15]))
  · refine xrun okX3_tellingMarks hhX3_tellingMarks [] 60 ?_
    repeat (first | (refine xbr_f ?_ ?_; (focus ((simp (disch := omega) only [ix_lt, ix_le, ix_eq, ix_0, nI_clamp, nI_toInt, ng_T, nI_add, nI_mul, nI_sub', Int.neg_zero, not_false_eq_true, not_true_eq_false] <;> omega); done))) | (refine xbr_t ?_ ?_; (focus ((simp (disch := omega) only [ix_lt, ix_le, ix_eq, ix_0, nI_clamp, nI_toInt, ng_T, nI_add, nI_mul, nI_sub', Int.neg_zero, not_false_eq_true, not_true_eq_false] <;> omega); done))) | refine ⟨Or.inl rfl, ?_⟩ | refine ⟨Or.inr rfl, ?_⟩ | (refine ⟨?_, ?_⟩; (focus (exact in_nI (by omega) (by omega)))))
    exact hQ
def csX10_isSet : xCs := []
theorem okX10_isSet : xOkM mX10_isSet csX10_isSet := ⟨dX10_isSet, by decide +kernel, by decide +kernel, trivial⟩
theorem hhX10_isSet : ∀ q ∈ csX10_isSet, xHd q.1 := xall0
theorem kkX10_isSet : ∀ q ∈ csX10_isSet, ∀ l, xCon l q.1 q.2 := xall0
def sX10_isSet : xSpec := xReg fun as I L Q => ∃ (x : Int32), as = [.int x] ∧ Q (some (.int (bI (ibB x 16)))) I L
set_option maxRecDepth 100000 in
theorem kX10_isSet : ∀ l, xCon l mX10_isSet sX10_isSet := by
  refine xcon_of okX10_isSet hX10_isSet rfl hhX10_isSet kkX10_isSet ?_
  rintro as n0 I L P Q ⟨hn9, rfl, x, rfl, hQ⟩
  obtain ⟨e9, rfl⟩ := xe9 hn9
  refine ⟨Nat.le_of_ble_eq_true rfl, xrun okX10_isSet hhX10_isSet [] 20 ?_⟩
  by_cases h1 : 0 ≤ x.toInt
  · by_cases h2 : x.toInt < (16 : Nat)
    · have e : ibB x 16 = true := decide_eq_true ⟨h1, h2⟩
      rw [e] at hQ
      repeat (first | (refine xbr_f ?_ ?_; (focus ((simp (disch := omega) only [ix_lt, ix_le, ix_eq, ix_0, nI_clamp, nI_toInt, ng_T, nI_add, nI_mul, nI_sub', Int.neg_zero, not_false_eq_true, not_true_eq_false] <;> omega); done))) | (refine xbr_t ?_ ?_; (focus ((simp (disch := omega) only [ix_lt, ix_le, ix_eq, ix_0, nI_clamp, nI_toInt, ng_T, nI_add, nI_mul, nI_sub', Int.neg_zero, not_false_eq_true, not_true_eq_false] <;> omega); done))) | refine ⟨Or.inl rfl, ?_⟩ | refine ⟨Or.inr rfl, ?_⟩ | (refine ⟨?_, ?_⟩; (focus (exact in_nI (by omega) (by omega)))))
      exact hQ
    · have e : ibB x 16 = false := decide_eq_false (fun q => h2 q.2)
      rw [e] at hQ
      repeat (first | (refine xbr_f ?_ ?_; (focus ((simp (disch := omega) only [ix_lt, ix_le, ix_eq, ix_0, nI_clamp, nI_toInt, ng_T, nI_add, nI_mul, nI_sub', Int.neg_zero, not_false_eq_true, not_true_eq_false] <;> omega); done))) | (refine xbr_t ?_ ?_; (focus ((simp (disch := omega) only [ix_lt, ix_le, ix_eq, ix_0, nI_clamp, nI_toInt, ng_T, nI_add, nI_mul, nI_sub', Int.neg_zero, not_false_eq_true, not_true_eq_false] <;> omega); done))) | refine ⟨Or.inl rfl, ?_⟩ | refine ⟨Or.inr rfl, ?_⟩ | (refine ⟨?_, ?_⟩; (focus (exact in_nI (by omega) (by omega)))))
      exact hQ
  · have e : ibB x 16 = false := decide_eq_false (fun q => h1 q.1)
    rw [e] at hQ
    repeat (first | (refine xbr_f ?_ ?_; (focus ((simp (disch := omega) only [ix_lt, ix_le, ix_eq, ix_0, nI_clamp, nI_toInt, ng_T, nI_add, nI_mul, nI_sub', Int.neg_zero, not_false_eq_true, not_true_eq_false] <;> omega); done))) | (refine xbr_t ?_ ?_; (focus ((simp (disch := omega) only [ix_lt, ix_le, ix_eq, ix_0, nI_clamp, nI_toInt, ng_T, nI_add, nI_mul, nI_sub', Int.neg_zero, not_false_eq_true, not_true_eq_false] <;> omega); done))) | refine ⟨Or.inl rfl, ?_⟩ | refine ⟨Or.inr rfl, ?_⟩ | (refine ⟨?_, ?_⟩; (focus (exact in_nI (by omega) (by omega)))))
    exact hQ
def bpF (v : Nat → Int32) (r : Nat) : Nat → Bool := fun j => !(ibB (v (40 * r + 2 * j)) 16 && ibB (v (40 * r + (2 * j + 1))) 2)
def wpN (v : Nat → Int32) (r z : Nat) : Nat := if z = 0 then 1 else if 16 < z - 1 ∨ (z - 1) % 2 = 1 then 5 else if ffN (bpF v r) ((z - 1) / 2) = 0 then 0 else 3
def csX3_wrongPairs : xCs := [(mX8_isThere, sX8_isThere), (mX8_sizeOf, sX8_sizeOf), (mX8_get, sX8_get), (mX10_isSet, sX10_isSet)]
theorem okX3_wrongPairs : xOkM mX3_wrongPairs csX3_wrongPairs := ⟨dX3_wrongPairs, by decide +kernel, by decide +kernel, ⟨wdX3_9, wdX3_15, wdX3_19, wdX3_19, wdX3_23, trivial⟩⟩
theorem hhX3_wrongPairs : ∀ q ∈ csX3_wrongPairs, xHd q.1 := xall1 hX8_isThere (xall1 hX8_sizeOf (xall1 hX8_get (xall1 hX10_isSet (xall0))))
theorem kkX3_wrongPairs : ∀ q ∈ csX3_wrongPairs, ∀ l, xCon l q.1 q.2 := xall1 kX8_isThere (xall1 kX8_sizeOf (xall1 kX8_get (xall1 kX10_isSet (xall0))))
def sX3_wrongPairs : xSpec := xReg fun as I L Q => ∃ (r z : Nat), as = [.ref 2, .int (nI r)] ∧ r < 6 ∧ z ≤ 41 ∧ I 3 r = szI z ∧ I 2 0 = nI 40 ∧ Q (some (.int (nI (wpN (I 4) r z)))) I L
set_option maxRecDepth 100000 in
theorem kX3_wrongPairs : ∀ l, xCon l mX3_wrongPairs sX3_wrongPairs := by
  refine xcon_of okX3_wrongPairs hX3_wrongPairs rfl hhX3_wrongPairs kkX3_wrongPairs ?_
  rintro as n0 I L P Q ⟨hn9, rfl, r, z, rfl, hr, hz, hs, hmo, hQ⟩
  obtain ⟨e9, rfl⟩ := xe9 hn9
  refine ⟨Nat.le_of_ble_eq_true rfl, ?_⟩
  refine xrun okX3_wrongPairs hhX3_wrongPairs [(32, [true, true, true, true, false])] 200 ?_
  rcases z with _ | s
  · rw [szI_0] at hs
    repeat (first | (refine xbr_f ?_ ?_; (focus ((simp (disch := omega) only [ix_lt, ix_le, ix_eq, ix_0, nI_clamp, nI_toInt, ng_T, nI_add, nI_mul, nI_sub', Int.neg_zero, not_false_eq_true, not_true_eq_false, hs] <;> omega); done))) | (refine xbr_t ?_ ?_; (focus ((simp (disch := omega) only [ix_lt, ix_le, ix_eq, ix_0, nI_clamp, nI_toInt, ng_T, nI_add, nI_mul, nI_sub', Int.neg_zero, not_false_eq_true, not_true_eq_false, hs] <;> omega); done))) | refine ⟨Or.inl rfl, ?_⟩ | refine ⟨Or.inr rfl, ?_⟩ | (refine ⟨?_, ?_⟩; (focus ((try simp (disch := omega) only [hs, nI_mul, nI_add, nI_sub']); exact in_nI (by omega) (by omega)))))
    exact hQ
  · rw [szI_s] at hs
    have hw : wpN (I 4) r (s + 1) = if 16 < s ∨ s % 2 = 1 then 5 else if ffN (bpF (I 4) r) (s / 2) = 0 then 0 else 3 := rfl
    rw [hw] at hQ
    have er : nI s - nI s / nI 2 * nI 2 = nI (s % 2) := pk_rem (by omega) (by decide) (by decide)
    by_cases h16 : 16 < s
    · rw [if_pos (Or.inl h16)] at hQ
      repeat (first | (refine xbr_f ?_ ?_; (focus ((simp (disch := omega) only [ix_lt, ix_le, ix_eq, ix_0, nI_clamp, nI_toInt, ng_T, nI_add, nI_mul, nI_sub', Int.neg_zero, not_false_eq_true, not_true_eq_false, hs] <;> omega); done))) | (refine xbr_t ?_ ?_; (focus ((simp (disch := omega) only [ix_lt, ix_le, ix_eq, ix_0, nI_clamp, nI_toInt, ng_T, nI_add, nI_mul, nI_sub', Int.neg_zero, not_false_eq_true, not_true_eq_false, hs] <;> omega); done))) | refine ⟨Or.inl rfl, ?_⟩ | refine ⟨Or.inr rfl, ?_⟩ | (refine ⟨?_, ?_⟩; (focus ((try simp (disch := omega) only [hs, nI_mul, nI_add, nI_sub']); exact in_nI (by omega) (by omega)))))
      exact hQ
    · by_cases ho : s % 2 = 1
      · rw [if_pos (Or.inr ho)] at hQ
        repeat (first | (refine xbr_f ?_ ?_; (focus ((simp (disch := omega) only [ix_lt, ix_le, ix_eq, ix_0, nI_clamp, nI_toInt, ng_T, nI_add, nI_mul, nI_sub', Int.neg_zero, not_false_eq_true, not_true_eq_false, hs] <;> omega); done))) | (refine xbr_t ?_ ?_; (focus ((simp (disch := omega) only [ix_lt, ix_le, ix_eq, ix_0, nI_clamp, nI_toInt, ng_T, nI_add, nI_mul, nI_sub', Int.neg_zero, not_false_eq_true, not_true_eq_false, hs] <;> omega); done))) | refine ⟨Or.inl rfl, ?_⟩ | refine ⟨Or.inr rfl, ?_⟩ | (refine ⟨?_, ?_⟩; (focus ((try simp (disch := omega) only [hs, nI_mul, nI_add, nI_sub']); exact in_nI (by omega) (by omega)))))
        refine ⟨by decide, ?_⟩
        repeat (first | (refine xbr_f ?_ ?_; (focus ((simp (disch := omega) only [ix_lt, ix_le, ix_eq, ix_0, nI_clamp, nI_toInt, ng_T, nI_add, nI_mul, nI_sub', Int.neg_zero, not_false_eq_true, not_true_eq_false, hs, er] <;> omega); done))) | (refine xbr_t ?_ ?_; (focus ((simp (disch := omega) only [ix_lt, ix_le, ix_eq, ix_0, nI_clamp, nI_toInt, ng_T, nI_add, nI_mul, nI_sub', Int.neg_zero, not_false_eq_true, not_true_eq_false, hs, er] <;> omega); done))) | refine ⟨Or.inl rfl, ?_⟩ | refine ⟨Or.inr rfl, ?_⟩ | (refine ⟨?_, ?_⟩; (focus ((try simp (disch := omega) only [hs, er, nI_mul, nI_add, nI_sub']); exact in_nI (by omega) (by omega)))))
        exact hQ
      · rw [if_neg (by omega)] at hQ
        obtain ⟨n, rfl⟩ : ∃ n, s = 2 * n := ⟨s / 2, by omega⟩
        rw [show 2 * n / 2 = n by omega] at hQ
        repeat (first | (refine xbr_f ?_ ?_; (focus ((simp (disch := omega) only [ix_lt, ix_le, ix_eq, ix_0, nI_clamp, nI_toInt, ng_T, nI_add, nI_mul, nI_sub', Int.neg_zero, not_false_eq_true, not_true_eq_false, hs] <;> omega); done))) | (refine xbr_t ?_ ?_; (focus ((simp (disch := omega) only [ix_lt, ix_le, ix_eq, ix_0, nI_clamp, nI_toInt, ng_T, nI_add, nI_mul, nI_sub', Int.neg_zero, not_false_eq_true, not_true_eq_false, hs] <;> omega); done))) | refine ⟨Or.inl rfl, ?_⟩ | refine ⟨Or.inr rfl, ?_⟩ | (refine ⟨?_, ?_⟩; (focus ((try simp (disch := omega) only [hs, nI_mul, nI_add, nI_sub']); exact in_nI (by omega) (by omega)))))
        refine ⟨by decide, ?_⟩
        repeat (first | (refine xbr_f ?_ ?_; (focus ((simp (disch := omega) only [ix_lt, ix_le, ix_eq, ix_0, nI_clamp, nI_toInt, ng_T, nI_add, nI_mul, nI_sub', Int.neg_zero, not_false_eq_true, not_true_eq_false, hs, er] <;> omega); done))) | (refine xbr_t ?_ ?_; (focus ((simp (disch := omega) only [ix_lt, ix_le, ix_eq, ix_0, nI_clamp, nI_toInt, ng_T, nI_add, nI_mul, nI_sub', Int.neg_zero, not_false_eq_true, not_true_eq_false, hs, er] <;> omega); done))) | refine ⟨Or.inl rfl, ?_⟩ | refine ⟨Or.inr rfl, ?_⟩ | (refine ⟨?_, ?_⟩; (focus ((try simp (disch := omega) only [hs, er, nI_mul, nI_add, nI_sub']); exact in_nI (by omega) (by omega)))))
        simp (disch := omega) only [hs, nI_mul, nI_add, nI_clamp, nI_sub']
        refine xlpI (M := mX3_wrongPairs) (cs := csX3_wrongPairs) (pc := 32) (fun j => ffN (bpF (I 4) r) j = 0) n (fun j => [some (.ref 2), some (.int (nI r)), some (.int (nI (2 * n))), some (.int (nI (2 * j))), none]) (fun _ => I) (fun _ => L) ?_ ?_ rfl
        · intro j hj hI ih
          refine xrun okX3_wrongPairs hhX3_wrongPairs [(32, [true, true, true, true, false])] 90 ?_
          (first | (refine xbr_f ?_ ?_; (focus ((simp (disch := omega) only [ix_lt, ix_le, ix_eq, ix_0, nI_clamp, nI_toInt, ng_T, nI_add, nI_mul, nI_sub', Int.neg_zero, not_false_eq_true, not_true_eq_false] <;> omega); done))) | (refine xbr_t ?_ ?_; (focus ((simp (disch := omega) only [ix_lt, ix_le, ix_eq, ix_0, nI_clamp, nI_toInt, ng_T, nI_add, nI_mul, nI_sub', Int.neg_zero, not_false_eq_true, not_true_eq_false] <;> omega); done))) | refine ⟨Or.inl rfl, ?_⟩ | refine ⟨Or.inr rfl, ?_⟩ | (refine ⟨?_, ?_⟩; (focus (exact in_nI (by omega) (by omega)))))
          refine ⟨rfl, rfl, 2, 3, 4, 6, 40, r, 2 * j + 1, 2 * n, Or.inl ⟨rfl, rfl, rfl, rfl, rfl⟩, by rw [nI_add], hr, hs, by omega, by omega, hmo, ?_⟩
          refine ⟨rfl, rfl, 2, 3, 4, 6, 40, r, 2 * j, 2 * n, Or.inl ⟨rfl, rfl, rfl, rfl, rfl⟩, rfl, hr, hs, by omega, by omega, hmo, ?_⟩
          refine ⟨rfl, rfl, _, rfl, ?_⟩
          rw [show r * 40 + 2 * j = 40 * r + 2 * j by omega, show r * 40 + (2 * j + 1) = 40 * r + (2 * j + 1) by omega]
          have e : bpF (I 4) r j = !(ibB (I 4 (40 * r + 2 * j)) 16 && ibB (I 4 (40 * r + (2 * j + 1))) 2) := rfl
          generalize I 4 (40 * r + (2 * j + 1)) = y at *
          cases hb : ibB (I 4 (40 * r + 2 * j)) 16
          · rw [hb, Bool.false_and] at e
            have e3 := ffN_hit hI (f := bpF (I 4) r) e hj
            rw [if_neg (by omega)] at hQ
            (first | refine xbr_t (by decide) ?_ | refine xbr_f (by decide) ?_)
            exact hQ
          · rw [hb, Bool.true_and] at e
            (first | refine xbr_t (by decide) ?_ | refine xbr_f (by decide) ?_)
            by_cases h1 : 0 ≤ y.toInt
            · by_cases h2 : y.toInt < (2 : Nat)
              · have e2 : ibB y 2 = true := decide_eq_true ⟨h1, h2⟩
                rw [e2] at e
                have e3 := ffN_miss hI (f := bpF (I 4) r) e
                repeat (first | (refine xbr_f ?_ ?_; (focus ((simp (disch := omega) only [ix_lt, ix_le, ix_eq, ix_0, nI_clamp, nI_toInt, ng_T, nI_add, nI_mul, nI_sub', Int.neg_zero, not_false_eq_true, not_true_eq_false] <;> omega); done))) | (refine xbr_t ?_ ?_; (focus ((simp (disch := omega) only [ix_lt, ix_le, ix_eq, ix_0, nI_clamp, nI_toInt, ng_T, nI_add, nI_mul, nI_sub', Int.neg_zero, not_false_eq_true, not_true_eq_false] <;> omega); done))) | refine ⟨Or.inl rfl, ?_⟩ | refine ⟨Or.inr rfl, ?_⟩ | (refine ⟨?_, ?_⟩; (focus (exact in_nI (by omega) (by omega)))))
                refine xgo_eq (ih e3) ?_ rfl rfl
                ((repeat' (first | (with_reducible rfl) | exact xv_nil | refine xv_cons ?_ ?_ | refine xv_i ?_ | refine xv_l ?_)) <;> (simp (disch := omega) only [↓reduceIte, Bool.false_eq_true, Nat.one_mul, Nat.zero_mul, Nat.or_zero, Nat.add_zero, Nat.zero_add, Bool.toNat_true, Bool.toNat_false, shl_n, shr_n, fa_and, fa_or, nx_xor, nI_add, nI_mul, nI_sub', and_1, and_7, and_3', and_15, Nat.mul_add]))
              · have e2 : ibB y 2 = false := decide_eq_false (fun q => h2 q.2)
                rw [e2] at e
                have e3 := ffN_hit hI (f := bpF (I 4) r) e hj
                rw [if_neg (by omega)] at hQ
                repeat (first | (refine xbr_f ?_ ?_; (focus ((simp (disch := omega) only [ix_lt, ix_le, ix_eq, ix_0, nI_clamp, nI_toInt, ng_T, nI_add, nI_mul, nI_sub', Int.neg_zero, not_false_eq_true, not_true_eq_false] <;> omega); done))) | (refine xbr_t ?_ ?_; (focus ((simp (disch := omega) only [ix_lt, ix_le, ix_eq, ix_0, nI_clamp, nI_toInt, ng_T, nI_add, nI_mul, nI_sub', Int.neg_zero, not_false_eq_true, not_true_eq_false] <;> omega); done))) | refine ⟨Or.inl rfl, ?_⟩ | refine ⟨Or.inr rfl, ?_⟩ | (refine ⟨?_, ?_⟩; (focus (exact in_nI (by omega) (by omega)))))
                exact hQ
            · have e2 : ibB y 2 = false := decide_eq_false (fun q => h1 q.1)
              rw [e2] at e
              have e3 := ffN_hit hI (f := bpF (I 4) r) e hj
              rw [if_neg (by omega)] at hQ
              repeat (first | (refine xbr_f ?_ ?_; (focus ((simp (disch := omega) only [ix_lt, ix_le, ix_eq, ix_0, nI_clamp, nI_toInt, ng_T, nI_add, nI_mul, nI_sub', Int.neg_zero, not_false_eq_true, not_true_eq_false] <;> omega); done))) | (refine xbr_t ?_ ?_; (focus ((simp (disch := omega) only [ix_lt, ix_le, ix_eq, ix_0, nI_clamp, nI_toInt, ng_T, nI_add, nI_mul, nI_sub', Int.neg_zero, not_false_eq_true, not_true_eq_false] <;> omega); done))) | refine ⟨Or.inl rfl, ?_⟩ | refine ⟨Or.inr rfl, ?_⟩ | (refine ⟨?_, ?_⟩; (focus (exact in_nI (by omega) (by omega)))))
              exact hQ
        · intro hI
          have hI : ffN (bpF (I 4) r) n = 0 := hI
          rw [if_pos hI] at hQ
          refine xrun okX3_wrongPairs hhX3_wrongPairs [] 60 ?_
          repeat (first | (refine xbr_f ?_ ?_; (focus ((simp (disch := omega) only [ix_lt, ix_le, ix_eq, ix_0, nI_clamp, nI_toInt, ng_T, nI_add, nI_mul, nI_sub', Int.neg_zero, not_false_eq_true, not_true_eq_false] <;> omega); done))) | (refine xbr_t ?_ ?_; (focus ((simp (disch := omega) only [ix_lt, ix_le, ix_eq, ix_0, nI_clamp, nI_toInt, ng_T, nI_add, nI_mul, nI_sub', Int.neg_zero, not_false_eq_true, not_true_eq_false] <;> omega); done))) | refine ⟨Or.inl rfl, ?_⟩ | refine ⟨Or.inr rfl, ?_⟩ | (refine ⟨?_, ?_⟩; (focus (exact in_nI (by omega) (by omega)))))
          exact hQ
