/-! CHANCES -/
theorem xv_l2 {a b : Nat} (h : a = b) : some (Value.long (lN a)) = some (Value.long (lN b)) := by rw [h]
def csX0_power : xCs := []
theorem okX0_power : xOkM mX0_power csX0_power := ⟨dX0_power, by decide +kernel, by decide +kernel, trivial⟩
theorem hhX0_power : ∀ q ∈ csX0_power, xHd q.1 := xall0
theorem kkX0_power : ∀ q ∈ csX0_power, ∀ l, xCon l q.1 q.2 := xall0
def sX0_power : xSpec := xReg fun as I L Q => ∃ b n : Nat, as = [.int (nI b), .int (nI n)] ∧ b < 2 ^ 31 ∧ n < 100 ∧ Q (some (.long (lN (b ^ n)))) I L
set_option maxRecDepth 100000 in
theorem kX0_power : ∀ l, xCon l mX0_power sX0_power := by
  refine xcon_of okX0_power hX0_power rfl hhX0_power kkX0_power ?_
  rintro as n0 I L P Q ⟨hn9, rfl, b, n, rfl, hb, hn, hQ⟩
  obtain ⟨e9, rfl⟩ := xe9 hn9
  refine ⟨Nat.le_of_ble_eq_true rfl, ?_⟩
  refine xrun okX0_power hhX0_power [(5, [true, true, true, false, true])] 20 ?_
  refine xlp (M := mX0_power) (cs := csX0_power) (pc := 5) n (fun k => [some (.int (nI b)), some (.int (nI n)), some (.long (lN (b ^ k))), none, some (.int (nI k))]) (fun _ => I) (fun _ => L) ?_ ?_
  · intro k hk ih
    refine xrun okX0_power hhX0_power [(5, [true, true, true, false, true])] 60 ?_
    (first | (refine xbr_f ?_ ?_; (focus ((simp (disch := omega) only [ix_lt, ix_le, ix_eq, ix_0, nI_clamp, nI_toInt, ng_T, nI_add, nI_mul, nI_sub', Int.neg_zero, not_false_eq_true, not_true_eq_false] <;> omega); done))) | (refine xbr_t ?_ ?_; (focus ((simp (disch := omega) only [ix_lt, ix_le, ix_eq, ix_0, nI_clamp, nI_toInt, ng_T, nI_add, nI_mul, nI_sub', Int.neg_zero, not_false_eq_true, not_true_eq_false] <;> omega); done))) | refine ⟨Or.inl rfl, ?_⟩ | refine ⟨Or.inr rfl, ?_⟩ | (refine ⟨?_, ?_⟩; (focus (exact in_nI (by omega) (by omega)))))
    have el := nI_l (n := b) hb
    refine xgo_eq ih ?_ rfl rfl
    ((repeat' (first | (with_reducible rfl) | exact xv_nil | refine xv_cons ?_ ?_ | refine xv_i ?_ | refine xv_l ?_)) <;> (simp (disch := omega) only [↓reduceIte, Bool.false_eq_true, Nat.one_mul, Nat.zero_mul, Nat.or_zero, Nat.add_zero, Nat.zero_add, Bool.toNat_true, Bool.toNat_false, shl_n, shr_n, fa_and, fa_or, nx_xor, nI_add, nI_mul, nI_sub', and_1, and_7, and_3', and_15, el, lN_mul, Nat.pow_succ]))
  · refine xrun okX0_power hhX0_power [] 60 ?_
    repeat (first | (refine xbr_f ?_ ?_; (focus ((simp (disch := omega) only [ix_lt, ix_le, ix_eq, ix_0, nI_clamp, nI_toInt, ng_T, nI_add, nI_mul, nI_sub', Int.neg_zero, not_false_eq_true, not_true_eq_false] <;> omega); done))) | (refine xbr_t ?_ ?_; (focus ((simp (disch := omega) only [ix_lt, ix_le, ix_eq, ix_0, nI_clamp, nI_toInt, ng_T, nI_add, nI_mul, nI_sub', Int.neg_zero, not_false_eq_true, not_true_eq_false] <;> omega); done))) | refine ⟨Or.inl rfl, ?_⟩ | refine ⟨Or.inr rfl, ?_⟩ | (refine ⟨?_, ?_⟩; (focus (exact in_nI (by omega) (by omega)))))
    exact hQ
def weN (d : PD) (w p : Nat) : Nat := p ^ (d.nA - pcf 32 w) * (12 - p) ^ pcf 32 w
theorem weN_le {d : PD} (hd : d.ok) {w p : Nat} (hw : w < 2 ^ d.nA) (hp : p ≤ 12) : weN d w p ≤ 20736 := by
  have h := pcf_lt hw (f := 32)
  have h4 := hd.a4
  calc weN d w p ≤ 12 ^ (d.nA - pcf 32 w) * 12 ^ pcf 32 w := Nat.mul_le_mul (Nat.pow_le_pow_left hp _) (Nat.pow_le_pow_left (by omega) _)
    _ = 12 ^ (d.nA - pcf 32 w + pcf 32 w) := (Nat.pow_add 12 _ _).symm
    _ ≤ 12 ^ 4 := Nat.pow_le_pow_right (by decide) (by omega)
def csX0_weight : xCs := [(mJ6_bitCount_0f7a4, sJ6_bitCount_0f7a4), (mX0_power, sX0_power)]
theorem okX0_weight : xOkM mX0_weight csX0_weight := ⟨dX0_weight, by decide +kernel, by decide +kernel, ⟨wdX0_52, wdX0_18, wdX0_36, wdX0_36, trivial⟩⟩
theorem hhX0_weight : ∀ q ∈ csX0_weight, xHd q.1 := xall1 hJ6_bitCount_0f7a4 (xall1 hX0_power (xall0))
theorem kkX0_weight : ∀ q ∈ csX0_weight, ∀ l, xCon l q.1 q.2 := xall1 kJ6_bitCount_0f7a4 (xall1 kX0_power (xall0))
def sX0_weight : xSpec := xReg fun as I L Q => ∃ (d : PD) (w p : Nat), xPl d I ∧ as = [.ref 11, .int (nI w), .int (nI p)] ∧ w < 2 ^ d.nA ∧ p ≤ 12 ∧ Q (some (.long (lN (weN d w p)))) I L
set_option maxRecDepth 100000 in
theorem kX0_weight : ∀ l, xCon l mX0_weight sX0_weight := by
  refine xcon_of okX0_weight hX0_weight rfl hhX0_weight kkX0_weight ?_
  rintro as n0 I L P Q ⟨hn9, rfl, d, w, p, hP, rfl, hw, hp, hQ⟩
  obtain ⟨e9, rfl⟩ := xe9 hn9
  refine ⟨Nat.le_of_ble_eq_true rfl, ?_⟩
  have ha := hP.a
  have h4 := hP.ok.a4
  have h := pcf_lt hw (f := 32)
  have h16 : 2 ^ d.nA ≤ 2 ^ 4 := Nat.pow_le_pow_right (by decide) h4
  refine xrun okX0_weight hhX0_weight [] 60 ?_
  refine ⟨rfl, rfl, w, rfl, by omega, ?_⟩
  refine ⟨rfl, rfl, p, d.nA - pcf 32 w, by rw [ha, nI_sub' h], by omega, by omega, ?_⟩
  refine ⟨rfl, rfl, 12 - p, pcf 32 w, by rw [nI_sub' hp], by omega, by omega, ?_⟩
  unfold weN at hQ
  rw [← lN_mul] at hQ
  exact hQ
def gcF : Nat → Nat → Nat → Nat
  | 0, a, _ => a
  | f + 1, a, b => if b = 0 then a else gcF f b (a % b)
theorem gcF_0 : ∀ f a, gcF f a 0 = a
  | 0, _ => rfl
  | _ + 1, _ => if_pos rfl
theorem gcF_ok : ∀ (m f a b : Nat), b < 2 ^ m → 2 * m ≤ f → gcF f a b = Nat.gcd a b
  | 0, f, a, b, h, _ => by
    rw [Nat.pow_zero] at h
    obtain rfl : b = 0 := by omega
    rw [gcF_0, Nat.gcd_zero_right]
  | m + 1, f, a, b, h, hf => by
    obtain ⟨f, rfl⟩ : ∃ g, f = g + 2 := ⟨f - 2, by omega⟩
    by_cases h0 : b = 0
    · subst h0
      rw [gcF_0, Nat.gcd_zero_right]
    · have e1 : gcF (f + 2) a b = gcF (f + 1) b (a % b) := if_neg h0
      rw [e1, Nat.gcd_comm a b, Nat.gcd_rec b a, Nat.gcd_comm (a % b) b]
      by_cases h1 : a % b = 0
      · rw [h1, gcF_0, Nat.gcd_zero_right]
      · have e2 : gcF (f + 1) b (a % b) = gcF f (a % b) (b % (a % b)) := if_neg h1
        have l1 : a % b < b := Nat.mod_lt _ (by omega)
        have l2 : b % (a % b) < a % b := Nat.mod_lt _ (by omega)
        have l3 : b % (a % b) + a % b ≤ b := by
          have := Nat.div_add_mod b (a % b)
          have h3 : 1 ≤ b / (a % b) := (Nat.le_div_iff_mul_le (by omega)).mpr (by omega)
          have h4 : a % b * 1 ≤ a % b * (b / (a % b)) := Nat.mul_le_mul_left _ h3
          omega
        rw [e2, gcF_ok m f (a % b) (b % (a % b)) (by rw [Nat.pow_succ] at h; omega) (by omega), Nat.gcd_comm b (a % b), Nat.gcd_rec (a % b) b, Nat.gcd_comm]
def csX0_commonDivisor : xCs := []
theorem okX0_commonDivisor : xOkM mX0_commonDivisor csX0_commonDivisor := ⟨dX0_commonDivisor, by decide +kernel, by decide +kernel, trivial⟩
theorem hhX0_commonDivisor : ∀ q ∈ csX0_commonDivisor, xHd q.1 := xall0
theorem kkX0_commonDivisor : ∀ q ∈ csX0_commonDivisor, ∀ l, xCon l q.1 q.2 := xall0
def sX0_commonDivisor : xSpec := xReg fun as I L Q => ∃ a b : Nat, as = [.long (lN a), .long (lN b)] ∧ a < 2 ^ 62 ∧ b < 2 ^ 62 ∧ Q (some (.long (lN (Nat.gcd a b)))) I L
set_option maxRecDepth 100000 in
theorem kX0_commonDivisor : ∀ l, xCon l mX0_commonDivisor sX0_commonDivisor := by
  refine xcon_of okX0_commonDivisor hX0_commonDivisor rfl hhX0_commonDivisor kkX0_commonDivisor ?_
  rintro as n0 I L P Q ⟨hn9, rfl, a0, b0, rfl, ha0, hb0, hQ⟩
  obtain ⟨e9, rfl⟩ := xe9 hn9
  refine ⟨Nat.le_of_ble_eq_true rfl, ?_⟩
  have loop : ∀ f a b, f ≤ 128 → a < 2 ^ 62 → b < 2 ^ 62 → gcF f a b = Nat.gcd a0 b0 → xGo mX0_commonDivisor csX0_commonDivisor 9 Q [some (.long (lN a0)), none, some (.long (lN b0)), none, some (.long (lN a)), none, some (.long (lN b)), none, some (.int (nI (128 - f))), none, none] [] 0 (e9 + 26) I L xP0 := by
    intro f
    induction f with
    | zero =>
      intro a b _ _ _ hg
      refine xrun okX0_commonDivisor hhX0_commonDivisor [] 60 ?_
      repeat (first | (refine xbr_f ?_ ?_; (focus ((simp (disch := omega) only [ix_lt, ix_le, ix_eq, ix_0, nI_clamp, nI_toInt, ng_T, nI_add, nI_mul, nI_sub', Int.neg_zero, not_false_eq_true, not_true_eq_false] <;> omega); done))) | (refine xbr_t ?_ ?_; (focus ((simp (disch := omega) only [ix_lt, ix_le, ix_eq, ix_0, nI_clamp, nI_toInt, ng_T, nI_add, nI_mul, nI_sub', Int.neg_zero, not_false_eq_true, not_true_eq_false] <;> omega); done))) | refine ⟨Or.inl rfl, ?_⟩ | refine ⟨Or.inr rfl, ?_⟩ | (refine ⟨?_, ?_⟩; (focus (exact in_nI (by omega) (by omega)))))
      have e : a = Nat.gcd a0 b0 := hg
      rw [← e] at hQ
      exact hQ
    | succ f ih =>
      intro a b hf ha hb hg
      refine xrun okX0_commonDivisor hhX0_commonDivisor [(9, [true, false, true, false, true, false, true, false, true, false, false])] 60 ?_
      (first | (refine xbr_f ?_ ?_; (focus ((simp (disch := omega) only [ix_lt, ix_le, ix_eq, ix_0, nI_clamp, nI_toInt, ng_T, nI_add, nI_mul, nI_sub', Int.neg_zero, not_false_eq_true, not_true_eq_false] <;> omega); done))) | (refine xbr_t ?_ ?_; (focus ((simp (disch := omega) only [ix_lt, ix_le, ix_eq, ix_0, nI_clamp, nI_toInt, ng_T, nI_add, nI_mul, nI_sub', Int.neg_zero, not_false_eq_true, not_true_eq_false] <;> omega); done))) | refine ⟨Or.inl rfl, ?_⟩ | refine ⟨Or.inr rfl, ?_⟩ | (refine ⟨?_, ?_⟩; (focus (exact in_nI (by omega) (by omega)))))
      by_cases h0 : b = 0
      · subst h0
        have e : lg_cmp (lN 0) (lN 0) = 0 := by decide
        (first | refine xbr_t e ?_ | refine xbr_f e ?_)
        rw [gcF_0] at hg
        rw [← hg] at hQ
        exact hQ
      · have e : ¬ lg_cmp (lN b) (lN 0) = 0 := by rw [lg_e (by omega) (by omega)]; exact h0
        (first | refine xbr_t e ?_ | refine xbr_f e ?_)
        have e1 : gcF (f + 1) a b = gcF f b (a % b) := if_neg h0
        have hm : a % b < b := Nat.mod_lt _ (by omega)
        refine ⟨by rw [show (0 : Int64) = lN 0 from rfl, pk_lEQ (by omega) (by omega)]; exact h0, ?_⟩
        have e2 : lN a - lN a / lN b * lN b = lN (a % b) := pk_lRem (by omega) (by omega) (by omega)
        have e4 : 128 - (f + 1) + 1 = 128 - f := by omega
        refine xgo_eq (ih b (a % b) (by omega) hb (by omega) (by rw [← e1]; exact hg)) ?_ rfl rfl
        ((repeat' (first | (with_reducible rfl) | exact xv_nil | refine xv_cons ?_ ?_ | refine xv_i ?_ | refine xv_l ?_)) <;> (simp (disch := omega) only [↓reduceIte, Bool.false_eq_true, Nat.one_mul, Nat.zero_mul, Nat.or_zero, Nat.add_zero, Nat.zero_add, Bool.toNat_true, Bool.toNat_false, shl_n, shr_n, fa_and, fa_or, nx_xor, nI_add, nI_mul, nI_sub', and_1, and_7, and_3', and_15, e2, e4]))
  refine xrun okX0_commonDivisor hhX0_commonDivisor [(9, [true, false, true, false, true, false, true, false, true, false, false])] 60 ?_
  exact loop 128 a0 b0 (Nat.le_refl _) ha0 hb0 (gcF_ok 62 128 a0 b0 hb0 (by decide))
def csX0_keepLowest : xCs := [(mX0_commonDivisor, sX0_commonDivisor)]
theorem okX0_keepLowest : xOkM mX0_keepLowest csX0_keepLowest := ⟨dX0_keepLowest, by decide +kernel, by decide +kernel, ⟨wdX0_58, ⟨wdX0_9, fun h => Bool.noConfusion h⟩, ⟨wdX0_15, fun h => Bool.noConfusion h⟩, trivial⟩⟩
theorem hhX0_keepLowest : ∀ q ∈ csX0_keepLowest, xHd q.1 := xall1 hX0_commonDivisor (xall0)
theorem kkX0_keepLowest : ∀ q ∈ csX0_keepLowest, ∀ l, xCon l q.1 q.2 := xall1 kX0_commonDivisor (xall0)
def sX0_keepLowest : xSpec := xReg fun as I L Q => ∃ a b : Nat, as = [.ref 19, .long (lN a), .long (lN b)] ∧ a < 2 ^ 62 ∧ b < 2 ^ 62 ∧ 0 < b ∧ Q none I (xup (xup L 19 0 (lN (a / Nat.gcd a b))) 19 1 (lN (b / Nat.gcd a b)))
set_option maxRecDepth 100000 in
theorem kX0_keepLowest : ∀ l, xCon l mX0_keepLowest sX0_keepLowest := by
  refine xcon_of okX0_keepLowest hX0_keepLowest rfl hhX0_keepLowest kkX0_keepLowest ?_
  rintro as n0 I L P Q ⟨hn9, rfl, a, b, rfl, ha, hb, h0, hQ⟩
  obtain ⟨e9, rfl⟩ := xe9 hn9
  refine ⟨Nat.le_of_ble_eq_true rfl, ?_⟩
  refine xrun okX0_keepLowest hhX0_keepLowest [] 60 ?_
  refine ⟨rfl, rfl, a, b, rfl, ha, hb, ?_⟩
  have hg : 0 < Nat.gcd a b := Nat.gcd_pos_of_pos_right a h0
  have hl : Nat.gcd a b ≤ b := Nat.gcd_le_right a h0
  have e : 0 < lg_cmp (lN (Nat.gcd a b)) (lN 0) := by
    rw [lg_cmp_gt, pk_lLT (by omega) (by omega)]
    exact hg
  have en : ¬ lN (Nat.gcd a b) = 0 := by rw [show (0 : Int64) = lN 0 from rfl, pk_lEQ (by omega) (by omega)]; omega
  (first | refine xbr_t e ?_ | refine xbr_f e ?_)
  refine ⟨en, en, ?_⟩
  rw [← pk_lDiv (by omega) hg (by omega), ← pk_lDiv (by omega) hg (by omega)] at hQ
  exact hQ
