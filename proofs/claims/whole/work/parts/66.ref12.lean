/-! THE REFERENCE, 12: chances -/
theorem xrw_xrw {α : Type} (J : Nat → Nat → α) (k : Nat) (f g : Nat → α) : xrw (xrw J k f) k g = xrw J k g := by
  funext c
  by_cases h : c = k
  · subst h
    rw [xrw_s, xrw_s]
  · rw [xrw_c _ _ _ h, xrw_c _ _ _ h, xrw_c _ _ _ h]
def smN (f : Nat → Nat) : Nat → Nat
  | 0 => 0
  | n + 1 => smN f n + f n
theorem smN_s (f : Nat → Nat) (n : Nat) : smN f (n + 1) = smN f n + f n := rfl
theorem smN_cong {f g : Nat → Nat} : ∀ {n}, (∀ i, i < n → f i = g i) → smN f n = smN g n
  | 0, _ => rfl
  | n + 1, h => by rw [smN_s, smN_s, smN_cong (fun i hi => h i (by omega)), h n (by omega)]
theorem smN_0 (f : Nat → Nat) : ∀ n, smN f (n + 1) = f 0 + smN (fun s => f (s + 1)) n
  | 0 => by
    show 0 + f 0 = f 0 + 0
    omega
  | n + 1 => by
    rw [smN_s, smN_0 f n, smN_s]
    omega
theorem smN_rev (f : Nat → Nat) : ∀ n, smN (fun s => f (n - 1 - s)) n = smN f n
  | 0 => rfl
  | n + 1 => by
    rw [smN_0, smN_s]
    show f (n + 1 - 1 - 0) + smN (fun s => f (n + 1 - 1 - (s + 1))) n = _
    rw [show n + 1 - 1 - 0 = n by omega, smN_cong (g := fun s => f (n - 1 - s)) (fun i hi => by
      show f (n + 1 - 1 - (i + 1)) = f (n - 1 - i)
      rw [show n + 1 - 1 - (i + 1) = n - 1 - i by omega]), smN_rev f n]
    omega
def paN (s p : Nat) : Nat → Nat
  | 0 => 1
  | i + 1 => paN s p i * (if tbB s i then p else 12 - p)
theorem paN_ok (s p : Nat) : ∀ n, paN s p n = p ^ pcf n s * (12 - p) ^ (n - pcf n s)
  | 0 => rfl
  | n + 1 => by
    have hl := pcf_le n s
    have e : pcf (n + 1) s = pcf n s + s / 2 ^ n % 2 := by
      rw [pcf_split n 1 s]
      show pcf n s + (s / 2 ^ n % 2 + 0) = _
      omega
    show paN s p n * (if tbB s n then p else 12 - p) = _
    rw [paN_ok s p n, e]
    unfold tbB
    by_cases h : s / 2 ^ n % 2 = 1
    · rw [decide_eq_true h, if_pos rfl, h, show n + 1 - (pcf n s + 1) = n - pcf n s by omega, Nat.pow_succ, Nat.mul_right_comm]
    · rw [decide_eq_false h, if_neg (by decide), show s / 2 ^ n % 2 = 0 by omega, Nat.add_zero, show n + 1 - pcf n s = n - pcf n s + 1 by omega, Nat.pow_succ, Nat.mul_assoc]
theorem cmp_pc : ∀ n, n < 5 → ∀ s, s < 16 → s < 2 ^ n → pcf 32 (2 ^ n - 1 - s) = n - pcf n s := by decide +kernel
theorem cmp_tb : ∀ n, n < 5 → ∀ s, s < 16 → s < 2 ^ n → ∀ i, i < 4 → i < n → tbB (2 ^ n - 1 - s) i = !tbB s i := by decide +kernel
theorem pa_we {d : PD} (hd : d.ok) {s p : Nat} (hs : s < 2 ^ d.nA) : paN s p d.nA = weN d (2 ^ d.nA - 1 - s) p := by
  have h4 := hd.a4
  have h16 := p16_le h4
  have hl := pcf_le d.nA s
  unfold weN
  rw [paN_ok, cmp_pc d.nA (by omega) s (by omega) hs, show d.nA - (d.nA - pcf d.nA s) = pcf d.nA s by omega]
theorem pa_le {d : PD} (hd : d.ok) {s p : Nat} (hs : s < 2 ^ d.nA) (hp : p ≤ 12) : paN s p d.nA ≤ 20736 := by
  have h1 := Nat.two_pow_pos d.nA
  rw [pa_we hd hs]
  exact weN_le hd (by omega) hp
def csX11_part : xCs := []
theorem okX11_part : xOkM mX11_part csX11_part := ⟨dX11_part, by decide +kernel, by decide +kernel, ⟨wdX11_118, trivial⟩⟩
theorem hhX11_part : ∀ q ∈ csX11_part, xHd q.1 := xall0
theorem kkX11_part : ∀ q ∈ csX11_part, ∀ l, xCon l q.1 q.2 := xall0
def sX11_part : xSpec := xReg fun as I L Q => ∃ (d : PD) (s p : Nat), as = [.ref 27, .int (nI s), .int (nI p)] ∧ pdR d I ∧ s < 16 ∧ p ≤ 12 ∧ Q (some (.long (lN (paN s p d.nA)))) I L
set_option maxRecDepth 100000 in
theorem kX11_part : ∀ l, xCon l mX11_part sX11_part := by
  refine xcon_of okX11_part hX11_part rfl (by decide) hhX11_part kkX11_part ?_
  rintro as n0 I L P Q ⟨rfl, rfl, d, s, p, rfl, hP, hs, hp, hQ⟩
  refine ⟨Nat.le_of_ble_eq_true rfl, ?_⟩
  have ha := hP.a
  have h4 := hP.ok.a4
  refine xrun okX11_part hhX11_part [(5, [true, true, true, true, false, true])] 60 ?_
  refine xlp (M := mX11_part) (cs := csX11_part) (pc := 5) d.nA (fun i => [some (.ref 27), some (.int (nI s)), some (.int (nI p)), some (.long (lN (paN s p i))), none, some (.int (nI i))]) (fun _ => I) (fun _ => L) ?_ ?_
  · intro i hi ih
    refine xrun okX11_part hhX11_part [(5, [true, true, true, true, false, true])] 60 ?_
    have es : paN s p (i + 1) = paN s p i * (if tbB s i then p else 12 - p) := rfl
    have el := nI_l (n := p) (by omega)
    have el2 : (nI (12 - p)).toInt64 = lN (12 - p) := nI_l (by omega)
    (first | (refine xbr_f ?_ ?_; (focus ((simp (disch := omega) only [ix_lt, ix_le, ix_eq, ix_0, nI_clamp, nI_toInt, ng_T, nI_add, nI_mul, nI_sub', Int.neg_zero, not_false_eq_true, not_true_eq_false, ha] <;> omega); done))) | (refine xbr_t ?_ ?_; (focus ((simp (disch := omega) only [ix_lt, ix_le, ix_eq, ix_0, nI_clamp, nI_toInt, ng_T, nI_add, nI_mul, nI_sub', Int.neg_zero, not_false_eq_true, not_true_eq_false, ha] <;> omega); done))) | refine ⟨Or.inl rfl, ?_⟩ | refine ⟨Or.inr rfl, ?_⟩ | (refine ⟨?_, ?_⟩; (focus ((try simp (disch := omega) only [ha, nI_mul, nI_add, nI_sub']); exact in_nI (by omega) (by omega)))))
    cases ht : tbB s i
    · have eb : (nI s >>> (nI i &&& 31)) &&& nI 1 = nI 0 := by
        rw [bit_i (show s < 2 ^ 31 by omega) (show i < 32 by omega), ht]
        rfl
      rw [ht, if_neg (by decide)] at es
      (first | (refine xbr_f ?_ ?_; (focus ((simp (disch := omega) only [ix_lt, ix_le, ix_eq, ix_0, nI_clamp, nI_toInt, ng_T, nI_add, nI_mul, nI_sub', Int.neg_zero, not_false_eq_true, not_true_eq_false, eb] <;> omega); done))) | (refine xbr_t ?_ ?_; (focus ((simp (disch := omega) only [ix_lt, ix_le, ix_eq, ix_0, nI_clamp, nI_toInt, ng_T, nI_add, nI_mul, nI_sub', Int.neg_zero, not_false_eq_true, not_true_eq_false, eb] <;> omega); done))) | refine ⟨Or.inl rfl, ?_⟩ | refine ⟨Or.inr rfl, ?_⟩ | (refine ⟨?_, ?_⟩; (focus ((try simp (disch := omega) only [eb, nI_mul, nI_add, nI_sub']); exact in_nI (by omega) (by omega)))))
      refine xgo_eq ih ?_ rfl rfl
      rw [es]
      ((repeat' (first | (with_reducible rfl) | exact xv_nil | refine xv_cons ?_ ?_ | refine xv_i ?_ | refine xv_l ?_)) <;> (simp (disch := omega) only [↓reduceIte, Bool.false_eq_true, Nat.one_mul, Nat.zero_mul, Nat.or_zero, Nat.add_zero, Nat.zero_add, Bool.toNat_true, Bool.toNat_false, shl_n, shr_n, fa_and, fa_or, nx_xor, nI_add, nI_mul, nI_sub', and_1, and_7, and_3', and_15, el2, lN_mul]))
    · have eb : (nI s >>> (nI i &&& 31)) &&& nI 1 = nI 1 := by
        rw [bit_i (show s < 2 ^ 31 by omega) (show i < 32 by omega), ht]
        rfl
      rw [ht, if_pos rfl] at es
      (first | (refine xbr_f ?_ ?_; (focus ((simp (disch := omega) only [ix_lt, ix_le, ix_eq, ix_0, nI_clamp, nI_toInt, ng_T, nI_add, nI_mul, nI_sub', Int.neg_zero, not_false_eq_true, not_true_eq_false, eb] <;> omega); done))) | (refine xbr_t ?_ ?_; (focus ((simp (disch := omega) only [ix_lt, ix_le, ix_eq, ix_0, nI_clamp, nI_toInt, ng_T, nI_add, nI_mul, nI_sub', Int.neg_zero, not_false_eq_true, not_true_eq_false, eb] <;> omega); done))) | refine ⟨Or.inl rfl, ?_⟩ | refine ⟨Or.inr rfl, ?_⟩ | (refine ⟨?_, ?_⟩; (focus ((try simp (disch := omega) only [eb, nI_mul, nI_add, nI_sub']); exact in_nI (by omega) (by omega)))))
      refine xgo_eq ih ?_ rfl rfl
      rw [es]
      ((repeat' (first | (with_reducible rfl) | exact xv_nil | refine xv_cons ?_ ?_ | refine xv_i ?_ | refine xv_l ?_)) <;> (simp (disch := omega) only [↓reduceIte, Bool.false_eq_true, Nat.one_mul, Nat.zero_mul, Nat.or_zero, Nat.add_zero, Nat.zero_add, Bool.toNat_true, Bool.toNat_false, shl_n, shr_n, fa_and, fa_or, nx_xor, nI_add, nI_mul, nI_sub', and_1, and_7, and_3', and_15, el, lN_mul]))
  · refine xrun okX11_part hhX11_part [] 60 ?_
    (first | (refine xbr_f ?_ ?_; (focus ((simp (disch := omega) only [ix_lt, ix_le, ix_eq, ix_0, nI_clamp, nI_toInt, ng_T, nI_add, nI_mul, nI_sub', Int.neg_zero, not_false_eq_true, not_true_eq_false, ha] <;> omega); done))) | (refine xbr_t ?_ ?_; (focus ((simp (disch := omega) only [ix_lt, ix_le, ix_eq, ix_0, nI_clamp, nI_toInt, ng_T, nI_add, nI_mul, nI_sub', Int.neg_zero, not_false_eq_true, not_true_eq_false, ha] <;> omega); done))) | refine ⟨Or.inl rfl, ?_⟩ | refine ⟨Or.inr rfl, ?_⟩ | (refine ⟨?_, ?_⟩; (focus ((try simp (disch := omega) only [ha, nI_mul, nI_add, nI_sub']); exact in_nI (by omega) (by omega)))))
    exact hQ
def csX11_allParts : xCs := []
theorem okX11_allParts : xOkM mX11_allParts csX11_allParts := ⟨dX11_allParts, by decide +kernel, by decide +kernel, ⟨wdX11_118, wdX11_282, trivial⟩⟩
theorem hhX11_allParts : ∀ q ∈ csX11_allParts, xHd q.1 := xall0
theorem kkX11_allParts : ∀ q ∈ csX11_allParts, ∀ l, xCon l q.1 q.2 := xall0
def sX11_allParts : xSpec := xReg fun as I L Q => ∃ (d : PD), as = [.ref 27] ∧ pdR d I ∧ Q (some (.long (lN (12 ^ d.nA)))) I L
set_option maxRecDepth 100000 in
theorem kX11_allParts : ∀ l, xCon l mX11_allParts sX11_allParts := by
  refine xcon_of okX11_allParts hX11_allParts rfl (by decide) hhX11_allParts kkX11_allParts ?_
  rintro as n0 I L P Q ⟨rfl, rfl, d, rfl, hP, hQ⟩
  refine ⟨Nat.le_of_ble_eq_true rfl, ?_⟩
  have ha := hP.a
  have h4 := hP.ok.a4
  refine xrun okX11_allParts hhX11_allParts [(4, [true, true, false, true])] 60 ?_
  refine xlp (M := mX11_allParts) (cs := csX11_allParts) (pc := 4) d.nA (fun i => [some (.ref 27), some (.long (lN (12 ^ i))), none, some (.int (nI i))]) (fun _ => I) (fun _ => L) ?_ ?_
  · intro i hi ih
    refine xrun okX11_allParts hhX11_allParts [(4, [true, true, false, true])] 60 ?_
    (first | (refine xbr_f ?_ ?_; (focus ((simp (disch := omega) only [ix_lt, ix_le, ix_eq, ix_0, nI_clamp, nI_toInt, ng_T, nI_add, nI_mul, nI_sub', Int.neg_zero, not_false_eq_true, not_true_eq_false, ha] <;> omega); done))) | (refine xbr_t ?_ ?_; (focus ((simp (disch := omega) only [ix_lt, ix_le, ix_eq, ix_0, nI_clamp, nI_toInt, ng_T, nI_add, nI_mul, nI_sub', Int.neg_zero, not_false_eq_true, not_true_eq_false, ha] <;> omega); done))) | refine ⟨Or.inl rfl, ?_⟩ | refine ⟨Or.inr rfl, ?_⟩ | (refine ⟨?_, ?_⟩; (focus ((try simp (disch := omega) only [ha, nI_mul, nI_add, nI_sub']); exact in_nI (by omega) (by omega)))))
    refine xgo_eq ih ?_ rfl rfl
    ((repeat' (first | (with_reducible rfl) | exact xv_nil | refine xv_cons ?_ ?_ | refine xv_i ?_ | refine xv_l ?_)) <;> (simp (disch := omega) only [↓reduceIte, Bool.false_eq_true, Nat.one_mul, Nat.zero_mul, Nat.or_zero, Nat.add_zero, Nat.zero_add, Bool.toNat_true, Bool.toNat_false, shl_n, shr_n, fa_and, fa_or, nx_xor, nI_add, nI_mul, nI_sub', and_1, and_7, and_3', and_15, lN_mul, Nat.pow_succ]))
  · refine xrun okX11_allParts hhX11_allParts [] 60 ?_
    (first | (refine xbr_f ?_ ?_; (focus ((simp (disch := omega) only [ix_lt, ix_le, ix_eq, ix_0, nI_clamp, nI_toInt, ng_T, nI_add, nI_mul, nI_sub', Int.neg_zero, not_false_eq_true, not_true_eq_false, ha] <;> omega); done))) | (refine xbr_t ?_ ?_; (focus ((simp (disch := omega) only [ix_lt, ix_le, ix_eq, ix_0, nI_clamp, nI_toInt, ng_T, nI_add, nI_mul, nI_sub', Int.neg_zero, not_false_eq_true, not_true_eq_false, ha] <;> omega); done))) | refine ⟨Or.inl rfl, ?_⟩ | refine ⟨Or.inr rfl, ?_⟩ | (refine ⟨?_, ?_⟩; (focus ((try simp (disch := omega) only [ha, nI_mul, nI_add, nI_sub']); exact in_nI (by omega) (by omega)))))
    exact hQ
def csX11_fraction : xCs := []
theorem okX11_fraction : xOkM mX11_fraction csX11_fraction := ⟨dX11_fraction, by decide +kernel, by decide +kernel, ⟨⟨wdX11_85, fun h => Bool.noConfusion h⟩, ⟨wdX11_74, fun h => Bool.noConfusion h⟩, trivial⟩⟩
theorem hhX11_fraction : ∀ q ∈ csX11_fraction, xHd q.1 := xall0
theorem kkX11_fraction : ∀ q ∈ csX11_fraction, ∀ l, xCon l q.1 q.2 := xall0
def sX11_fraction : xSpec := xReg fun as I L Q => ∃ a b : Nat, as = [.ref 27, .long (lN a), .long (lN b)] ∧ a < 2 ^ 62 ∧ b < 2 ^ 62 ∧ 0 < b ∧ Q none I (xup (xup L 27 1 (lN (a / Nat.gcd a b))) 27 2 (lN (b / Nat.gcd a b)))
set_option maxRecDepth 100000 in
theorem kX11_fraction : ∀ l, xCon l mX11_fraction sX11_fraction := by
  refine xcon_of okX11_fraction hX11_fraction rfl (by decide) hhX11_fraction kkX11_fraction ?_
  rintro as n0 I L P Q ⟨rfl, rfl, a, b, rfl, ha, hb, h0, hQ⟩
  refine ⟨Nat.le_of_ble_eq_true rfl, ?_⟩
  have hg : 0 < Nat.gcd a b := Nat.gcd_pos_of_pos_right a h0
  have hl : Nat.gcd a b ≤ b := Nat.gcd_le_right a h0
  have loop : ∀ m x y, y < m → x < 2 ^ 62 → y < 2 ^ 62 → Nat.gcd x y = Nat.gcd a b → xGo mX11_fraction csX11_fraction 6 Q [some (.ref 27), some (.long (lN a)), none, some (.long (lN b)), none, some (.long (lN x)), none, some (.long (lN y)), none, none, none] [] 0 xN I L xP0 := by
    intro m
    induction m with
    | zero => intro x y h; exact absurd h (Nat.not_lt_zero _)
    | succ m ih =>
      intro x y hm hx hy hgc
      refine xrun okX11_fraction hhX11_fraction [(6, [true, true, false, true, false, true, false, true, false, false, false])] 60 ?_
      by_cases hy0 : y = 0
      · subst hy0
        have e : lg_cmp (lN 0) (lN 0) = 0 := by decide
        rw [Nat.gcd_zero_right] at hgc
        have en : ¬ lN x = 0 := by rw [show (0 : Int64) = lN 0 from rfl, pk_lEQ (by omega) (by omega)]; omega
        (first | refine xbr_t e ?_ | refine xbr_f e ?_)
        refine ⟨en, en, ?_⟩
        rw [← hgc, ← pk_lDiv (by omega) (by omega) (by omega), ← pk_lDiv (by omega) (by omega) (by omega)] at hQ
        exact hQ
      · have e : ¬ lg_cmp (lN y) (lN 0) = 0 := by rw [lg_e (by omega) (by omega)]; exact hy0
        (first | refine xbr_t e ?_ | refine xbr_f e ?_)
        have hmd : x % y < y := Nat.mod_lt _ (by omega)
        refine ⟨by rw [show (0 : Int64) = lN 0 from rfl, pk_lEQ (by omega) (by omega)]; exact hy0, ?_⟩
        have e2 : lN x - lN x / lN y * lN y = lN (x % y) := pk_lRem (by omega) (by omega) (by omega)
        refine xgo_eq (ih y (x % y) (by omega) hy (by omega) ?_) ?_ rfl rfl
        · rw [← hgc, Nat.gcd_comm x y, Nat.gcd_rec y x, Nat.gcd_comm]
        · ((repeat' (first | (with_reducible rfl) | exact xv_nil | refine xv_cons ?_ ?_ | refine xv_i ?_ | refine xv_l ?_)) <;> (simp (disch := omega) only [↓reduceIte, Bool.false_eq_true, Nat.one_mul, Nat.zero_mul, Nat.or_zero, Nat.add_zero, Nat.zero_add, Bool.toNat_true, Bool.toNat_false, shl_n, shr_n, fa_and, fa_or, nx_xor, nI_add, nI_mul, nI_sub', and_1, and_7, and_3', and_15, e2]))
  refine xrun okX11_fraction hhX11_fraction [(6, [true, true, false, true, false, true, false, true, false, false, false])] 60 ?_
  exact loop (b + 1) a b (by omega) ha hb rfl
theorem gone_bit {d : PD} (hd : d.ok) (X w l : Nat) : ∀ p, p ≤ 4 → tbB (tkN d X 27 w p).2 l = decide (¬ ffN (tkC d X w l) p = 0)
  | 0, _ => by
    show tbB 0 l = false
    rw [tbB_bit, Nat.zero_testBit]
  | p + 1, hp => by
    have ih := gone_bit hd X w l p (by omega)
    rw [tk27_s d X w (show p < 4 by omega), ffN_s]
    by_cases h0 : coN d X w p = 0
    · have ht : ¬ tkC d X w l p = true := fun q => by
        have := of_decide_eq_true q
        omega
      rw [if_pos h0, if_neg ht, ih]
      by_cases hf : ffN (tkC d X w l) p = 0
      · rw [if_pos hf, hf]
      · rw [if_neg hf]
    · rw [if_neg h0]
      show tbB ((tkN d X 27 w p).2 ||| 2 ^ (coN d X w p - 1)) l = _
      rw [tbB_bit, Nat.testBit_or, ← tbB_bit, ih, Nat.testBit_two_pow]
      by_cases hc : coN d X w p = l + 1
      · have ht : tkC d X w l p = true := decide_eq_true hc
        rw [if_pos ht, decide_eq_true (show coN d X w p - 1 = l by omega), Bool.or_true]
        by_cases hf : ffN (tkC d X w l) p = 0
        · rw [if_pos hf, decide_eq_true (Nat.succ_ne_zero p)]
        · rw [if_neg hf, decide_eq_true hf]
      · have ht : ¬ tkC d X w l p = true := fun q => hc (of_decide_eq_true q)
        rw [if_neg ht, decide_eq_false (show ¬ coN d X w p - 1 = l by omega), Bool.or_false]
        by_cases hf : ffN (tkC d X w l) p = 0
        · rw [if_pos hf, hf]
        · rw [if_neg hf]
def otF (d : PD) (X l p w : Nat) : Nat := if tkrN (tkN d X 27 w d.nA).1 l = 0 then 0 else weN d w p
def ohF (d : PD) (X p w : Nat) : Nat := pcf 32 (bsN (hmB d (goN d X (tkN d X 27 w d.nA).1 d.nA)) d.nL) * weN d w p
theorem ot_sm (d : PD) (X l p : Nat) : ∀ n, otN d X l p n = smN (otF d X l p) n
  | 0 => rfl
  | n + 1 => by
    show otN d X l p n + _ = _
    rw [ot_sm d X l p n]
    rfl
theorem oh_sm (d : PD) (X p : Nat) : ∀ n, ohN d X p n = smN (ohF d X p) n
  | 0 => rfl
  | n + 1 => by
    show ohN d X p n + _ = _
    rw [oh_sm d X p n]
    rfl
theorem smN_le {f : Nat → Nat} {b : Nat} : ∀ {n : Nat}, (∀ i, i < n → f i ≤ b) → smN f n ≤ b * n
  | 0, _ => Nat.le_refl 0
  | n + 1, h => by
    have h1 : smN f n ≤ b * n := smN_le (fun i hi => h i (Nat.lt_succ_of_lt hi))
    have h2 := h n (Nat.lt_succ_self n)
    rw [smN_s, Nat.mul_add, Nat.mul_one]
    omega
def csX11_odds : xCs := [(mX11_isLoad, sX11_isLoad), (mX11_in, sX11_in), (mX11_takesAll, sX11_takesAll), (mX11_part, sX11_part), (mX11_allParts, sX11_allParts), (mX11_fraction, sX11_fraction)]
theorem okX11_odds : xOkM mX11_odds csX11_odds := ⟨dX11_odds, by decide +kernel, by decide +kernel, ⟨wdX11_211, wdX11_282, wdX11_90, wdX11_118, wdX11_149, wdX11_284, wdX11_288, wdX11_291, trivial⟩⟩
theorem hhX11_odds : ∀ q ∈ csX11_odds, xHd q.1 := xall1 hX11_isLoad (xall1 hX11_in (xall1 hX11_takesAll (xall1 hX11_part (xall1 hX11_allParts (xall1 hX11_fraction (xall0))))))
theorem kkX11_odds : ∀ q ∈ csX11_odds, ∀ l, xCon l q.1 q.2 := xall1 kX11_isLoad (xall1 kX11_in (xall1 kX11_takesAll (xall1 kX11_part (xall1 kX11_allParts (xall1 kX11_fraction (xall0))))))
def sX11_odds : xSpec := xReg fun as I L Q => ∃ (S : ST) (l n o : Int32) (S' : ST), as = [.ref 27, .int l, .int n] ∧ oddsR S l n o S' ∧ Ref S I L ∧ (∀ I' L', frM I L I' L' → Ref S' I' L' → Q (some (.int o)) I' L')
set_option maxRecDepth 100000 in
theorem kX11_odds : ∀ l, xCon l mX11_odds sX11_odds := by
  refine xcon_of okX11_odds hX11_odds rfl (by decide) hhX11_odds kkX11_odds ?_
  rintro as n0 I L P Q ⟨rfl, rfl, S, l, n, o, S', rfl, hR, hC, hQ⟩
  refine ⟨Nat.le_of_ble_eq_true rfl, ?_⟩
  have h5 := hC.pd.ok.l5
  have h4 := hC.pd.ok.a4
  have hA := hC.pd.a
  have h16 := p16_le h4
  refine xrun okX11_odds hhX11_odds [(27, [true, true, true, true, false, true])] 60 ?_
  refine ⟨rfl, rfl, S.d, l, rfl, hC.pd, ?_⟩
  rcases hR with ⟨h, rfl, rfl⟩ | ⟨a, m, rfl, ha, rfl, hm, rfl, rfl⟩
  · obtain ⟨S, rfl⟩ : ∃ S, S = S' := ⟨S', rfl⟩
    have done := hQ _ _ (frM_0 _ _) hC
    cases hb : ibB l S.d.nL
    · (first | refine xbr_t (by decide) ?_ | refine xbr_f (by decide) ?_)
      exact done
    · (first | refine xbr_t (by decide) ?_ | refine xbr_f (by decide) ?_)
      refine ⟨rfl, rfl, _, _, _, n, nI 0, nI 12, rfl, rfl, by decide, by decide, ?_⟩
      rw [in_c (by decide)]
      cases hw : ibB n 13
      · (first | refine xbr_t (by decide) ?_ | refine xbr_f (by decide) ?_)
        exact done
      · exact absurd ⟨hb, hw⟩ h
  · rw [ib_tt ha (by omega)]
    (first | refine xbr_t (by decide) ?_ | refine xbr_f (by decide) ?_)
    refine ⟨rfl, rfl, _, _, _, nI m, nI 0, nI 12, rfl, rfl, by decide, by decide, ?_⟩
    rw [in_c (by decide), ib_tt hm (by decide)]
    (first | refine xbr_t (by decide) ?_ | refine xbr_f (by decide) ?_)
    have esh : ∀ f, nI 1 <<< (xrw I 38 f 27 10 &&& 31) = nI (2 ^ S.d.nA) := fun f => by
      show nI 1 <<< (I 27 10 &&& 31) = _
      rw [hA, shl_n _ (by omega), Nat.one_mul]
    have hF : ∀ s, s < 2 ^ S.d.nA → otF S.d S.D.X a m (2 ^ S.d.nA - 1 - s) = (if tkrN (tkN S.d S.D.X 27 (2 ^ S.d.nA - 1 - s) S.d.nA).1 a = 0 then 0 else 1) * paN s m S.d.nA := fun s hs => by
      rw [pa_we hC.ok.d hs]
      unfold otF
      split
      · rw [Nat.zero_mul]
      · rw [Nat.one_mul]
    have hFle : ∀ s, s < 2 ^ S.d.nA → otF S.d S.D.X a m (2 ^ S.d.nA - 1 - s) ≤ 20736 := fun s hs => by
      have := pa_le hC.ok.d hs (show m ≤ 12 by omega)
      rw [hF s hs]
      split <;> omega
    refine xlpW (M := mX11_odds) (cs := csX11_odds) (pc := 27) (2 ^ S.d.nA) (fun s => [some (.ref 27), some (.int (nI a)), some (.int (nI m)), some (.long (lN (smN (fun s => otF S.d S.D.X a m (2 ^ S.d.nA - 1 - s)) s))), none, some (.int (nI s))]) (fun s I' L' => L = L' ∧ ∃ f, I' = xrw I 38 f) ?_ ?_ ⟨rfl, I 38, (xrw_self I 38).symm⟩
    · rintro s hs I2 L2 ⟨rfl, f, rfl⟩ ih
      refine xrun okX11_odds hhX11_odds [(27, [true, true, true, true, false, true])] 60 ?_
      have esh2 := esh f
      (first | (refine xbr_f ?_ ?_; (focus ((simp (disch := omega) only [ix_lt, ix_le, ix_eq, ix_0, nI_clamp, nI_toInt, ng_T, nI_add, nI_mul, nI_sub', Int.neg_zero, not_false_eq_true, not_true_eq_false, esh2] <;> omega); done))) | (refine xbr_t ?_ ?_; (focus ((simp (disch := omega) only [ix_lt, ix_le, ix_eq, ix_0, nI_clamp, nI_toInt, ng_T, nI_add, nI_mul, nI_sub', Int.neg_zero, not_false_eq_true, not_true_eq_false, esh2] <;> omega); done))) | refine ⟨Or.inl rfl, ?_⟩ | refine ⟨Or.inr rfl, ?_⟩ | (refine ⟨?_, ?_⟩; (focus ((try simp (disch := omega) only [esh2, nI_mul, nI_add, nI_sub']); exact in_nI (by omega) (by omega)))))
      have hg := (tkN_lt hC.ok.d S.D.X 27 (2 ^ S.d.nA - 1 - s) S.d.nA).2
      refine ⟨rfl, rfl, S.d, S.D.X, _, s, 2 ^ S.d.nA - 1 - s, rfl, hC.pd, hC.nw, by omega, fun i hi => cmp_tb S.d.nA (by omega) s (by omega) hs i (by omega) hi, fun f2 hf2 => ?_⟩
      refine ⟨rfl, rfl, S.d, s, m, rfl, hC.pd, by omega, by omega, ?_⟩
      have eb : (tkN S.d S.D.X 27 (2 ^ S.d.nA - 1 - s) S.d.nA).2 / 2 ^ a % 2 = (if tkrN (tkN S.d S.D.X 27 (2 ^ S.d.nA - 1 - s) S.d.nA).1 a = 0 then 0 else 1) := by
        have hgb := gone_bit hC.ok.d S.D.X (2 ^ S.d.nA - 1 - s) a S.d.nA h4
        rw [← tkr_ok hC.ok.d] at hgb
        unfold tbB at hgb
        by_cases hz : tkrN (tkN S.d S.D.X 27 (2 ^ S.d.nA - 1 - s) S.d.nA).1 a = 0
        · have e2 : decide (¬ tkrN (tkN S.d S.D.X 27 (2 ^ S.d.nA - 1 - s) S.d.nA).1 a = 0) = false := decide_eq_false (fun q => q hz)
          have := of_decide_eq_false (hgb.trans e2)
          rw [if_pos hz]
          omega
        · have e2 : decide (¬ tkrN (tkN S.d S.D.X 27 (2 ^ S.d.nA - 1 - s) S.d.nA).1 a = 0) = true := decide_eq_true hz
          rw [if_neg hz]
          exact of_decide_eq_true (hgb.trans e2)
      have el := nI_l (n := if tkrN (tkN S.d S.D.X 27 (2 ^ S.d.nA - 1 - s) S.d.nA).1 a = 0 then 0 else 1) (by split <;> omega)
      refine xgo_eq (ih _ _ ⟨rfl, f2, xrw_xrw _ _ _ _⟩) ?_ rfl rfl
      rw [smN_s, hF s hs]
      ((repeat' (first | (with_reducible rfl) | exact xv_nil | refine xv_cons ?_ ?_ | refine xv_i ?_ | refine xv_l ?_)) <;> (simp (disch := omega) only [↓reduceIte, Bool.false_eq_true, Nat.one_mul, Nat.zero_mul, Nat.or_zero, Nat.add_zero, Nat.zero_add, Bool.toNat_true, Bool.toNat_false, shl_n, shr_n, fa_and, fa_or, nx_xor, nI_add, nI_mul, nI_sub', and_1, and_7, and_3', and_15, eb, el, lN_mul, lN_add]))
    · rintro I2 L2 ⟨rfl, f, rfl⟩
      refine xrun okX11_odds hhX11_odds [] 60 ?_
      have esh2 := esh f
      (first | (refine xbr_f ?_ ?_; (focus ((simp (disch := omega) only [ix_lt, ix_le, ix_eq, ix_0, nI_clamp, nI_toInt, ng_T, nI_add, nI_mul, nI_sub', Int.neg_zero, not_false_eq_true, not_true_eq_false, esh2] <;> omega); done))) | (refine xbr_t ?_ ?_; (focus ((simp (disch := omega) only [ix_lt, ix_le, ix_eq, ix_0, nI_clamp, nI_toInt, ng_T, nI_add, nI_mul, nI_sub', Int.neg_zero, not_false_eq_true, not_true_eq_false, esh2] <;> omega); done))) | refine ⟨Or.inl rfl, ?_⟩ | refine ⟨Or.inr rfl, ?_⟩ | (refine ⟨?_, ?_⟩; (focus ((try simp (disch := omega) only [esh2, nI_mul, nI_add, nI_sub']); exact in_nI (by omega) (by omega)))))
      have hs := smN_le (f := fun s => otF S.d S.D.X a m (2 ^ S.d.nA - 1 - s)) (n := 2 ^ S.d.nA) hFle
      rw [smN_rev] at hs
      rw [smN_rev]
      have h12 := p12_le h4
      refine ⟨rfl, rfl, S.d, rfl, hC.pd, ?_⟩
      refine ⟨rfl, rfl, _, _, rfl, by omega, by omega, Nat.pow_pos (by decide), ?_⟩
      have hC2 := Ref_C (Ref_s hC (scr_W (k := 38) (by omega) I L f)) (lN (smN (otF S.d S.D.X a m) (2 ^ S.d.nA) / Nat.gcd (smN (otF S.d S.D.X a m) (2 ^ S.d.nA)) (12 ^ S.d.nA))) (lN (12 ^ S.d.nA / Nat.gcd (smN (otF S.d S.D.X a m) (2 ^ S.d.nA)) (12 ^ S.d.nA)))
      have hq := hQ (xrw I 38 f) (xup (xup L 27 1 (lN (smN (otF S.d S.D.X a m) (2 ^ S.d.nA) / Nat.gcd (smN (otF S.d S.D.X a m) (2 ^ S.d.nA)) (12 ^ S.d.nA)))) 27 2 (lN (12 ^ S.d.nA / Nat.gcd (smN (otF S.d S.D.X a m) (2 ^ S.d.nA)) (12 ^ S.d.nA)))) (frM_t (frM_W (k := 38) (by decide) _ _ _) (frM_t (frM_L (k := 27) (by decide) _ _ _ _) (frM_L (k := 27) (by decide) _ _ _ _))) (by
        unfold otS
        rw [ot_sm]
        exact hC2)
      exact hq
def csX11_mid : xCs := [(mX11_in, sX11_in), (mX11_asides, sX11_asides), (mX11_takesAll, sX11_takesAll), (mX11_allGo, sX11_allGo), (mX11_atHome, sX11_atHome), (mX11_many, sX11_many), (mX11_part, sX11_part), (mX11_backs, sX11_backs), (mX11_allParts, sX11_allParts), (mX11_fraction, sX11_fraction)]
theorem okX11_mid : xOkM mX11_mid csX11_mid := ⟨dX11_mid, by decide +kernel, by decide +kernel, ⟨wdX11_282, wdX11_90, wdX11_118, wdX11_245, wdX11_118, wdX11_149, wdX11_152, wdX11_251, wdX11_126, wdX11_284, wdX11_248, wdX11_288, wdX11_291, trivial⟩⟩
theorem hhX11_mid : ∀ q ∈ csX11_mid, xHd q.1 := xall1 hX11_in (xall1 hX11_asides (xall1 hX11_takesAll (xall1 hX11_allGo (xall1 hX11_atHome (xall1 hX11_many (xall1 hX11_part (xall1 hX11_backs (xall1 hX11_allParts (xall1 hX11_fraction (xall0))))))))))
theorem kkX11_mid : ∀ q ∈ csX11_mid, ∀ l, xCon l q.1 q.2 := xall1 kX11_in (xall1 kX11_asides (xall1 kX11_takesAll (xall1 kX11_allGo (xall1 kX11_atHome (xall1 kX11_many (xall1 kX11_part (xall1 kX11_backs (xall1 kX11_allParts (xall1 kX11_fraction (xall0))))))))))
def sX11_mid : xSpec := xReg fun as I L Q => ∃ (S : ST) (p o : Int32) (S' : ST), as = [.ref 27, .int p] ∧ midR S p o S' ∧ Ref S I L ∧ (∀ I' L', frM I L I' L' → Ref S' I' L' → Q (some (.int o)) I' L')
set_option maxRecDepth 100000 in
theorem kX11_mid : ∀ l, xCon l mX11_mid sX11_mid := by
  refine xcon_of okX11_mid hX11_mid rfl (by decide) hhX11_mid kkX11_mid ?_
  rintro as n0 I L P Q ⟨rfl, rfl, S, p, o, S', rfl, hR, hC, hQ⟩
  refine ⟨Nat.le_of_ble_eq_true rfl, ?_⟩
  have h5 := hC.pd.ok.l5
  have h4 := hC.pd.ok.a4
  have hA := hC.pd.a
  have h16 := p16_le h4
  refine xrun okX11_mid hhX11_mid [(33, [true, true, true, false, true])] 60 ?_
  refine ⟨rfl, rfl, _, _, _, p, nI 0, nI 12, rfl, rfl, by decide, by decide, ?_⟩
  rw [in_c (by decide)]
  rcases hR with ⟨h, rfl, rfl⟩ | ⟨m, rfl, hm, hR⟩
  · obtain ⟨S, rfl⟩ : ∃ S, S = S' := ⟨S', rfl⟩
    rw [h]
    (first | refine xbr_t (by decide) ?_ | refine xbr_f (by decide) ?_)
    exact hQ _ _ (frM_0 _ _) hC
  · rw [ib_tt hm (by decide)]
    (first | refine xbr_t (by decide) ?_ | refine xbr_f (by decide) ?_)
    rcases hR with ⟨h, rfl, rfl⟩ | ⟨h, rfl, rfl⟩
    · rw [h] at hA
      (first | (refine xbr_f ?_ ?_; (focus ((simp (disch := omega) only [ix_lt, ix_le, ix_eq, ix_0, nI_clamp, nI_toInt, ng_T, nI_add, nI_mul, nI_sub', Int.neg_zero, not_false_eq_true, not_true_eq_false, hA] <;> omega); done))) | (refine xbr_t ?_ ?_; (focus ((simp (disch := omega) only [ix_lt, ix_le, ix_eq, ix_0, nI_clamp, nI_toInt, ng_T, nI_add, nI_mul, nI_sub', Int.neg_zero, not_false_eq_true, not_true_eq_false, hA] <;> omega); done))) | refine ⟨Or.inl rfl, ?_⟩ | refine ⟨Or.inr rfl, ?_⟩ | (refine ⟨?_, ?_⟩; (focus ((try simp (disch := omega) only [hA, nI_mul, nI_add, nI_sub']); exact in_nI (by omega) (by omega)))))
      exact hQ _ _ (frM_0 _ _) hC
    · (first | (refine xbr_f ?_ ?_; (focus ((simp (disch := omega) only [ix_lt, ix_le, ix_eq, ix_0, nI_clamp, nI_toInt, ng_T, nI_add, nI_mul, nI_sub', Int.neg_zero, not_false_eq_true, not_true_eq_false, hA] <;> omega); done))) | (refine xbr_t ?_ ?_; (focus ((simp (disch := omega) only [ix_lt, ix_le, ix_eq, ix_0, nI_clamp, nI_toInt, ng_T, nI_add, nI_mul, nI_sub', Int.neg_zero, not_false_eq_true, not_true_eq_false, hA] <;> omega); done))) | refine ⟨Or.inl rfl, ?_⟩ | refine ⟨Or.inr rfl, ?_⟩ | (refine ⟨?_, ?_⟩; (focus ((try simp (disch := omega) only [hA, nI_mul, nI_add, nI_sub']); exact in_nI (by omega) (by omega)))))
      refine ⟨rfl, rfl, rfl, fun f hf => ?_⟩
      have hFle : ∀ s, s < 2 ^ S.d.nA → ohF S.d S.D.X m (2 ^ S.d.nA - 1 - s) ≤ 103680 := fun s hs => by
        have h1 := weN_le hC.ok.d (w := 2 ^ S.d.nA - 1 - s) (p := m) (by omega) (by omega)
        have h3 := pcf_lt (bsN_lt (hmB S.d (goN S.d S.D.X (tkN S.d S.D.X 27 (2 ^ S.d.nA - 1 - s) S.d.nA).1 S.d.nA)) S.d.nL) (f := 32)
        have h6 := Nat.mul_le_mul (show pcf 32 (bsN (hmB S.d (goN S.d S.D.X (tkN S.d S.D.X 27 (2 ^ S.d.nA - 1 - s) S.d.nA).1 S.d.nA)) S.d.nL) ≤ 5 by omega) h1
        exact h6
      refine xlpW (M := mX11_mid) (cs := csX11_mid) (pc := 33) (2 ^ S.d.nA) (fun s => [some (.ref 27), some (.int (nI m)), some (.long (lN (smN (fun s => ohF S.d S.D.X m (2 ^ S.d.nA - 1 - s)) s))), none, some (.int (nI s))]) (fun s I' L' => L = L' ∧ bkI I f I') ?_ ?_ ⟨rfl, fun _ _ _ => rfl, fun k hk => (hf k hk).symm⟩
      · rintro s hs I2 L2 ⟨rfl, hd, h37⟩ ih
        refine xrun okX11_mid hhX11_mid [(33, [true, true, true, false, true])] 60 ?_
        have hP2 := pdR_d (I := xrw I 43 f) hC.pd hd
        have hN2 : nwR S.d S.D.X (pcf 64 S.D.b) (I2 37) := nwR_eq hC.pd.ok hC.nw (fun k hk => by rw [h37 k hk, hf k hk])
        have e43 : I2 43 = f := (hd 43 (by decide) (by decide)).trans (xrw_s _ _ _)
        have esh2 : nI 1 <<< (I2 27 10 &&& 31) = nI (2 ^ S.d.nA) := by rw [hP2.a, shl_n _ (by omega), Nat.one_mul]
        (first | (refine xbr_f ?_ ?_; (focus ((simp (disch := omega) only [ix_lt, ix_le, ix_eq, ix_0, nI_clamp, nI_toInt, ng_T, nI_add, nI_mul, nI_sub', Int.neg_zero, not_false_eq_true, not_true_eq_false, esh2] <;> omega); done))) | (refine xbr_t ?_ ?_; (focus ((simp (disch := omega) only [ix_lt, ix_le, ix_eq, ix_0, nI_clamp, nI_toInt, ng_T, nI_add, nI_mul, nI_sub', Int.neg_zero, not_false_eq_true, not_true_eq_false, esh2] <;> omega); done))) | refine ⟨Or.inl rfl, ?_⟩ | refine ⟨Or.inr rfl, ?_⟩ | (refine ⟨?_, ?_⟩; (focus ((try simp (disch := omega) only [esh2, nI_mul, nI_add, nI_sub']); exact in_nI (by omega) (by omega)))))
        refine ⟨rfl, rfl, S.d, S.D.X, _, s, 2 ^ S.d.nA - 1 - s, rfl, hP2, hN2, by omega, fun i hi => cmp_tb S.d.nA (by omega) s (by omega) hs i (by omega) hi, fun f2 hf2 => ?_⟩
        refine ⟨rfl, rfl, S.d, S.D.X, _, (tkN S.d S.D.X 27 (2 ^ S.d.nA - 1 - s) S.d.nA).1, rfl, hP2, hN2, hC.ok.X, tkR_get hC.ok.d hf2, fun g hg => ?_⟩
        have hd3 : dfr (xrw I 43 f) (xrw (xrw I2 38 f2) 37 g) := dfr_s hd
        have hP3 := pdR_d (I := xrw I 43 f) hC.pd hd3
        have hN3 : nwR S.d (goN S.d S.D.X (tkN S.d S.D.X 27 (2 ^ S.d.nA - 1 - s) S.d.nA).1 S.d.nA) (pcf 64 S.D.b + 1) (xrw (xrw I2 38 f2) 37 g 37) := hg
        generalize xrw (xrw I2 38 f2) 37 g = I3 at *
        refine ⟨rfl, rfl, S.d, _, _, rfl, hP3, hN3, ?_⟩
        have hb := bsN_lt (hmB S.d (goN S.d S.D.X (tkN S.d S.D.X 27 (2 ^ S.d.nA - 1 - s) S.d.nA).1 S.d.nA)) S.d.nL
        have h32 := p2_32 h5
        refine ⟨rfl, rfl, _, rfl, by omega, ?_⟩
        refine ⟨rfl, rfl, S.d, s, m, rfl, hP3, by omega, by omega, ?_⟩
        refine ⟨rfl, rfl, rfl, fun f3 hf3 => ?_⟩
        have hpc := pcf_le 32 (bsN (hmB S.d (goN S.d S.D.X (tkN S.d S.D.X 27 (2 ^ S.d.nA - 1 - s) S.d.nA).1 S.d.nA)) S.d.nL)
        have el := nI_l (n := pcf 32 (bsN (hmB S.d (goN S.d S.D.X (tkN S.d S.D.X 27 (2 ^ S.d.nA - 1 - s) S.d.nA).1 S.d.nA)) S.d.nL)) (by omega)
        have e3 : I3 43 = f := (hd3 43 (by decide) (by decide)).trans (xrw_s _ _ _)
        have eF : ohF S.d S.D.X m (2 ^ S.d.nA - 1 - s) = pcf 32 (bsN (hmB S.d (goN S.d S.D.X (tkN S.d S.D.X 27 (2 ^ S.d.nA - 1 - s) S.d.nA).1 S.d.nA)) S.d.nL) * paN s m S.d.nA := by
          rw [pa_we hC.ok.d hs]
          rfl
        refine xgo_eq (ih _ _ ⟨rfl, fun c c1 c2 => ?_, fun k hk => ?_⟩) ?_ rfl rfl
        · rw [xrw_c _ _ _ c1]
          exact hd3 c c1 c2
        · rw [xrw_s, hf3 k hk, e3]
        · rw [smN_s, eF]
          ((repeat' (first | (with_reducible rfl) | exact xv_nil | refine xv_cons ?_ ?_ | refine xv_i ?_ | refine xv_l ?_)) <;> (simp (disch := omega) only [↓reduceIte, Bool.false_eq_true, Nat.one_mul, Nat.zero_mul, Nat.or_zero, Nat.add_zero, Nat.zero_add, Bool.toNat_true, Bool.toNat_false, shl_n, shr_n, fa_and, fa_or, nx_xor, nI_add, nI_mul, nI_sub', and_1, and_7, and_3', and_15, el, lN_mul, lN_add]))
      · rintro I2 L2 ⟨rfl, hbk⟩
        obtain ⟨r1, r2⟩ := bk_Ref hC hf hbk
        refine xrun okX11_mid hhX11_mid [] 60 ?_
        have hP2 := r1.pd
        have esh2 : nI 1 <<< (I2 27 10 &&& 31) = nI (2 ^ S.d.nA) := by rw [hP2.a, shl_n _ (by omega), Nat.one_mul]
        (first | (refine xbr_f ?_ ?_; (focus ((simp (disch := omega) only [ix_lt, ix_le, ix_eq, ix_0, nI_clamp, nI_toInt, ng_T, nI_add, nI_mul, nI_sub', Int.neg_zero, not_false_eq_true, not_true_eq_false, esh2] <;> omega); done))) | (refine xbr_t ?_ ?_; (focus ((simp (disch := omega) only [ix_lt, ix_le, ix_eq, ix_0, nI_clamp, nI_toInt, ng_T, nI_add, nI_mul, nI_sub', Int.neg_zero, not_false_eq_true, not_true_eq_false, esh2] <;> omega); done))) | refine ⟨Or.inl rfl, ?_⟩ | refine ⟨Or.inr rfl, ?_⟩ | (refine ⟨?_, ?_⟩; (focus ((try simp (disch := omega) only [esh2, nI_mul, nI_add, nI_sub']); exact in_nI (by omega) (by omega)))))
        have hs := smN_le (f := fun s => ohF S.d S.D.X m (2 ^ S.d.nA - 1 - s)) (n := 2 ^ S.d.nA) hFle
        rw [smN_rev] at hs
        rw [smN_rev]
        have h12 := p12_le h4
        refine ⟨rfl, rfl, S.d, rfl, hP2, ?_⟩
        refine ⟨rfl, rfl, _, _, rfl, by omega, by omega, Nat.pow_pos (by decide), ?_⟩
        have hC2 := Ref_C r1 (lN (smN (ohF S.d S.D.X m) (2 ^ S.d.nA) / Nat.gcd (smN (ohF S.d S.D.X m) (2 ^ S.d.nA)) (12 ^ S.d.nA))) (lN (12 ^ S.d.nA / Nat.gcd (smN (ohF S.d S.D.X m) (2 ^ S.d.nA)) (12 ^ S.d.nA)))
        refine hQ _ _ (frM_t r2 (frM_t (frM_L (k := 27) (by decide) _ _ _ _) (frM_L (k := 27) (by decide) _ _ _ _))) ?_
        unfold ohS
        rw [oh_sm]
        exact hC2
