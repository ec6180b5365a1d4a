/-! THE REFERENCE: orders of the line -/
def snN (a n : Nat) : Nat → Nat
  | 0 => 0
  | k + 1 => snN a n k ||| 2 ^ (n / a ^ k % a)
def phN (a : Nat) : Nat → Nat → Nat
  | 0, _ => 0
  | k + 1, n => phN a k (n / a) * 4 + n % a
def isB (a n : Nat) : Bool := decide (snN a n a = 2 ^ a - 1)
def coB (a m : Nat) : Bool := decide (boN (m * 2 ^ (2 * (4 - a))) a = 2 ^ a - 1)
theorem or_ls : ∀ a, a < 5 → ((List.range (a ^ a)).filter (isB a)).map (phN a a) = (List.range (2 ^ (2 * a))).filter (coB a) := by decide +kernel
theorem or_dg : ∀ a, a < 5 → ∀ n, n < 256 → n < a ^ a → ∀ p, p < 4 → p < a → orN (phN a a n * 2 ^ (2 * (4 - a))) p = n / a ^ (a - (p + 1)) % a := by decide +kernel
theorem or_is : ∀ a, a < 5 → ∀ n, n < 256 → n < a ^ a → isB a n = coB a (phN a a n) ∧ phN a a n * 2 ^ (2 * (4 - a)) < 256 := by decide +kernel
theorem or_di' : ∀ a, a < 5 → ∀ o, o < 256 → ∀ p, p < 4 → (!decide (p < a) || !decide (boN o a = 2 ^ a - 1) || (decide (orN o p < a) && !tbB (boN o p) (orN o p))) = true := by decide +kernel
theorem or_di (a : Nat) (ha : a < 5) (o : Nat) (ho : o < 256) (h : boN o a = 2 ^ a - 1) (p : Nat) (h4 : p < 4) (hp : p < a) : orN o p < a ∧ tbB (boN o p) (orN o p) = false := by
  have e := or_di' a ha o ho p h4
  rw [decide_eq_true hp, decide_eq_true h] at e
  have e : (decide (orN o p < a) && !tbB (boN o p) (orN o p)) = true := e
  rw [Bool.and_eq_true] at e
  refine ⟨of_decide_eq_true e.1, ?_⟩
  cases q : tbB (boN o p) (orN o p)
  · rfl
  · rw [q] at e
    cases e.2
theorem aa_256 : ∀ a, a < 5 → a ^ a ≤ 256 ∧ ∀ k, k < 5 → k ≤ a → a ^ k ≤ 256 := by decide +kernel
theorem t15 : ∀ i, i < 4 → tbB 15 i = true := by decide
theorem ful : ∀ a, a < 5 → ∀ i, i < 4 → i < a → tbB (2 ^ a - 1) i = true := by decide
theorem cn_ls (f g : Nat → Bool) : ∀ n, cnN (fun k => f k && g k) n = (((List.range n).filter f).filter g).length
  | 0 => rfl
  | n + 1 => by
    have e : ((List.filter f [n]).filter g).length = (f n && g n).toNat := by
      cases hf : f n <;> cases hg : g n <;> simp [hf, hg]
    rw [List.range_succ, List.filter_append, List.filter_append, List.length_append, ← cn_ls f g n, e]
    rfl
def hdN : Option Nat → Nat
  | none => 0
  | some x => x + 1
theorem ff_ls (f g : Nat → Bool) : ∀ n, ffN (fun k => f k && g k) n = hdN (((List.range n).filter f).filter g).head?
  | 0 => rfl
  | n + 1 => by
    have e : ((List.filter f [n]).filter g).head? = if (f n && g n) = true then some n else none := by
      cases hf : f n <;> cases hg : g n <;> simp [hf, hg]
    rw [ffN_s, List.range_succ, List.filter_append, List.filter_append, List.head?_append, ff_ls f g n, e]
    cases (((List.range n).filter f).filter g).head? with
    | none =>
      show (if hdN none = 0 then (if (f n && g n) = true then n + 1 else 0) else hdN none) = hdN (if (f n && g n) = true then some n else none)
      rw [if_pos (show hdN none = 0 from rfl)]
      split <;> rfl
    | some x => rfl
theorem cf_0 (f : Nat → Bool) : ∀ n, cnN f n = 0 ↔ ffN f n = 0
  | 0 => ⟨fun _ => rfl, fun _ => rfl⟩
  | n + 1 => by
    have ih := cf_0 f n
    have e : cnN f (n + 1) = cnN f n + (f n).toNat := rfl
    rw [e, ffN_s]
    cases hf : f n
    · rw [if_neg Bool.false_ne_true]
      constructor
      · intro h
        have h : cnN f n = 0 := h
        rw [if_pos (ih.mp h)]
      · intro h
        show cnN f n = 0
        by_cases h0 : ffN f n = 0
        · exact ih.mpr h0
        · rw [if_neg h0] at h
          exact absurd h h0
    · rw [if_pos rfl]
      constructor
      · intro h
        have h : cnN f n + 1 = 0 := h
        omega
      · intro h
        by_cases h0 : ffN f n = 0
        · rw [if_pos h0] at h
          cases h
        · rw [if_neg h0] at h
          exact absurd h h0
/-- the class's orders and the reference's -/
theorem or_cor {a : Nat} (ha : a < 5) (g : Nat → Bool) : cnN (fun m => coB a m && g m) (2 ^ (2 * a)) = cnN (fun n => isB a n && g (phN a a n)) (a ^ a) ∧ ffN (fun m => coB a m && g m) (2 ^ (2 * a)) = hdN ((((List.range (a ^ a)).filter (isB a)).filter (fun n => g (phN a a n))).head?.map (phN a a)) ∧ ffN (fun n => isB a n && g (phN a a n)) (a ^ a) = hdN (((List.range (a ^ a)).filter (isB a)).filter (fun n => g (phN a a n))).head? := by
  rw [cn_ls, cn_ls, ff_ls, ff_ls, ← or_ls a ha, List.filter_map, List.length_map, List.head?_map]
  exact ⟨rfl, rfl, rfl⟩
theorem or_ff {a : Nat} (ha : a < 5) (g : Nat → Bool) : (ffN (fun n => isB a n && g (phN a a n)) (a ^ a) = 0 → ffN (fun m => coB a m && g m) (2 ^ (2 * a)) = 0) ∧ (∀ x, ffN (fun n => isB a n && g (phN a a n)) (a ^ a) = x + 1 → ffN (fun m => coB a m && g m) (2 ^ (2 * a)) = phN a a x + 1) := by
  obtain ⟨_, e2, e3⟩ := or_cor ha g
  rw [e2, e3]
  cases (((List.range (a ^ a)).filter (isB a)).filter (fun n => g (phN a a n))).head? with
  | none => exact ⟨fun _ => rfl, fun x h => (by cases h)⟩
  | some y => exact ⟨fun h => (by cases h), fun x h => (by cases h; rfl)⟩
theorem fld_or {T c i i' : Nat} (hc : c < 8) (h0 : getN T (3 * i) 3 = 0) : getN (T ||| c * 2 ^ (3 * i)) (3 * i') 3 = if i' = i then c else getN T (3 * i') 3 := by
  have hcj : ∀ j, 3 ≤ j → c.testBit j = false := fun j hj => Nat.testBit_lt_two_pow (calc c < 2 ^ 3 := hc
    _ ≤ 2 ^ j := Nat.pow_le_pow_right (by decide) hj)
  apply Nat.eq_of_testBit_eq
  intro j
  rw [getN_bit, Nat.testBit_or, Nat.testBit_mul_two_pow]
  by_cases e : i' = i
  · subst e
    rw [if_pos rfl]
    by_cases hj : j < 3
    · have z := getN_bit T (3 * i') 3 j
      simp [h0, hj] at z
      simp [hj, z]
    · simp [hj, hcj j (by omega)]
  · rw [if_neg e, getN_bit]
    by_cases hj : j < 3
    · by_cases h : i' < i
      · simp [hj, show ¬ 3 * i ≤ 3 * i' + j by omega]
      · simp [hj, hcj (3 * i' + j - 3 * i) (by omega)]
    · simp [hj]
def chO (d : PD) (X o p : Nat) : Nat := (chN d X (orN o p) (tkN d X o 15 p).2 d.nL).1
theorem tk15_s (d : PD) (X o p : Nat) : tkN d X o 15 (p + 1) = if chO d X o p = 0 then tkN d X o 15 p else ((tkN d X o 15 p).1 ||| chO d X o p * 2 ^ (3 * orN o p), (tkN d X o 15 p).2 ||| 2 ^ (chO d X o p - 1)) := by
  rw [tkN_s, t15 _ (orN_4 o p), if_pos rfl]
  rfl
theorem chO_5 {d : PD} (hd : d.ok) (X o p : Nat) : chO d X o p ≤ 5 := Nat.le_trans (chN_le _ _ _ _ _).1 hd.l5
theorem bo_s (o p i : Nat) : tbB (boN o (p + 1)) i = (tbB (boN o p) i || decide (orN o p = i)) := by
  rw [tbB_bit, tbB_bit]
  show (boN o p ||| 2 ^ orN o p).testBit i = _
  rw [Nat.testBit_or, Nat.testBit_two_pow]
theorem tk15_get {d : PD} (hd : d.ok) (X : Nat) {o : Nat} (h256 : o < 256) (ho : boN o d.nA = 2 ^ d.nA - 1) : ∀ p, p ≤ d.nA → ∀ i, tbB (boN o p) i = false → getN (tkN d X o 15 p).1 (3 * i) 3 = 0
  | 0, _, i, _ => getN_big (Nat.two_pow_pos _)
  | p + 1, hp, i, h => by
    have h4 := hd.a4
    have ih := tk15_get hd X h256 ho p (by omega)
    have hdi := (or_di d.nA (by omega) o h256 ho p (by omega) (by omega)).2
    have hc := chO_5 hd X o p
    rw [bo_s] at h
    have h1 : tbB (boN o p) i = false := by
      cases q : tbB (boN o p) i
      · rfl
      · rw [q] at h
        cases h
    have h2 : ¬ i = orN o p := by
      intro q
      rw [h1, q, decide_eq_true rfl] at h
      cases h
    rw [tk15_s]
    by_cases c0 : chO d X o p = 0
    · rw [if_pos c0]
      exact ih i h1
    · rw [if_neg c0]
      show getN ((tkN d X o 15 p).1 ||| chO d X o p * 2 ^ (3 * orN o p)) (3 * i) 3 = 0
      rw [fld_or (by omega) (ih _ hdi), if_neg h2]
      exact ih i h1
theorem tk15_at {d : PD} (hd : d.ok) (X : Nat) {o : Nat} (h256 : o < 256) (ho : boN o d.nA = 2 ^ d.nA - 1) {p : Nat} (hp : p < d.nA) (i : Nat) : getN (tkN d X o 15 (p + 1)).1 (3 * i) 3 = if i = orN o p then chO d X o p else getN (tkN d X o 15 p).1 (3 * i) 3 := by
  have h4 := hd.a4
  have hdi := (or_di d.nA (by omega) o h256 ho p (by omega) (by omega)).2
  have z := tk15_get hd X h256 ho p (by omega) _ hdi
  have hc := chO_5 hd X o p
  rw [tk15_s]
  by_cases c0 : chO d X o p = 0
  · rw [if_pos c0]
    by_cases e : i = orN o p
    · rw [if_pos e, e, z, c0]
    · rw [if_neg e]
  · rw [if_neg c0]
    show getN ((tkN d X o 15 p).1 ||| chO d X o p * 2 ^ (3 * orN o p)) (3 * i) 3 = _
    rw [fld_or (by omega) z]
def csX11_isOrder : xCs := []
theorem okX11_isOrder : xOkM mX11_isOrder csX11_isOrder := ⟨dX11_isOrder, by decide +kernel, by decide +kernel, ⟨wdX11_118, wdX11_65, wdX11_118, wdX11_118, wdX11_65, wdX11_118, trivial⟩⟩
theorem hhX11_isOrder : ∀ q ∈ csX11_isOrder, xHd q.1 := xall0
theorem kkX11_isOrder : ∀ q ∈ csX11_isOrder, ∀ l, xCon l q.1 q.2 := xall0
def sX11_isOrder : xSpec := xReg fun as I L Q => ∃ (d : PD) (n : Nat), as = [.ref 27, .int (nI n)] ∧ pdR d I ∧ 0 < d.nA ∧ n < 2 ^ 20 ∧ (∀ f, (∀ p, p < d.nA → f p = nI (n / d.nA ^ (d.nA - (p + 1)) % d.nA)) → Q (some (.int (bI (isB d.nA n)))) (xrw I 46 f) L)
set_option maxRecDepth 100000 in
theorem kX11_isOrder : ∀ l, xCon l mX11_isOrder sX11_isOrder := by
  refine xcon_of okX11_isOrder hX11_isOrder rfl (by decide) hhX11_isOrder kkX11_isOrder ?_
  rintro as n0 I L P Q ⟨rfl, rfl, d, n, rfl, hP, h0, hn, hQ⟩
  refine ⟨Nat.le_of_ble_eq_true rfl, ?_⟩
  have ha := hP.a
  have h4 := hP.ok.a4
  have loop : ∀ j k f, k + j = d.nA → (∀ q, q < k → f (d.nA - (q + 1)) = nI (n / d.nA ^ q % d.nA)) → xGo mX11_isOrder csX11_isOrder 12 Q [some (.ref 27), some (.int (nI n)), some (.int (nI (n / d.nA ^ k))), some (.int (nI (snN d.nA n k))), some (.int (nI d.nA - nI (k + 1)))] [] 0 xN (xrw I 46 f) L xP0 := by
    intro j
    induction j with
    | zero =>
      intro k f hk hf
      obtain rfl : k = d.nA := by omega
      have e := iw_e h4
      have hA2 : xrw I 46 f 27 10 = nI d.nA := ha
      have hneg : nI d.nA - nI (d.nA + 1) < 0 := by
        rw [ix_lt, e, ix_0]
        omega
      have hq := hQ f (fun p hp => by
        have q := hf (d.nA - (p + 1)) (by omega)
        rw [show d.nA - (d.nA - (p + 1) + 1) = p by omega] at q
        exact q)
      have hs : snN d.nA n d.nA < 2 ^ 20 := by
        have h : ∀ k, snN d.nA n k < 2 ^ 20 := by
          intro k
          induction k with
          | zero => exact Nat.two_pow_pos _
          | succ k ih => exact Nat.or_lt_two_pow ih (Nat.pow_lt_pow_right (by decide) (by have := Nat.mod_lt (n / d.nA ^ k) h0; omega))
        exact h _
      have hp2 : 2 ^ d.nA ≤ 2 ^ 4 := Nat.pow_le_pow_right (by decide) h4
      have hp1 := Nat.two_pow_pos d.nA
      have e0 : nI 1 <<< (xrw I 46 f 27 10 &&& 31) - nI 1 = nI (2 ^ d.nA - 1) := by rw [hA2, shl_n _ (by omega), Nat.one_mul, nI_sub' (by omega)]
      refine xrun okX11_isOrder hhX11_isOrder [] 60 ?_
      (first | refine xbr_t hneg ?_ | refine xbr_f hneg ?_)
      unfold isB at hq
      by_cases hc : snN d.nA n d.nA = 2 ^ d.nA - 1
      · rw [decide_eq_true hc] at hq
        have e3 : nI (snN d.nA n d.nA) = nI 1 <<< (xrw I 46 f 27 10 &&& 31) - nI 1 := by rw [e0, hc]
        (first | refine xbr_t e3 ?_ | refine xbr_f e3 ?_)
        repeat (first | (refine xbr_f ?_ ?_; (focus ((simp (disch := omega) only [ix_lt, ix_le, ix_eq, ix_0, nI_clamp, nI_toInt, ng_T, nI_add, nI_mul, nI_sub', Int.neg_zero, not_false_eq_true, not_true_eq_false] <;> omega); done))) | (refine xbr_t ?_ ?_; (focus ((simp (disch := omega) only [ix_lt, ix_le, ix_eq, ix_0, nI_clamp, nI_toInt, ng_T, nI_add, nI_mul, nI_sub', Int.neg_zero, not_false_eq_true, not_true_eq_false] <;> omega); done))) | refine ⟨Or.inl rfl, ?_⟩ | refine ⟨Or.inr rfl, ?_⟩ | (refine ⟨?_, ?_⟩; (focus (exact in_nI (by omega) (by omega)))))
        exact hq
      · rw [decide_eq_false hc] at hq
        have e2 : ¬ nI (snN d.nA n d.nA) = nI 1 <<< (xrw I 46 f 27 10 &&& 31) - nI 1 := by
          rw [e0, ix_eq, nI_toInt (by omega), nI_toInt (by omega)]
          omega
        (first | refine xbr_t e2 ?_ | refine xbr_f e2 ?_)
        repeat (first | (refine xbr_f ?_ ?_; (focus ((simp (disch := omega) only [ix_lt, ix_le, ix_eq, ix_0, nI_clamp, nI_toInt, ng_T, nI_add, nI_mul, nI_sub', Int.neg_zero, not_false_eq_true, not_true_eq_false] <;> omega); done))) | (refine xbr_t ?_ ?_; (focus ((simp (disch := omega) only [ix_lt, ix_le, ix_eq, ix_0, nI_clamp, nI_toInt, ng_T, nI_add, nI_mul, nI_sub', Int.neg_zero, not_false_eq_true, not_true_eq_false] <;> omega); done))) | refine ⟨Or.inl rfl, ?_⟩ | refine ⟨Or.inr rfl, ?_⟩ | (refine ⟨?_, ?_⟩; (focus (exact in_nI (by omega) (by omega)))))
        exact hq
    | succ j ih =>
      intro k f hk hf
      have hk2 : k < d.nA := by omega
      have hNk := Np_lt (B := d.nA) hn k
      have hA2 : ∀ g, xrw I 46 g 27 10 = nI d.nA := fun _ => ha
      have hB : ∀ g, ¬ xrw I 46 g 27 10 = 0 := by
        intro g
        rw [hA2, ix_eq, nI_toInt (by omega), ix_0]
        omega
      have er : ∀ g, nI (n / d.nA ^ k) - nI (n / d.nA ^ k) / (xrw I 46 g 27 10) * (xrw I 46 g 27 10) = nI (n / d.nA ^ k % d.nA) := fun g => by
        rw [hA2]
        exact pk_rem (by omega) (by omega) (by omega)
      have ed : ∀ g, nI (n / d.nA ^ k) / (xrw I 46 g 27 10) = nI (n / d.nA ^ (k + 1)) := fun g => by
        rw [hA2, pk_div (by omega) (by omega) (by omega), Nat.pow_succ, Nat.div_div_eq_div_mul]
      have hm := Nat.mod_lt (n / d.nA ^ k) h0
      have hi := iw_n h4 hk2
      have ei : nI (d.nA - (k + 1)) - nI 1 = nI d.nA - nI (k + 1 + 1) := by rw [← hi, iw_s]
      have gv : ∀ q, q < k + 1 → (fun t => if t = d.nA - (k + 1) then nI (n / d.nA ^ k % d.nA) else f t) (d.nA - (q + 1)) = nI (n / d.nA ^ q % d.nA) := by
        intro q hq
        show (if d.nA - (q + 1) = d.nA - (k + 1) then nI (n / d.nA ^ k % d.nA) else f (d.nA - (q + 1))) = _
        by_cases e : q = k
        · rw [if_pos (by omega), e]
        · rw [if_neg (by omega)]
          exact hf q (by omega)
      refine xrun okX11_isOrder hhX11_isOrder [(12, [true, true, true, true, true])] 60 ?_
      rw [hi]
      (first | (refine xbr_f ?_ ?_; (focus ((simp (disch := omega) only [ix_lt, ix_le, ix_eq, ix_0, nI_clamp, nI_toInt, ng_T, nI_add, nI_mul, nI_sub', Int.neg_zero, not_false_eq_true, not_true_eq_false] <;> omega); done))) | (refine xbr_t ?_ ?_; (focus ((simp (disch := omega) only [ix_lt, ix_le, ix_eq, ix_0, nI_clamp, nI_toInt, ng_T, nI_add, nI_mul, nI_sub', Int.neg_zero, not_false_eq_true, not_true_eq_false] <;> omega); done))) | refine ⟨Or.inl rfl, ?_⟩ | refine ⟨Or.inr rfl, ?_⟩ | (refine ⟨?_, ?_⟩; (focus (exact in_nI (by omega) (by omega)))))
      refine ⟨hB _, ?_⟩
      rw [er]
      (first | (refine xbr_f ?_ ?_; (focus ((simp (disch := omega) only [ix_lt, ix_le, ix_eq, ix_0, nI_clamp, nI_toInt, ng_T, nI_add, nI_mul, nI_sub', Int.neg_zero, not_false_eq_true, not_true_eq_false] <;> omega); done))) | (refine xbr_t ?_ ?_; (focus ((simp (disch := omega) only [ix_lt, ix_le, ix_eq, ix_0, nI_clamp, nI_toInt, ng_T, nI_add, nI_mul, nI_sub', Int.neg_zero, not_false_eq_true, not_true_eq_false] <;> omega); done))) | refine ⟨Or.inl rfl, ?_⟩ | refine ⟨Or.inr rfl, ?_⟩ | (refine ⟨?_, ?_⟩; (focus (exact in_nI (by omega) (by omega)))))
      rw [nI_clamp (by omega), xrw_up]
      refine ⟨hB _, ?_⟩
      rw [ed]
      (first | (refine xbr_f ?_ ?_; (focus ((simp (disch := omega) only [ix_lt, ix_le, ix_eq, ix_0, nI_clamp, nI_toInt, ng_T, nI_add, nI_mul, nI_sub', Int.neg_zero, not_false_eq_true, not_true_eq_false] <;> omega); done))) | (refine xbr_t ?_ ?_; (focus ((simp (disch := omega) only [ix_lt, ix_le, ix_eq, ix_0, nI_clamp, nI_toInt, ng_T, nI_add, nI_mul, nI_sub', Int.neg_zero, not_false_eq_true, not_true_eq_false] <;> omega); done))) | refine ⟨Or.inl rfl, ?_⟩ | refine ⟨Or.inr rfl, ?_⟩ | (refine ⟨?_, ?_⟩; (focus (exact in_nI (by omega) (by omega)))))
      have e46 : xrw I 46 (fun t => if t = d.nA - (k + 1) then nI (n / d.nA ^ k % d.nA) else f t) 46 (d.nA - (k + 1)) = nI (n / d.nA ^ k % d.nA) := if_pos rfl
      rw [nI_clamp (by omega), e46]
      refine xgo_eq (ih (k + 1) _ (by omega) gv) ?_ rfl rfl
      show [some (Value.ref 27), some (Value.int (nI n)), some (Value.int (nI (n / d.nA ^ (k + 1)))), some (Value.int (nI (snN d.nA n k) ||| (nI 1 <<< (nI (n / d.nA ^ k % d.nA) &&& 31)))), some (Value.int (nI (d.nA - (k + 1)) - nI 1))] = _
      rw [ei, shl_n _ (by omega), Nat.one_mul, fa_or]
      rfl
  refine xrun okX11_isOrder hhX11_isOrder [(12, [true, true, true, true, true])] 60 ?_
  refine xgo_eq (loop d.nA 0 (I 46) (by omega) (fun j h => absurd h (Nat.not_lt_zero _))) ?_ (xrw_self I 46).symm rfl
  show [some (Value.ref 27), some (Value.int (nI n)), some (Value.int (nI n)), some (Value.int (nI 0)), some (Value.int (I 27 10 - nI 1))] = _
  rw [ha, Nat.pow_zero, Nat.div_one]
  rfl
