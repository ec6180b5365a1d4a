/-! numbers of bits: fields of a number, counts of bits -/
def getN (X f k : Nat) : Nat := X / 2 ^ f % 2 ^ k
def setN (X f k v : Nat) : Nat := 2 ^ (f + k) * (X / 2 ^ (f + k)) + (2 ^ f * v + X % 2 ^ f)
theorem getN_lt (X f k : Nat) : getN X f k < 2 ^ k := Nat.mod_lt _ (Nat.two_pow_pos k)
theorem getN_bit (X f k i : Nat) : (getN X f k).testBit i = (decide (i < k) && X.testBit (f + i)) := by
  unfold getN
  rw [Nat.testBit_mod_two_pow, Nat.testBit_div_two_pow, Nat.add_comm]
theorem setN_low {X f v k : Nat} (h : v < 2 ^ k) : 2 ^ f * v + X % 2 ^ f < 2 ^ (f + k) := by
  have h1 : X % 2 ^ f < 2 ^ f := Nat.mod_lt _ (Nat.two_pow_pos f)
  rw [Nat.pow_add]
  calc 2 ^ f * v + X % 2 ^ f < 2 ^ f * v + 2 ^ f := by omega
    _ = 2 ^ f * (v + 1) := by rw [Nat.mul_add, Nat.mul_one]
    _ ≤ 2 ^ f * 2 ^ k := Nat.mul_le_mul_left _ h
theorem setN_bit {X f k v : Nat} (h : v < 2 ^ k) (i : Nat) : (setN X f k v).testBit i = if f ≤ i ∧ i < f + k then v.testBit (i - f) else X.testBit i := by
  unfold setN
  rw [Nat.testBit_two_pow_mul_add _ (setN_low h)]
  by_cases h1 : i < f + k
  · rw [if_pos h1, Nat.testBit_two_pow_mul_add _ (Nat.mod_lt _ (Nat.two_pow_pos f))]
    by_cases h2 : i < f
    · rw [if_pos h2, if_neg (by omega), Nat.testBit_mod_two_pow]
      simp [h2]
    · rw [if_neg h2, if_pos (by omega)]
  · rw [if_neg h1, if_neg (by omega), Nat.testBit_div_two_pow]
    congr 1
    omega
theorem get_set {X f k v : Nat} (h : v < 2 ^ k) : getN (setN X f k v) f k = v := by
  apply Nat.eq_of_testBit_eq
  intro i
  rw [getN_bit, setN_bit h]
  by_cases hi : i < k
  · rw [if_pos (by omega)]
    simp [hi]
  · rw [if_neg (by omega)]
    simp only [hi, decide_false, Bool.false_and]
    exact (Nat.testBit_lt_two_pow (Nat.lt_of_lt_of_le h (Nat.pow_le_pow_right (by omega) (by omega)))).symm
theorem get_off {X f k v g j : Nat} (h : v < 2 ^ k) (hd : g + j ≤ f ∨ f + k ≤ g) : getN (setN X f k v) g j = getN X g j := by
  apply Nat.eq_of_testBit_eq
  intro i
  rw [getN_bit, getN_bit, setN_bit h]
  by_cases hi : i < j
  · rw [if_neg (by omega)]
  · simp [hi]
theorem setN_lt {X f k v m : Nat} (h : v < 2 ^ k) (hX : X < 2 ^ m) (hm : f + k ≤ m) : setN X f k v < 2 ^ m := by
  apply Nat.lt_pow_two_of_testBit
  intro i hi
  rw [setN_bit h, if_neg (by omega)]
  exact Nat.testBit_lt_two_pow (Nat.lt_of_lt_of_le hX (Nat.pow_le_pow_right (by omega) hi))
theorem getN_of_lt {X k : Nat} (h : X < 2 ^ k) : getN X 0 k = X := by
  unfold getN
  rw [Nat.pow_zero, Nat.div_one, Nat.mod_eq_of_lt h]
/-- how many bits -/
def pcf : Nat → Nat → Nat
  | 0, _ => 0
  | f + 1, n => n % 2 + pcf f (n / 2)
theorem pcf_le : ∀ (f n : Nat), pcf f n ≤ f
  | 0, _ => Nat.le_refl 0
  | f + 1, n => by
    have := pcf_le f (n / 2)
    show n % 2 + pcf f (n / 2) ≤ f + 1
    omega
theorem pcf_0 : ∀ (f : Nat), pcf f 0 = 0
  | 0 => rfl
  | f + 1 => by
    show 0 % 2 + pcf f (0 / 2) = 0
    rw [Nat.zero_div, pcf_0 f]
theorem pcf_pos : ∀ {f n : Nat}, n < 2 ^ f → n ≠ 0 → 0 < pcf f n
  | 0, n, h, h0 => by
    rw [Nat.pow_zero] at h
    omega
  | f + 1, n, h, h0 => by
    show 0 < n % 2 + pcf f (n / 2)
    by_cases h1 : n % 2 = 0
    · have h2 : n / 2 < 2 ^ f := by rw [Nat.pow_succ] at h; omega
      have := pcf_pos h2 (by omega)
      omega
    · omega
theorem and_digit {b a c m e : Nat} (ha : a < 2 ^ b) (hc : c < 2 ^ b) : (a + 2 ^ b * m) &&& (c + 2 ^ b * e) = (a &&& c) + 2 ^ b * (m &&& e) := by
  apply Nat.eq_of_testBit_eq
  intro i
  have hac : a &&& c < 2 ^ b := Nat.lt_of_le_of_lt Nat.and_le_left ha
  rw [Nat.add_comm a, Nat.add_comm c, Nat.add_comm (a &&& c), Nat.testBit_and, Nat.testBit_two_pow_mul_add _ ha, Nat.testBit_two_pow_mul_add _ hc, Nat.testBit_two_pow_mul_add _ hac]
  by_cases h : i < b
  · rw [if_pos h, if_pos h, if_pos h, Nat.testBit_and]
  · rw [if_neg h, if_neg h, if_neg h, Nat.testBit_and]
/-- n and n less 1: the lowest bit goes -/
theorem pcf_low : ∀ {f n : Nat}, n < 2 ^ f → n ≠ 0 → pcf f (n &&& (n - 1)) + 1 = pcf f n
  | 0, n, h, h0 => by rw [Nat.pow_zero] at h; omega
  | f + 1, n, h, h0 => by
    have hm : n / 2 < 2 ^ f := by rw [Nat.pow_succ] at h; omega
    by_cases h1 : n % 2 = 0
    · have e1 : n &&& (n - 1) = 0 + 2 ^ 1 * (n / 2 &&& (n / 2 - 1)) := by
        have := and_digit (b := 1) (a := 0) (c := 1) (m := n / 2) (e := n / 2 - 1) (by decide) (by decide)
        rw [show 0 + 2 ^ 1 * (n / 2) = n by omega, show 1 + 2 ^ 1 * (n / 2 - 1) = n - 1 by omega] at this
        exact this
      have ih := pcf_low hm (by omega)
      rw [e1]
      show (0 + 2 ^ 1 * (n / 2 &&& (n / 2 - 1))) % 2 + pcf f ((0 + 2 ^ 1 * (n / 2 &&& (n / 2 - 1))) / 2) + 1 = n % 2 + pcf f (n / 2)
      rw [show (0 + 2 ^ 1 * (n / 2 &&& (n / 2 - 1))) / 2 = (n / 2 &&& (n / 2 - 1)) by omega]
      omega
    · have e1 : n &&& (n - 1) = 0 + 2 ^ 1 * (n / 2) := by
        have := and_digit (b := 1) (a := 1) (c := 0) (m := n / 2) (e := n / 2) (by decide) (by decide)
        rw [show 1 + 2 ^ 1 * (n / 2) = n by omega, show 0 + 2 ^ 1 * (n / 2) = n - 1 by omega, Nat.and_self] at this
        rw [this]
        show (0 : Nat) + _ = _
        omega
      rw [e1]
      show (0 + 2 ^ 1 * (n / 2)) % 2 + pcf f ((0 + 2 ^ 1 * (n / 2)) / 2) + 1 = n % 2 + pcf f (n / 2)
      rw [show (0 + 2 ^ 1 * (n / 2)) / 2 = n / 2 by omega]
      omega
theorem pcf_and_lt {n : Nat} (h : n ≠ 0) : n &&& (n - 1) < n := Nat.lt_of_le_of_lt Nat.and_le_right (by omega)
