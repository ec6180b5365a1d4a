/-! the library's count of bits: by pairs, by fours, by eights -/
def mkd (w c : Nat) : Nat → Nat
  | 0 => 0
  | k + 1 => c + 2 ^ w * mkd w c k
def gdn (w : Nat) : Nat → Nat → Nat
  | 0, _ => 0
  | k + 1, n => pcf w (n % 2 ^ w) + 2 ^ w * gdn w k (n / 2 ^ w)
theorem and_1 (x : Nat) : x &&& 1 = x % 2 := Nat.and_two_pow_sub_one_eq_mod x 1
theorem and_3 (x : Nat) : x &&& 3 = x % 4 := Nat.and_two_pow_sub_one_eq_mod x 2
theorem and_15 (x : Nat) : x &&& 15 = x % 16 := Nat.and_two_pow_sub_one_eq_mod x 4
theorem pcf2 : ∀ r, r < 4 → pcf 2 r = r - r / 2 := by decide
theorem swA : ∀ (k n : Nat), n < 2 ^ (2 * k) → (n / 2 &&& mkd 2 1 k) ≤ n ∧ n - (n / 2 &&& mkd 2 1 k) = gdn 2 k n
  | 0, n, h => by
    rw [Nat.mul_zero, Nat.pow_zero] at h
    obtain rfl : n = 0 := by omega
    exact ⟨by decide, by decide⟩
  | k + 1, n, h => by
    have hm : n / 2 ^ 2 < 2 ^ (2 * k) := by
      rw [show 2 * (k + 1) = 2 * k + 2 by omega, Nat.pow_add] at h
      exact Nat.div_lt_of_lt_mul (by rw [Nat.mul_comm]; exact h)
    obtain ⟨i1, i2⟩ := swA k (n / 2 ^ 2) hm
    have e : n / 2 &&& mkd 2 1 (k + 1) = (n % 4) / 2 + 2 ^ 2 * (n / 2 ^ 2 / 2 &&& mkd 2 1 k) := by
      have h1 := and_digit (b := 2) (a := n / 2 % 4) (c := 1) (m := n / 2 ^ 2 / 2) (e := mkd 2 1 k) (by omega) (by decide)
      rw [show n / 2 % 4 + 2 ^ 2 * (n / 2 ^ 2 / 2) = n / 2 by omega, and_1] at h1
      rw [show n % 4 / 2 = n / 2 % 4 % 2 by omega]
      exact h1
    have hp := pcf2 (n % 4) (by omega)
    show (n / 2 &&& mkd 2 1 (k + 1)) ≤ n ∧ n - (n / 2 &&& mkd 2 1 (k + 1)) = pcf 2 (n % 2 ^ 2) + 2 ^ 2 * gdn 2 k (n / 2 ^ 2)
    rw [e, ← i2, show n % 2 ^ 2 = n % 4 from rfl, hp]
    omega
theorem pcf_split : ∀ (a b n : Nat), pcf (a + b) n = pcf a n + pcf b (n / 2 ^ a)
  | 0, b, n => by
    rw [Nat.zero_add, Nat.pow_zero, Nat.div_one]
    show _ = 0 + _
    omega
  | a + 1, b, n => by
    rw [show a + 1 + b = (a + b) + 1 by omega]
    show n % 2 + pcf (a + b) (n / 2) = n % 2 + pcf a (n / 2) + pcf b (n / 2 ^ (a + 1))
    rw [pcf_split a b (n / 2), Nat.div_div_eq_div_mul, Nat.pow_succ, Nat.mul_comm (2 ^ a) 2]
    omega
theorem pcf_mod : ∀ (a n : Nat), pcf a (n % 2 ^ a) = pcf a n
  | 0, n => rfl
  | a + 1, n => by
    show n % 2 ^ (a + 1) % 2 + pcf a (n % 2 ^ (a + 1) / 2) = n % 2 + pcf a (n / 2)
    have e1 : n % 2 ^ (a + 1) % 2 = n % 2 := by
      rw [Nat.pow_succ, Nat.mul_comm]
      exact Nat.mod_mul_right_mod n 2 (2 ^ a)
    have e2 : n % 2 ^ (a + 1) / 2 = n / 2 % 2 ^ a := by
      rw [Nat.pow_succ, Nat.mul_comm]
      exact Nat.mod_mul_right_div_self n 2 (2 ^ a)
    rw [e1, e2, pcf_mod a (n / 2)]
theorem swB : ∀ (k n : Nat), (gdn 2 (2 * k) n &&& mkd 4 3 k) + (gdn 2 (2 * k) n / 4 &&& mkd 4 3 k) = gdn 4 k n
  | 0, n => by simp [gdn, mkd]
  | k + 1, n => by
    have ih := swB k (n / 2 ^ 4)
    have e0 : gdn 2 (2 * (k + 1)) n = pcf 2 (n % 2 ^ 2) + 2 ^ 2 * (pcf 2 (n / 2 ^ 2 % 2 ^ 2) + 2 ^ 2 * gdn 2 (2 * k) (n / 2 ^ 4)) := by
      rw [show 2 * (k + 1) = 2 * k + 1 + 1 by omega]
      show pcf 2 (n % 2 ^ 2) + 2 ^ 2 * (pcf 2 (n / 2 ^ 2 % 2 ^ 2) + 2 ^ 2 * gdn 2 (2 * k) (n / 2 ^ 2 / 2 ^ 2)) = _
      rw [Nat.div_div_eq_div_mul]
    have h1 := pcf_le 2 (n % 2 ^ 2)
    have h2 := pcf_le 2 (n / 2 ^ 2 % 2 ^ 2)
    have h3 : pcf 4 (n % 2 ^ 4) = pcf 2 (n % 2 ^ 2) + pcf 2 (n / 2 ^ 2 % 2 ^ 2) := by
      rw [pcf_mod, pcf_split 2 2, pcf_mod, pcf_mod]
    show _ = pcf 4 (n % 2 ^ 4) + 2 ^ 4 * gdn 4 k (n / 2 ^ 4)
    rw [h3, ← ih, e0]
    generalize pcf 2 (n % 2 ^ 2) = a at h1
    generalize pcf 2 (n / 2 ^ 2 % 2 ^ 2) = b at h2
    generalize gdn 2 (2 * k) (n / 2 ^ 4) = y
    have e1 : (a + 2 ^ 2 * (b + 2 ^ 2 * y)) &&& mkd 4 3 (k + 1) = a + 2 ^ 4 * (y &&& mkd 4 3 k) := by
      have q := and_digit (b := 4) (a := a + 4 * b) (c := 3) (m := y) (e := mkd 4 3 k) (by omega) (by decide)
      rw [and_3, show (a + 4 * b) % 4 = a by omega, show a + 4 * b + 2 ^ 4 * y = a + 2 ^ 2 * (b + 2 ^ 2 * y) by omega] at q
      exact q
    have e2 : (a + 2 ^ 2 * (b + 2 ^ 2 * y)) / 4 &&& mkd 4 3 (k + 1) = b + 2 ^ 4 * (y / 4 &&& mkd 4 3 k) := by
      have q := and_digit (b := 4) (a := b + 4 * (y % 4)) (c := 3) (m := y / 4) (e := mkd 4 3 k) (by omega) (by decide)
      rw [and_3, show (b + 4 * (y % 4)) % 4 = b by omega, show b + 4 * (y % 4) + 2 ^ 4 * (y / 4) = (a + 2 ^ 2 * (b + 2 ^ 2 * y)) / 4 by omega] at q
      exact q
    rw [e1, e2]
    omega
theorem gdn4_le : ∀ (k n : Nat), gdn 4 k n % 16 ≤ 4
  | 0, n => Nat.zero_le 4
  | k + 1, n => by
    have := pcf_le 4 (n % 2 ^ 4)
    show (pcf 4 (n % 2 ^ 4) + 2 ^ 4 * gdn 4 k (n / 2 ^ 4)) % 16 ≤ 4
    omega
theorem swC : ∀ (k n : Nat), (gdn 4 (2 * k) n + gdn 4 (2 * k) n / 16) &&& mkd 8 15 k = gdn 8 k n
  | 0, n => by simp [gdn, mkd]
  | k + 1, n => by
    have ih := swC k (n / 2 ^ 8)
    have e0 : gdn 4 (2 * (k + 1)) n = pcf 4 (n % 2 ^ 4) + 2 ^ 4 * (pcf 4 (n / 2 ^ 4 % 2 ^ 4) + 2 ^ 4 * gdn 4 (2 * k) (n / 2 ^ 8)) := by
      rw [show 2 * (k + 1) = 2 * k + 1 + 1 by omega]
      show pcf 4 (n % 2 ^ 4) + 2 ^ 4 * (pcf 4 (n / 2 ^ 4 % 2 ^ 4) + 2 ^ 4 * gdn 4 (2 * k) (n / 2 ^ 4 / 2 ^ 4)) = _
      rw [Nat.div_div_eq_div_mul]
    have h1 := pcf_le 4 (n % 2 ^ 4)
    have h2 := pcf_le 4 (n / 2 ^ 4 % 2 ^ 4)
    have h4 := gdn4_le (2 * k) (n / 2 ^ 8)
    have h3 : pcf 8 (n % 2 ^ 8) = pcf 4 (n % 2 ^ 4) + pcf 4 (n / 2 ^ 4 % 2 ^ 4) := by
      rw [pcf_mod, pcf_split 4 4, pcf_mod, pcf_mod]
    show _ = pcf 8 (n % 2 ^ 8) + 2 ^ 8 * gdn 8 k (n / 2 ^ 8)
    rw [h3, ← ih, e0]
    generalize pcf 4 (n % 2 ^ 4) = a at h1
    generalize pcf 4 (n / 2 ^ 4 % 2 ^ 4) = b at h2
    generalize gdn 4 (2 * k) (n / 2 ^ 8) = y at h4
    have q := and_digit (b := 8) (a := a + b + 16 * (b + y % 16)) (c := 15) (m := y + y / 16) (e := mkd 8 15 k) (by omega) (by decide)
    rw [and_15, show (a + b + 16 * (b + y % 16)) % 16 = a + b by omega, show a + b + 16 * (b + y % 16) + 2 ^ 8 * (y + y / 16) = (a + 2 ^ 4 * (b + 2 ^ 4 * y)) + (a + 2 ^ 4 * (b + 2 ^ 4 * y)) / 16 by omega] at q
    exact q
theorem gdn_lt (w : Nat) (hw : ∀ m, pcf w m < 2 ^ w) : ∀ (k n : Nat), gdn w k n < 2 ^ (w * k)
  | 0, n => by rw [Nat.mul_zero, Nat.pow_zero]; exact Nat.one_pos
  | k + 1, n => by
    have ih := gdn_lt w hw k (n / 2 ^ w)
    have := hw (n % 2 ^ w)
    show pcf w (n % 2 ^ w) + 2 ^ w * gdn w k (n / 2 ^ w) < _
    rw [show w * (k + 1) = w + w * k by rw [Nat.mul_add]; omega, Nat.pow_add]
    calc _ < 2 ^ w + 2 ^ w * gdn w k (n / 2 ^ w) := by omega
      _ = 2 ^ w * (gdn w k (n / 2 ^ w) + 1) := by rw [Nat.mul_add]; omega
      _ ≤ _ := Nat.mul_le_mul_left _ ih
theorem gdn8_4 (n : Nat) (h : n < 2 ^ 32) : ∃ b0 b1 b2 b3, b0 ≤ 8 ∧ b1 ≤ 8 ∧ b2 ≤ 8 ∧ b3 ≤ 8 ∧ gdn 8 4 n = b0 + 256 * (b1 + 256 * (b2 + 256 * b3)) ∧ pcf 32 n = b0 + b1 + b2 + b3 := by
  refine ⟨pcf 8 (n % 2 ^ 8), pcf 8 (n / 2 ^ 8 % 2 ^ 8), pcf 8 (n / 2 ^ 8 / 2 ^ 8 % 2 ^ 8), pcf 8 (n / 2 ^ 8 / 2 ^ 8 / 2 ^ 8 % 2 ^ 8), pcf_le _ _, pcf_le _ _, pcf_le _ _, pcf_le _ _, rfl, ?_⟩
  rw [pcf_mod, pcf_mod, pcf_mod, pcf_mod, show 32 = 8 + (8 + (8 + 8)) from rfl, pcf_split, pcf_split, pcf_split]
  omega
theorem gdn8_8 (n : Nat) : ∃ b0 b1 b2 b3 b4 b5 b6 b7, b0 ≤ 8 ∧ b1 ≤ 8 ∧ b2 ≤ 8 ∧ b3 ≤ 8 ∧ b4 ≤ 8 ∧ b5 ≤ 8 ∧ b6 ≤ 8 ∧ b7 ≤ 8 ∧ gdn 8 8 n = b0 + 256 * (b1 + 256 * (b2 + 256 * (b3 + 256 * (b4 + 256 * (b5 + 256 * (b6 + 256 * b7)))))) ∧ pcf 64 n = b0 + b1 + b2 + b3 + (b4 + b5 + b6 + b7) := by
  refine ⟨pcf 8 (n % 2 ^ 8), pcf 8 (n / 2 ^ 8 % 2 ^ 8), pcf 8 (n / 2 ^ 8 / 2 ^ 8 % 2 ^ 8), pcf 8 (n / 2 ^ 8 / 2 ^ 8 / 2 ^ 8 % 2 ^ 8), pcf 8 (n / 2 ^ 8 / 2 ^ 8 / 2 ^ 8 / 2 ^ 8 % 2 ^ 8), pcf 8 (n / 2 ^ 8 / 2 ^ 8 / 2 ^ 8 / 2 ^ 8 / 2 ^ 8 % 2 ^ 8), pcf 8 (n / 2 ^ 8 / 2 ^ 8 / 2 ^ 8 / 2 ^ 8 / 2 ^ 8 / 2 ^ 8 % 2 ^ 8), pcf 8 (n / 2 ^ 8 / 2 ^ 8 / 2 ^ 8 / 2 ^ 8 / 2 ^ 8 / 2 ^ 8 / 2 ^ 8 % 2 ^ 8), pcf_le _ _, pcf_le _ _, pcf_le _ _, pcf_le _ _, pcf_le _ _, pcf_le _ _, pcf_le _ _, pcf_le _ _, rfl, ?_⟩
  rw [pcf_mod, pcf_mod, pcf_mod, pcf_mod, pcf_mod, pcf_mod, pcf_mod, pcf_mod, show 64 = 8 + (8 + (8 + (8 + (8 + (8 + (8 + 8)))))) from rfl, pcf_split, pcf_split, pcf_split, pcf_split, pcf_split, pcf_split, pcf_split]
  omega
