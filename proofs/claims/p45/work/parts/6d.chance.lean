/-! CHANCES: at most one, none asleep as today -/
def weA (a w p : Nat) : Nat := p ^ (a - pcf 32 w) * (12 - p) ^ pcf 32 w
def swW (a p : Nat) : Nat → Nat
  | 0 => 0
  | w + 1 => swW a p w + weA a w p
theorem sw_all : ∀ a, a < 5 → ∀ p, p < 13 → swW a p (2 ^ a) = 12 ^ a := by decide +kernel
theorem we_0 : ∀ a, a < 5 → ∀ w, w < 2 ^ a - 1 → weA a w 0 = 0 := by decide +kernel
theorem we_0' : ∀ a, a < 5 → weA a (2 ^ a - 1) 0 = 12 ^ a := by decide +kernel
theorem we_12 : ∀ a, a < 5 → ∀ w, w < 2 ^ a → 0 < w → weA a w 12 = 0 := by decide +kernel
theorem we_12' : ∀ a, a < 5 → weA a 0 12 = 12 ^ a := by decide +kernel
theorem tb_full : ∀ a, a < 5 → ∀ i, i < a → tbB (2 ^ a - 1) i = true := by decide +kernel
theorem ot_le {d : PD} (X l p : Nat) : ∀ n, otN d X l p n ≤ swW d.nA p n
  | 0 => Nat.le_refl 0
  | w + 1 => by
    have ih := ot_le (d := d) X l p w
    show otN d X l p w + (if tkrN (tkN d X 27 w d.nA).1 l = 0 then 0 else weN d w p) ≤ swW d.nA p w + weA d.nA w p
    have e : weN d w p = weA d.nA w p := rfl
    split <;> omega
theorem ot_all {d : PD} (hd : d.ok) (X l : Nat) {p : Nat} (hp : p < 13) : otN d X l p (2 ^ d.nA) ≤ 12 ^ d.nA := by
  rw [← sw_all d.nA (by have := hd.a4; omega) p hp]
  exact ot_le X l p _
/-- all awake: as today -/
theorem tk_full {d : PD} (hd : d.ok) (X : Nat) : ∀ p, p ≤ d.nA → tkN d X 27 (2 ^ d.nA - 1) p = tkN d X 27 15 p
  | 0, _ => rfl
  | p + 1, h => by
    have h4 := hd.a4
    have ih := tk_full hd X p (by omega)
    rw [tk27_s d X _ (show p < 4 by omega), tk27_s d X 15 (show p < 4 by omega)]
    have e : coN d X (2 ^ d.nA - 1) p = coN d X 15 p := by
      unfold coN
      rw [tb_full d.nA (by omega) p (by omega), tb_15 p (by omega), ih]
    rw [e, ih]
/-- all asleep: nobody -/
theorem tk_none {d : PD} (X : Nat) : ∀ p, p ≤ 4 → tkN d X 27 0 p = (0, 0)
  | 0, _ => rfl
  | p + 1, h => by
    rw [tk27_s d X 0 (by omega)]
    have e : coN d X 0 p = 0 := if_neg (by rw [tbB_bit, Nat.zero_testBit]; decide)
    rw [if_pos e]
    exact tk_none X p (by omega)
theorem ot_0 {d : PD} (hd : d.ok) (X l : Nat) : otN d X l 0 (2 ^ d.nA) = if tkrN (tkN d X 27 15 d.nA).1 l = 0 then 0 else 12 ^ d.nA := by
  have h4 := hd.a4
  have z : ∀ n, n ≤ 2 ^ d.nA - 1 → otN d X l 0 n = 0 := by
    intro n
    induction n with
    | zero => exact fun _ => rfl
    | succ w ih =>
      intro h
      show otN d X l 0 w + (if tkrN (tkN d X 27 w d.nA).1 l = 0 then 0 else weN d w 0) = 0
      rw [ih (by omega), show weN d w 0 = 0 from we_0 d.nA (by omega) w (by omega)]
      split <;> rfl
  have hp := Nat.two_pow_pos d.nA
  obtain ⟨m, hm⟩ : ∃ m, 2 ^ d.nA = m + 1 := ⟨2 ^ d.nA - 1, by omega⟩
  have em : 2 ^ d.nA - 1 = m := by omega
  have ht := tk_full hd X d.nA (Nat.le_refl _)
  have hw := we_0' d.nA (by omega)
  rw [em] at ht hw z
  rw [hm]
  show otN d X l 0 m + (if tkrN (tkN d X 27 m d.nA).1 l = 0 then 0 else weN d m 0) = _
  rw [z m (Nat.le_refl m), ht, show weN d m 0 = 12 ^ d.nA from hw, Nat.zero_add]
theorem ot_12 {d : PD} (hd : d.ok) (X l : Nat) : otN d X l 12 (2 ^ d.nA) = 0 := by
  have h4 := hd.a4
  have z : ∀ n, n ≤ 2 ^ d.nA → otN d X l 12 n = 0 := by
    intro n
    induction n with
    | zero => exact fun _ => rfl
    | succ w ih =>
      intro h
      show otN d X l 12 w + (if tkrN (tkN d X 27 w d.nA).1 l = 0 then 0 else weN d w 12) = 0
      rw [ih (by omega)]
      by_cases e : w = 0
      · subst e
        rw [tk_none X d.nA h4, if_pos ?_]
        unfold tkrN
        rw [ffN_zero]
        intro j hj
        refine decide_eq_false ?_
        show ¬ getN 0 (3 * j) 3 = l + 1
        rw [show getN 0 (3 * j) 3 = 0 from by unfold getN; rw [Nat.zero_div, Nat.zero_mod]]
        omega
      · rw [show weN d w 12 = 0 from we_12 d.nA (by omega) w (by omega) (by omega)]
        split <;> rfl
  exact z _ (Nat.le_refl _)
/-- homes of a state -/
def hcN (d : PD) (X : Nat) : Nat := pcf 32 (bsN (hmB d X) d.nL)
theorem hc_cn {d : PD} (hd : d.ok) (X : Nat) : hcN d X = cnN (hmB d X) d.nL := by
  have h5 := hd.l5
  unfold hcN
  rw [pc_big (f := 16) (g := 16) (Nat.lt_of_lt_of_le (bsN_lt _ _) (Nat.pow_le_pow_right (by decide) (by omega))), ← cn_pc]
  exact cn_tb (by omega)
theorem hc_le {d : PD} (hd : d.ok) (X : Nat) : hcN d X ≤ d.nL := by
  rw [hc_cn hd]
  exact cnN_le _ _
theorem hc_dw {d : PD} (hd : d.ok) (X w : Nat) : hcN d X ≤ hcN d (dwN d X w) := by
  rw [hc_cn hd, hc_cn hd]
  exact cnN_mono (fun l h => hm_dw hd h) _
theorem oh_b {d : PD} (hd : d.ok) (X p : Nat) : ∀ n, hcN d X * swW d.nA p n ≤ ohN d X p n ∧ ohN d X p n ≤ d.nL * swW d.nA p n
  | 0 => ⟨by show hcN d X * 0 ≤ 0; omega, Nat.zero_le _⟩
  | w + 1 => by
    obtain ⟨h1, h2⟩ := oh_b hd X p w
    have h3 := hc_dw hd X w
    have h4 := hc_le hd (dwN d X w)
    have e : ohN d X p (w + 1) = ohN d X p w + hcN d (dwN d X w) * weA d.nA w p := rfl
    have e2 : swW d.nA p (w + 1) = swW d.nA p w + weA d.nA w p := rfl
    rw [e, e2, Nat.mul_add, Nat.mul_add]
    have h5 := Nat.mul_le_mul_right (weA d.nA w p) h3
    have h6 := Nat.mul_le_mul_right (weA d.nA w p) h4
    omega
theorem oh_all {d : PD} (hd : d.ok) (X : Nat) {p : Nat} (hp : p < 13) : hcN d X * 12 ^ d.nA ≤ ohN d X p (2 ^ d.nA) ∧ ohN d X p (2 ^ d.nA) ≤ d.nL * 12 ^ d.nA := by
  have h := oh_b hd X p (2 ^ d.nA)
  rw [sw_all d.nA (by have := hd.a4; omega) p hp] at h
  exact h
theorem oh_0 {d : PD} (hd : d.ok) (X : Nat) : ohN d X 0 (2 ^ d.nA) = hcN d (dayN d X) * 12 ^ d.nA := by
  have h4 := hd.a4
  have z : ∀ n, n ≤ 2 ^ d.nA - 1 → ohN d X 0 n = 0 := by
    intro n
    induction n with
    | zero => exact fun _ => rfl
    | succ w ih =>
      intro h
      show ohN d X 0 w + pcf 32 (bsN (hmB d (goN d X (tkN d X 27 w d.nA).1 d.nA)) d.nL) * weN d w 0 = 0
      rw [ih (by omega), show weN d w 0 = 0 from we_0 d.nA (by omega) w (by omega), Nat.mul_zero]
  have hp := Nat.two_pow_pos d.nA
  obtain ⟨m, hm⟩ : ∃ m, 2 ^ d.nA = m + 1 := ⟨2 ^ d.nA - 1, by omega⟩
  have em : 2 ^ d.nA - 1 = m := by omega
  have ht := tk_full hd X d.nA (Nat.le_refl _)
  have hw := we_0' d.nA (by omega)
  rw [em] at ht hw z
  rw [hm]
  show ohN d X 0 m + pcf 32 (bsN (hmB d (goN d X (tkN d X 27 m d.nA).1 d.nA)) d.nL) * weN d m 0 = _
  rw [z m (Nat.le_refl m), ht, show weN d m 0 = 12 ^ d.nA from hw, Nat.zero_add]
  rfl
theorem go_none {d : PD} {X : Nat} : ∀ p, goN d X 0 p = X
  | 0 => rfl
  | p + 1 => by
    rw [goN_s, if_pos (by unfold getN; rw [Nat.zero_div, Nat.zero_mod])]
    exact go_none p
theorem oh_12 {d : PD} (hd : d.ok) (X : Nat) : ohN d X 12 (2 ^ d.nA) = hcN d X * 12 ^ d.nA := by
  have h4 := hd.a4
  have z : ∀ n, n < 2 ^ d.nA → ohN d X 12 (n + 1) = hcN d X * 12 ^ d.nA := by
    intro n
    induction n with
    | zero =>
      intro _
      show 0 + pcf 32 (bsN (hmB d (goN d X (tkN d X 27 0 d.nA).1 d.nA)) d.nL) * weN d 0 12 = _
      rw [tk_none X d.nA h4, show weN d 0 12 = 12 ^ d.nA from we_12' d.nA (by omega), Nat.zero_add]
      show pcf 32 (bsN (hmB d (goN d X 0 d.nA)) d.nL) * 12 ^ d.nA = _
      rw [go_none]
      rfl
    | succ w ih =>
      intro h
      show ohN d X 12 (w + 1) + pcf 32 (bsN (hmB d (goN d X (tkN d X 27 (w + 1) d.nA).1 d.nA)) d.nL) * weN d (w + 1) 12 = _
      rw [ih (by omega), show weN d (w + 1) 12 = 0 from we_12 d.nA (by omega) _ h (by omega), Nat.mul_zero, Nat.add_zero]
  have hp := Nat.two_pow_pos d.nA
  obtain ⟨m, hm⟩ : ∃ m, 2 ^ d.nA = m + 1 := ⟨2 ^ d.nA - 1, by omega⟩
  rw [hm]
  exact z m (by omega)
/-- a fraction in its lowest terms -/
theorem fr_le {o t : Nat} (ht : 0 < t) (h : o ≤ t) : o / Nat.gcd o t ≤ t / Nat.gcd o t ∧ 0 < t / Nat.gcd o t := by
  have hg : 0 < Nat.gcd o t := Nat.gcd_pos_of_pos_right o ht
  exact ⟨Nat.div_le_div_right h, Nat.div_pos (Nat.le_of_dvd ht (Nat.gcd_dvd_right o t)) hg⟩
theorem fr_b {o t a b : Nat} (ht : 0 < t) (h1 : a * t ≤ o) (h2 : o ≤ b * t) : a * (t / Nat.gcd o t) ≤ o / Nat.gcd o t ∧ o / Nat.gcd o t ≤ b * (t / Nat.gcd o t) := by
  have hg : 0 < Nat.gcd o t := Nat.gcd_pos_of_pos_right o ht
  obtain ⟨u, hu⟩ := Nat.gcd_dvd_left o t
  obtain ⟨v, hv⟩ := Nat.gcd_dvd_right o t
  generalize Nat.gcd o t = g at hg hu hv
  subst hu
  subst hv
  rw [Nat.mul_div_cancel_left u hg, Nat.mul_div_cancel_left v hg]
  rw [Nat.mul_left_comm] at h1
  rw [Nat.mul_left_comm b] at h2
  exact ⟨Nat.le_of_mul_le_mul_left h1 hg, Nat.le_of_mul_le_mul_left h2 hg⟩
theorem fr_m {a t : Nat} (ht : 0 < t) : a * t / Nat.gcd (a * t) t = a ∧ t / Nat.gcd (a * t) t = 1 := by
  have e : Nat.gcd (a * t) t = t := Nat.gcd_eq_right (Nat.dvd_mul_left t a)
  rw [e]
  exact ⟨Nat.mul_div_cancel a ht, Nat.div_self ht⟩
