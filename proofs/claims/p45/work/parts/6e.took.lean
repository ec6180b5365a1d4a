/-! TOOK: memories fit what it took, its own if it took so -/
/-- n pairs of marks and whether it took them, in row r -/
def PR (v : Nat → Int32) (r n : Nat) (f : Nat → Nat) (b : Nat → Bool) : Prop := ∀ j, j < n → v (40 * r + 2 * j) = nI (f j) ∧ v (40 * r + (2 * j + 1)) = bI (b j) ∧ f j < 16
theorem bI_v (b : Bool) : bI b = nI 1 ↔ b = true := by cases b <;> decide
theorem ib_b (b : Bool) : ibB (bI b) 2 = true := by cases b <;> decide
theorem wp_ok {v : Nat → Int32} {r n : Nat} {f : Nat → Nat} {b : Nat → Bool} (h : PR v r n f b) (hn : n ≤ 8) : wpN v r (2 * n + 1) = 0 := by
  unfold wpN
  rw [if_neg (by omega), if_neg (by omega), if_pos]
  rw [show (2 * n + 1 - 1) / 2 = n by omega, ffN_zero]
  intro j hj
  obtain ⟨h1, h2, h3⟩ := h j hj
  unfold bpF
  rw [h1, h2, ibB_n h3 (by decide), ib_b]
  rfl
theorem ft_iff {v : Nat → Int32} {r n : Nat} {f : Nat → Nat} {b : Nat → Bool} (h : PR v r n f b) (k m : Nat) : ftB v r k m n = true ↔ ∀ j, j < n → wtN k m (f j) = b j := by
  unfold ftB
  rw [decide_eq_true_iff, ffN_zero]
  have e : ∀ j, j < n → (ftF v r k m j = false ↔ wtN k m (f j) = b j) := fun j hj => by
    obtain ⟨h1, h2, h3⟩ := h j hj
    unfold ftF prA prB
    rw [h1, h2, nI_clamp (by omega)]
    have e2 : decide (bI (b j) = nI 1) = b j := by cases b j <;> decide
    rw [e2]
    cases wtN k m (f j) <;> cases b j <;> decide
  exact ⟨fun q j hj => (e j hj).mp (q j hj), fun q j hj => (e j hj).mpr (q j hj)⟩
theorem ft_s {v w : Nat → Int32} {r t n : Nat} {f : Nat → Nat} {b : Nat → Bool} (h : PR v r n f b) {x : Nat} {y : Bool} (h2 : PR w t n f b) (h3 : w (40 * t + 2 * n) = nI x) (h4 : w (40 * t + (2 * n + 1)) = bI y) (hx : x < 16) (k m : Nat) : ftB w t k m (n + 1) = (ftB v r k m n && (wtN k m x == y)) := by
  have hp : PR w t (n + 1) (fun j => if j = n then x else f j) (fun j => if j = n then y else b j) := by
    intro j hj
    show w (40 * t + 2 * j) = nI (if j = n then x else f j) ∧ w (40 * t + (2 * j + 1)) = bI (if j = n then y else b j) ∧ (if j = n then x else f j) < 16
    by_cases e : j = n
    · subst e
      rw [if_pos rfl, if_pos rfl]
      exact ⟨h3, h4, hx⟩
    · rw [if_neg e, if_neg e]
      exact h2 j (by omega)
  have e1 := ft_iff hp k m
  have e2 := ft_iff h k m
  cases hb : ftB v r k m n
  · rw [hb] at e2
    cases hc : ftB w t k m (n + 1)
    · rfl
    · rw [hc] at e1
      have := e2.mpr (fun j hj => by
        have := e1.mp rfl j (by omega)
        rw [if_neg (by omega), if_neg (by omega)] at this
        exact this)
      cases this
  · rw [hb] at e2
    have e3 := e2.mp rfl
    cases hw : wtN k m x == y
    · cases hc : ftB w t k m (n + 1)
      · rfl
      · rw [hc] at e1
        have := e1.mp rfl n (Nat.lt_succ_self n)
        rw [if_pos rfl, if_pos rfl] at this
        rw [this] at hw
        cases y <;> cases hw
    · have hw := eq_of_beq hw
      have := e1.mpr (fun j hj => by
        by_cases e : j = n
        · subst e
          rw [if_pos rfl, if_pos rfl]
          exact hw
        · rw [if_neg e, if_neg e]
          exact e3 j (by omega))
      rw [this]
      rfl
theorem cn_split (f g : Nat → Bool) : ∀ n, cnN (fun m => f m && g m) n + cnN (fun m => f m && !g m) n = cnN f n
  | 0 => rfl
  | n + 1 => by
    have ih := cn_split f g n
    show cnN (fun m => f m && g m) n + (f n && g n).toNat + (cnN (fun m => f m && !g m) n + (f n && !g n).toNat) = cnN f n + (f n).toNat
    have e : (f n && g n).toNat + (f n && !g n).toNat = (f n).toNat := by cases f n <;> cases g n <;> rfl
    omega
theorem pc_16 {p : Nat} (h : p < 2 ^ 16) : cnN (tbB p) 16 = pcf 32 p := by
  rw [pc_big (f := 16) (g := 16) h, ← cn_pc]
theorem bs_or {f g h : Nat → Bool} {n : Nat} (e : ∀ i, i < n → h i = (f i || g i)) : bsN f n ||| bsN g n = bsN h n := by
  apply Nat.eq_of_testBit_eq
  intro i
  rw [Nat.testBit_or, bsN_bit, bsN_bit, bsN_bit]
  by_cases hi : i < n
  · rw [e i hi]
    simp [hi]
  · simp [hi]
theorem bs_and0 {f g : Nat → Bool} {n : Nat} (e : ∀ i, i < n → (f i && g i) = false) : bsN f n &&& bsN g n = 0 := by
  apply Nat.eq_of_testBit_eq
  intro i
  rw [Nat.testBit_and, bsN_bit, bsN_bit, Nat.zero_testBit]
  by_cases hi : i < n
  · have := e i hi
    simp only [hi, decide_true, Bool.true_and]
    exact this
  · simp [hi]
/-- the two answers part the memories -/
theorem part_sp {p k x : Nat} {Y N : Nat → Bool} (hp : p < 2 ^ 16) (hY : ∀ m, m < 16 → Y m = (tbB p m && (wtN k m x == true))) (hN : ∀ m, m < 16 → N m = (tbB p m && (wtN k m x == false))) : bsN Y 16 &&& bsN N 16 = 0 ∧ bsN Y 16 ||| bsN N 16 = p ∧ cnN (tbB (bsN Y 16)) 16 = gtN k p x ∧ cnN (tbB (bsN N 16)) 16 = pcf 32 p - gtN k p x := by
  have hY2 : ∀ m, m < 16 → Y m = (tbB p m && wtN k m x) := fun m hm => by rw [hY m hm]; cases wtN k m x <;> rfl
  have hN2 : ∀ m, m < 16 → N m = (tbB p m && !wtN k m x) := fun m hm => by rw [hN m hm]; cases wtN k m x <;> rfl
  refine ⟨bs_and0 (fun m hm => ?_), ?_, ?_, ?_⟩
  · rw [hY2 m hm, hN2 m hm]
    cases tbB p m <;> cases wtN k m x <;> rfl
  · rw [bs_or (h := tbB p) (fun m hm => by rw [hY2 m hm, hN2 m hm]; cases tbB p m <;> cases wtN k m x <;> rfl)]
    apply Nat.eq_of_testBit_eq
    intro i
    rw [bsN_bit, tbB_bit]
    by_cases hi : i < 16
    · simp [hi]
    · rw [Nat.testBit_lt_two_pow (Nat.lt_of_lt_of_le hp (Nat.pow_le_pow_right (by decide) (by omega)))]
      simp [hi]
  · rw [cn_tb (by decide)]
    exact cnN_cong hY2
  · rw [cn_tb (by decide), cnN_cong hN2]
    have h := cn_split (tbB p) (fun m => wtN k m x) 16
    rw [pc_16 hp] at h
    have e : gtN k p x = cnN (fun m => tbB p m && wtN k m x) 16 := rfl
    rw [e]
    omega
theorem gp_max (k p x : Nat) : gpN k p x = if pcf 32 p - gtN k p x < gtN k p x then gtN k p x else pcf 32 p - gtN k p x := by
  unfold gpN
  split
  · rw [if_neg (by omega)]
  · split <;> omega
theorem gp_b {k p x : Nat} (hp : p < 2 ^ 16) : gpN k p x ≤ pcf 32 p ∧ pcf 32 p ≤ 2 * gpN k p x := by
  have h := gtN_le (k := k) (x := x) hp
  unfold gpN
  split <;> omega
theorem aw_le {f : Nat → Nat} {B : Nat} (hf : ∀ m, f m ≤ B) (w : Bool) (m : Nat) : ∀ k, awN f w m k ≤ B
  | 0 => hf m
  | k + 1 => by
    have ih := aw_le hf w m k
    have h := hf (m ^^^ 2 ^ k)
    show (if w then (if awN f w m k < f (m ^^^ 2 ^ k) then f (m ^^^ 2 ^ k) else awN f w m k) else (if f (m ^^^ 2 ^ k) < awN f w m k then f (m ^^^ 2 ^ k) else awN f w m k)) ≤ B
    repeat' split
    all_goals omega
theorem tu_le {f : Nat → Nat} {B : Nat} (hf : ∀ m, f m ≤ B) : ∀ n m, tuN f n m ≤ B
  | 0, m => hf m
  | n + 1, m => aw_le (fun m => aw_le (tu_le hf n) false m 4) true m 4
theorem wr_le {d : PD} (X m : Nat) : wrN d X m ≤ d.nA := by
  unfold wrN
  split
  · exact pcf_lt (bsN_lt _ _)
  · exact Nat.zero_le _
