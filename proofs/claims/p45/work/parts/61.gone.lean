/-! WHAT A DAY DOES, field by field -/
theorem in_go {d : PD} {X T : Nat} {j : Nat} (hj : j < 4) : ∀ p, p ≤ 4 → inN (goN d X T p) j = if j < p ∧ ¬ getN T (3 * j) 3 = 0 then rdN d (inN X j) else inN X j
  | 0, _ => by
    rw [if_neg (fun q => absurd q.1 (Nat.not_lt_zero j))]
    rfl
  | i + 1, hp => by
    have ih := in_go (d := d) (X := X) (T := T) hj i (by omega)
    have hr := rdN_8 d (inN X i)
    rw [goN_s]
    by_cases h0 : getN T (3 * i) 3 = 0
    · rw [if_pos h0, ih]
      by_cases e : j = i
      · subst e
        rw [if_neg (fun q => q.2 h0), if_neg (fun q => q.2 h0)]
      · by_cases e2 : j < i ∧ ¬ getN T (3 * j) 3 = 0
        · rw [if_pos e2, if_pos ⟨by omega, e2.2⟩]
        · rw [if_neg e2, if_neg (fun q => e2 ⟨by omega, q.2⟩)]
    · rw [if_neg h0]
      have key : inN (sePl (seIn (goN d X T i) i (rdN d (inN X i))) (getN T (3 * i) 3 - 1) (rdN d (inN X i))) j = if j < i + 1 ∧ ¬ getN T (3 * j) 3 = 0 then rdN d (inN X j) else inN X j := by
        rw [in_pl hj hr, in_in hr]
        by_cases e : j = i
        · subst e
          rw [if_pos rfl, if_pos ⟨Nat.lt_succ_self j, h0⟩]
        · rw [if_neg e, ih]
          by_cases e2 : j < i ∧ ¬ getN T (3 * j) 3 = 0
          · rw [if_pos e2, if_pos ⟨by omega, e2.2⟩]
          · rw [if_neg e2, if_neg (fun q => e2 ⟨by omega, q.2⟩)]
      by_cases h2 : kdN d i = 2
      · rw [if_pos h2, in_me (mkN_16 _ _)]
        exact key
      · rw [if_neg h2]
        exact key
theorem mk_go {d : PD} {X T : Nat} {l : Nat} : ∀ p, p ≤ 4 → mkN (goN d X T p) l = mkN X l
  | 0, _ => rfl
  | i + 1, hp => by
    have ih := mk_go (d := d) (X := X) (T := T) (l := l) i (by omega)
    have hr := rdN_8 d (inN X i)
    rw [goN_s]
    by_cases h0 : getN T (3 * i) 3 = 0
    · rw [if_pos h0, ih]
    · rw [if_neg h0]
      by_cases h2 : kdN d i = 2
      · rw [if_pos h2, mk_me (by omega) (mkN_16 _ _), mk_pl hr, mk_in (by omega) hr, ih]
      · rw [if_neg h2, mk_pl hr, mk_in (by omega) hr, ih]
theorem me_go {d : PD} {X T : Nat} {j : Nat} (hj : j < 4) : ∀ p, p ≤ 4 → meN (goN d X T p) j = if j < p ∧ ¬ getN T (3 * j) 3 = 0 ∧ kdN d j = 2 then mkN X (getN T (3 * j) 3 - 1) else meN X j
  | 0, _ => by
    rw [if_neg (fun q => absurd q.1 (Nat.not_lt_zero j))]
    rfl
  | i + 1, hp => by
    have ih := me_go (d := d) (X := X) (T := T) hj i (by omega)
    have hr := rdN_8 d (inN X i)
    rw [goN_s]
    by_cases h0 : getN T (3 * i) 3 = 0
    · rw [if_pos h0, ih]
      by_cases e : j = i
      · subst e
        rw [if_neg (fun q => q.2.1 h0), if_neg (fun q => q.2.1 h0)]
      · by_cases e2 : j < i ∧ ¬ getN T (3 * j) 3 = 0 ∧ kdN d j = 2
        · rw [if_pos e2, if_pos ⟨by omega, e2.2⟩]
        · rw [if_neg e2, if_neg (fun q => e2 ⟨by omega, q.2⟩)]
    · rw [if_neg h0]
      by_cases h2 : kdN d i = 2
      · rw [if_pos h2, me_me (mkN_16 _ _)]
        by_cases e : j = i
        · subst e
          rw [if_pos rfl, if_pos ⟨Nat.lt_succ_self j, h0, h2⟩]
        · rw [if_neg e, me_pl hj hr, me_in hr, ih]
          by_cases e2 : j < i ∧ ¬ getN T (3 * j) 3 = 0 ∧ kdN d j = 2
          · rw [if_pos e2, if_pos ⟨by omega, e2.2⟩]
          · rw [if_neg e2, if_neg (fun q => e2 ⟨by omega, q.2⟩)]
      · rw [if_neg h2, me_pl hj hr, me_in hr, ih]
        by_cases e : j = i
        · subst e
          rw [if_neg (fun q => h2 q.2.2), if_neg (fun q => h2 q.2.2)]
        · by_cases e2 : j < i ∧ ¬ getN T (3 * j) 3 = 0 ∧ kdN d j = 2
          · rw [if_pos e2, if_pos ⟨by omega, e2.2⟩]
          · rw [if_neg e2, if_neg (fun q => e2 ⟨by omega, q.2⟩)]
theorem pl_goS {d : PD} {X T l i : Nat} (hi : i < 4) : plN (goN d X T (i + 1)) l = if getN T (3 * i) 3 = l + 1 then rdN d (inN X i) else plN (goN d X T i) l := by
  have hr := rdN_8 d (inN X i)
  rw [goN_s]
  by_cases h0 : getN T (3 * i) 3 = 0
  · rw [if_pos h0, if_neg (by omega)]
  · rw [if_neg h0]
    have key : plN (sePl (seIn (goN d X T i) i (rdN d (inN X i))) (getN T (3 * i) 3 - 1) (rdN d (inN X i))) l = if getN T (3 * i) 3 = l + 1 then rdN d (inN X i) else plN (goN d X T i) l := by
      rw [pl_pl hr, pl_in hi hr]
      by_cases e : getN T (3 * i) 3 = l + 1
      · rw [if_pos (by omega), if_pos e]
      · rw [if_neg (by omega), if_neg e]
    by_cases h2 : kdN d i = 2
    · rw [if_pos h2, pl_me hi (mkN_16 _ _)]
      exact key
    · rw [if_neg h2]
      exact key
theorem pl_goF {d : PD} {X T l : Nat} : ∀ p, p ≤ 4 → (∀ j, j < p → ¬ getN T (3 * j) 3 = l + 1) → plN (goN d X T p) l = plN X l
  | 0, _, _ => rfl
  | i + 1, hp, h => by
    rw [pl_goS (by omega), if_neg (h i (Nat.lt_succ_self i))]
    exact pl_goF i (by omega) (fun j hj => h j (by omega))
theorem pl_goT {d : PD} {X T l j : Nat} (hc : getN T (3 * j) 3 = l + 1) (hu : ∀ i, getN T (3 * i) 3 = l + 1 → i = j) : ∀ p, p ≤ 4 → j < p → plN (goN d X T p) l = rdN d (inN X j)
  | 0, _, h => absurd h (Nat.not_lt_zero j)
  | i + 1, hp, h => by
    rw [pl_goS (by omega)]
    by_cases e : getN T (3 * i) 3 = l + 1
    · rw [if_pos e, hu i e]
    · rw [if_neg e]
      refine pl_goT hc hu i (by omega) ?_
      by_cases q : j = i
      · subst q
        exact absurd hc e
      · omega
/-- a day on which some sleep -/
def dwN (d : PD) (X w : Nat) : Nat := goN d X (tkN d X 27 w d.nA).1 d.nA
theorem dwN_15 (d : PD) (X : Nat) : dwN d X 15 = dayN d X := rfl
theorem in_dw {d : PD} (hd : d.ok) {X w j : Nat} (hj : j < d.nA) : inN (dwN d X w) j = if tcN d X w j = 0 then inN X j else rdN d (inN X j) := by
  have ha := hd.a4
  unfold dwN
  rw [in_go (by omega) _ ha, tc_get hd]
  by_cases h : tcN d X w j = 0
  · rw [if_neg (fun q => q.2 h), if_pos h]
  · rw [if_pos ⟨hj, h⟩, if_neg h]
theorem me_dw {d : PD} (hd : d.ok) {X w j : Nat} (hj : j < d.nA) : meN (dwN d X w) j = if ¬ tcN d X w j = 0 ∧ kdN d j = 2 then mkN X (tcN d X w j - 1) else meN X j := by
  have ha := hd.a4
  unfold dwN
  rw [me_go (by omega) _ ha, tc_get hd]
  by_cases h : ¬ tcN d X w j = 0 ∧ kdN d j = 2
  · rw [if_pos ⟨hj, h⟩, if_pos h]
  · rw [if_neg (fun q => h q.2), if_neg h]
theorem mk_dw {d : PD} (hd : d.ok) {X w l : Nat} : mkN (dwN d X w) l = mkN X l := mk_go _ hd.a4
theorem pl_dwT {d : PD} (hd : d.ok) {X w l j : Nat} (h : tcN d X w j = l + 1) : plN (dwN d X w) l = rdN d (plN X l) := by
  have hl := tc_l hd h
  unfold dwN
  rw [pl_goT (j := j) (by rw [tc_get hd]; exact h) (fun i hi => by rw [tc_get hd] at hi; exact tc_inj hd hi h) _ hd.a4 hl.1, hl.2.2.2.1]
theorem pl_dwF {d : PD} (hd : d.ok) {X w l : Nat} (h : ∀ j, ¬ tcN d X w j = l + 1) : plN (dwN d X w) l = plN X l := pl_goF _ hd.a4 (fun j _ => by rw [tc_get hd]; exact h j)
/-- homes stay homes -/
theorem hm_dw {d : PD} (hd : d.ok) {X w l : Nat} (h : hmB d X l = true) : hmB d (dwN d X w) l = true := by
  have h := of_decide_eq_true h
  refine decide_eq_true ?_
  rw [pl_dwF hd (fun j q => (tc_l hd q).2.2.2.2.1 h)]
  exact h
theorem hm_dy {d : PD} (hd : d.ok) {X l : Nat} : ∀ {k n : Nat}, k ≤ n → hmB d (dyN d X k) l = true → hmB d (dyN d X n) l = true
  | k, 0, h, h2 => by
    obtain rfl : k = 0 := by omega
    exact h2
  | k, n + 1, h, h2 => by
    by_cases e : k = n + 1
    · subst e
      exact h2
    · exact hm_dw (w := 15) hd (hm_dy hd (k := k) (n := n) (by omega) h2)
theorem bs_full {f : Nat → Bool} : ∀ {n}, bsN f n = 2 ^ n - 1 ↔ ∀ i, i < n → f i = true := by
  intro n
  refine ⟨fun h i hi => ?_, fun h => ?_⟩
  · have := bsN_bit f n i
    rw [h, Nat.testBit_two_pow_sub_one] at this
    simpa [hi] using this
  · apply Nat.eq_of_testBit_eq
    intro i
    rw [bsN_bit, Nat.testBit_two_pow_sub_one]
    by_cases hi : i < n
    · simp [hi, h i hi]
    · simp [hi]
theorem ah_iff {d : PD} {X : Nat} : ahB d X = true ↔ ∀ l, l < d.nL → hmB d X l = true := by
  unfold ahB
  rw [decide_eq_true_iff, bs_full]
theorem ah_dy {d : PD} (hd : d.ok) {X : Nat} {k n : Nat} (h : k ≤ n) (h2 : ahB d (dyN d X k) = true) : ahB d (dyN d X n) = true := ah_iff.mpr (fun l hl => hm_dy hd h (ah_iff.mp h2 l hl))
