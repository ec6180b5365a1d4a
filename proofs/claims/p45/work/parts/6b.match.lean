/-! MATCH: it comes to what it says, no less than the line -/
theorem mo_ge0 (d : PD) (X i g : Nat) (b : Nat → Nat) : ∀ n, b g ≤ moN d X i g b n
  | 0 => Nat.le_refl _
  | n + 1 => by
    have ih := mo_ge0 d X i g b n
    rw [moN_s]
    split
    · exact ih
    · split <;> omega
theorem mo_ge (d : PD) (X i g : Nat) (b : Nat → Nat) {l : Nat} : ∀ n, l < n → 0 < puN d X i g l → puN d X i g l + b (g ||| 2 ^ l) ≤ moN d X i g b n
  | 0, h, _ => absurd h (Nat.not_lt_zero l)
  | n + 1, h, hp => by
    rw [moN_s]
    by_cases e : l = n
    · subst e
      rw [if_neg (by omega)]
      split <;> omega
    · have ih := mo_ge d X i g b n (show l < n by omega) hp
      split
      · exact ih
      · split <;> omega
theorem mo_at (d : PD) (X i g : Nat) (b : Nat → Nat) : ∀ n, moN d X i g b n = b g ∨ ∃ l, l < n ∧ 0 < puN d X i g l ∧ moN d X i g b n = puN d X i g l + b (g ||| 2 ^ l)
  | 0 => Or.inl rfl
  | n + 1 => by
    have ih := mo_at d X i g b n
    rw [moN_s]
    by_cases h0 : puN d X i g n = 0
    · rw [if_pos h0]
      rcases ih with h | ⟨l, h1, h2, h3⟩
      · exact Or.inl h
      · exact Or.inr ⟨l, by omega, h2, h3⟩
    · rw [if_neg h0]
      by_cases h1 : moN d X i g b n < puN d X i g n + b (g ||| 2 ^ n)
      · rw [if_pos h1]
        exact Or.inr ⟨n, Nat.lt_succ_self n, by omega, rfl⟩
      · rw [if_neg h1]
        rcases ih with h | ⟨l, h1, h2, h3⟩
        · exact Or.inl h
        · exact Or.inr ⟨l, by omega, h2, h3⟩
theorem mw_in {p v m : Nat} (hp : p + v < 2 ^ 31) (hm : m < 2 ^ 31) (h : mwI p v = nI m) : 0 < p ∧ p + v = m := by
  unfold mwI at h
  by_cases e : p = 0
  · rw [if_pos e] at h
    have h2 := congrArg Int32.toInt h
    rw [ng_T (by decide), nI_toInt hm] at h2
    omega
  · rw [if_neg e] at h
    exact ⟨by omega, nI_j hp hm h⟩
theorem v_s {d : PD} {X i g : Nat} (hi : i < d.nA) : vN d X (d.nA - i) g = moN d X i g (vN d X (d.nA - (i + 1))) d.nL := by
  obtain ⟨k, hk⟩ : ∃ k, d.nA - i = k + 1 := ⟨d.nA - i - 1, by omega⟩
  rw [hk, show d.nA - (i + 1) = k by omega]
  show moN d X (d.nA - (k + 1)) g (vN d X k) d.nL = _
  rw [show d.nA - (k + 1) = i by omega]
/-- what one is given: nothing is lost by giving nothing; or what is given pulls, and all is made up of it -/
theorem gc_sp {d : PD} (hd : d.ok) {X i g : Nat} (hi : i < d.nA) (hg : g < 32) : (gcN d X i g = 0 ∧ vN d X (d.nA - i) g = vN d X (d.nA - (i + 1)) g) ∨ (∃ l, gcN d X i g = l + 1 ∧ l < d.nL ∧ 0 < puN d X i g l ∧ vN d X (d.nA - i) g = puN d X i g l + vN d X (d.nA - (i + 1)) (g ||| 2 ^ l)) := by
  have h4 := hd.a4
  have h5 := hd.l5
  have hb : ∀ k g, k ≤ 4 → g < 32 → vN d X k g ≤ 32 := fun k g hk hg => by
    have := vN_le hd X k g hg
    omega
  have hge := mo_ge0 d X i g (vN d X (d.nA - (i + 1))) d.nL
  rw [← v_s hi] at hge
  by_cases h : vN d X (d.nA - (i + 1)) g < vN d X (d.nA - i) g
  · right
    rcases mo_at d X i g (vN d X (d.nA - (i + 1))) d.nL with q | ⟨l0, q1, q2, q3⟩
    · rw [← v_s hi] at q
      omega
    · rw [← v_s hi] at q3
      have hne : fwB d X i g (vN d X (d.nA - i) g) (vN d X (d.nA - (i + 1))) l0 = true := decide_eq_true (by
        unfold mwI
        rw [if_neg (by omega), q3])
      have e : gcN d X i g = ffN (fwB d X i g (vN d X (d.nA - i) g) (vN d X (d.nA - (i + 1)))) d.nL := if_pos h
      rw [e]
      rcases hf : ffN (fwB d X i g (vN d X (d.nA - i) g) (vN d X (d.nA - (i + 1)))) d.nL with _ | l
      · have := ffN_zero.mp hf l0 q1
        rw [hne] at this
        cases this
      · obtain ⟨p1, p2, -⟩ := ffN_iff.mp hf
        have p2 := of_decide_eq_true p2
        have b1 := hb (d.nA - (i + 1)) (g ||| 2 ^ l) (by omega) (or_32 hg (by omega))
        have b2 := hb (d.nA - i) g (by omega) hg
        have b3 := puN_le d X i g l
        obtain ⟨r1, r2⟩ := mw_in (by omega) (by omega) p2
        exact ⟨l, rfl, p1, r1, r2.symm⟩
  · exact Or.inl ⟨if_neg h, by omega⟩
/-- what the match gives one -/
def gmN (d : PD) (X i : Nat) : Nat := gcN d X i (gvN d X i)
theorem gm_l {d : PD} (hd : d.ok) {X i l : Nat} (hi : i < d.nA) (h : gmN d X i = l + 1) : l < d.nL ∧ tbB (gvN d X i) l = false ∧ plN X l = inN X i ∧ ¬ plN X l = hmN d l ∧ wtB d X i (mkN X l) = true ∧ puN d X i (gvN d X i) l = lkN (kdN d i) (meN X i) (mkN X l) := by
  rcases gc_sp hd hi (gvN_lt hd X i) with ⟨q, _⟩ | ⟨l', q, q1, q2, _⟩
  · have q : gmN d X i = 0 := q
    omega
  · have q : gmN d X i = l' + 1 := q
    obtain rfl : l' = l := by omega
    obtain ⟨p1, p2⟩ := puN_p q2
    rw [p2] at q2 ⊢
    obtain ⟨r1, r2, r3, r4⟩ := pullN_p q2
    exact ⟨q1, p1, r1, r2, decide_eq_true r3, r4⟩
/-- what is given by the first i comes to -/
def gsN (d : PD) (X : Nat) : Nat → Nat
  | 0 => 0
  | i + 1 => gsN d X i + (if gmN d X i = 0 then 0 else lkN (kdN d i) (meN X i) (mkN X (gmN d X i - 1)))
theorem gs_v {d : PD} (hd : d.ok) (X : Nat) : ∀ i, i ≤ d.nA → gsN d X i + vN d X (d.nA - i) (gvN d X i) = vN d X d.nA 0
  | 0, _ => by
    show 0 + vN d X (d.nA - 0) 0 = _
    rw [Nat.sub_zero, Nat.zero_add]
  | i + 1, h => by
    have ih := gs_v hd X i (by omega)
    show gsN d X i + (if gmN d X i = 0 then 0 else lkN (kdN d i) (meN X i) (mkN X (gmN d X i - 1))) + vN d X (d.nA - (i + 1)) (gvN d X (i + 1)) = _
    rw [gvN_s]
    rcases gc_sp hd (show i < d.nA by omega) (gvN_lt hd X i) with ⟨q, q2⟩ | ⟨l, q, q1, q2, q3⟩
    · have q' : gmN d X i = 0 := q
      rw [if_pos q', if_pos q]
      omega
    · have q' : gmN d X i = l + 1 := q
      have p := (gm_l hd (show i < d.nA by omega) q').2.2.2.2.2
      rw [p] at q3
      rw [if_neg (by omega), if_neg (by omega), q', q]
      show gsN d X i + lkN (kdN d i) (meN X i) (mkN X l) + vN d X (d.nA - (i + 1)) (gvN d X i ||| 2 ^ l) = _
      omega
theorem gs_z {d : PD} (hd : d.ok) (X : Nat) : gsN d X d.nA = vN d X d.nA 0 := by
  have := gs_v hd X d.nA (Nat.le_refl _)
  rw [Nat.sub_self] at this
  exact this
/-- the line comes to -/
def lsM (d : PD) (X : Nat) : Nat → Nat
  | 0 => 0
  | i + 1 => lsM d X i + (if coN d X 15 i = 0 then 0 else lkN (kdN d i) (meN X i) (mkN X (coN d X 15 i - 1)))
theorem ls_v {d : PD} (hd : d.ok) (X : Nat) : ∀ i, i ≤ d.nA → lsM d X i + vN d X (d.nA - i) (tkN d X 27 15 i).2 ≤ vN d X d.nA 0
  | 0, _ => by
    show 0 + vN d X (d.nA - 0) 0 ≤ _
    rw [Nat.sub_zero, Nat.zero_add]
    exact Nat.le_refl _
  | i + 1, h => by
    have h4 := hd.a4
    have ih := ls_v hd X i (by omega)
    rw [v_s (show i < d.nA by omega)] at ih
    show lsM d X i + (if coN d X 15 i = 0 then 0 else lkN (kdN d i) (meN X i) (mkN X (coN d X 15 i - 1))) + vN d X (d.nA - (i + 1)) (tkN d X 27 15 (i + 1)).2 ≤ _
    rw [tk27_s d X 15 (show i < 4 by omega)]
    have hch := co_ch (d := d) (X := X) (show i < 4 by omega)
    rcases chN_sp d X i (tkN d X 27 15 i).2 d.nL with ⟨q, -⟩ | ⟨l, q, q1, -, q3, -⟩
    · rw [q] at hch
      rw [if_pos hch, if_pos hch]
      have := mo_ge0 d X i (tkN d X 27 15 i).2 (vN d X (d.nA - (i + 1))) d.nL
      omega
    · rw [q] at hch
      rw [if_neg (by omega), if_neg (by omega), hch]
      have := mo_ge d X i (tkN d X 27 15 i).2 (vN d X (d.nA - (i + 1))) d.nL q1 q3
      have p := (puN_p q3).2
      rw [p] at this q3
      have r := (pullN_p q3).2.2.2
      rw [r] at this
      show lsM d X i + lkN (kdN d i) (meN X i) (mkN X l) + vN d X (d.nA - (i + 1)) ((tkN d X 27 15 i).2 ||| 2 ^ l) ≤ _
      omega
theorem ls_z {d : PD} (hd : d.ok) (X : Nat) : lsM d X d.nA ≤ vN d X d.nA 0 := by
  have := ls_v hd X d.nA (Nat.le_refl _)
  omega
/-- COVER: who takes them all do, no fewer -/
def cvB (d : PD) (X s : Nat) : Bool := decide (ffN (taB d X s) d.nL = 0)
theorem fs_sp {d : PD} (hd : d.ok) (X : Nat) : ∀ n, n ≤ 16 → ((fsN d X n).1 = 0 ∧ (fsN d X n).2 = 5 ∧ ∀ s, s < n → cvB d X s = false) ∨ (∃ v, (fsN d X n).1 = v + 1 ∧ v < n ∧ cvB d X v = true ∧ (fsN d X n).2 = pcf 32 v)
  | 0, _ => Or.inl ⟨rfl, rfl, fun s h => absurd h (Nat.not_lt_zero s)⟩
  | n + 1, hn => by
    have ih := fs_sp hd X n (by omega)
    have hp : pcf 32 n ≤ 4 := pc_4 n (by omega)
    rw [fsN_s]
    by_cases hc : pcf 32 n < (fsN d X n).2 ∧ ffN (taB d X n) d.nL = 0
    · rw [if_pos hc]
      exact Or.inr ⟨n, rfl, Nat.lt_succ_self n, decide_eq_true hc.2, rfl⟩
    · rw [if_neg hc]
      rcases ih with ⟨h1, h2, h3⟩ | ⟨v, h1, h2, h3, h4⟩
      · refine Or.inl ⟨h1, h2, fun s hs => ?_⟩
        by_cases e : s = n
        · subst e
          exact decide_eq_false (fun q => hc ⟨by omega, q⟩)
        · exact h3 s (by omega)
      · exact Or.inr ⟨v, h1, by omega, h3, h4⟩
theorem cv_iff {d : PD} {X s : Nat} : cvB d X s = true ↔ ∀ l, l < d.nL → ¬ bsN (fun i => wtB d X i (mkN X l)) d.nA &&& s = 0 := by
  unfold cvB taB
  rw [decide_eq_true_iff, ffN_zero]
  simp only [decide_eq_false_iff_not]
theorem bs_all {f : Nat → Bool} {n : Nat} : bsN f n &&& (2 ^ n - 1) = bsN f n := by
  rw [Nat.and_two_pow_sub_one_eq_mod, Nat.mod_eq_of_lt (bsN_lt f n)]
