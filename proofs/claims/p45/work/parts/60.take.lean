/-! WHO TAKES WHAT, said of whole -/
theorem pullN_p {d : PD} {X i l : Nat} (h : 0 < pullN d X i l) : plN X l = inN X i ∧ ¬ plN X l = hmN d l ∧ lsN (kdN d i) ≤ lkN (kdN d i) (meN X i) (mkN X l) ∧ pullN d X i l = lkN (kdN d i) (meN X i) (mkN X l) := by
  unfold pullN at h ⊢
  by_cases h1 : plN X l = inN X i ∧ ¬ plN X l = hmN d l
  · rw [if_pos h1] at h ⊢
    by_cases h2 : lkN (kdN d i) (meN X i) (mkN X l) < lsN (kdN d i)
    · rw [if_pos h2] at h
      omega
    · rw [if_neg h2]
      exact ⟨h1.1, h1.2, by omega, rfl⟩
  · rw [if_neg h1] at h
    omega
theorem pullN_of {d : PD} {X i l : Nat} (h1 : plN X l = inN X i) (h2 : ¬ plN X l = hmN d l) : pullN d X i l = if lkN (kdN d i) (meN X i) (mkN X l) < lsN (kdN d i) then 0 else lkN (kdN d i) (meN X i) (mkN X l) := by
  unfold pullN
  rw [if_pos ⟨h1, h2⟩]
theorem puN_g {d : PD} {X i g l : Nat} (h : tbB g l = false) : puN d X i g l = pullN d X i l := by
  unfold puN
  rw [h]
  rfl
theorem puN_p {d : PD} {X i g l : Nat} (h : 0 < puN d X i g l) : tbB g l = false ∧ puN d X i g l = pullN d X i l := by
  unfold puN at h ⊢
  cases hb : tbB g l
  · exact ⟨rfl, rfl⟩
  · rw [hb] at h
    exact absurd h (Nat.lt_irrefl 0)
/-- a choice, whole: nothing pulls; or the first of those that pull most -/
theorem chN_sp (d : PD) (X i g : Nat) : ∀ n, ((chN d X i g n).1 = 0 ∧ (chN d X i g n).2 = 0 ∧ ∀ t, t < n → puN d X i g t = 0) ∨ (∃ l, (chN d X i g n).1 = l + 1 ∧ l < n ∧ (chN d X i g n).2 = puN d X i g l ∧ 0 < puN d X i g l ∧ ∀ t, t < n → puN d X i g t ≤ puN d X i g l ∧ (t < l → puN d X i g t < puN d X i g l))
  | 0 => Or.inl ⟨rfl, rfl, fun t h => absurd h (Nat.not_lt_zero t)⟩
  | n + 1 => by
    have ih := chN_sp d X i g n
    have e : chN d X i g (n + 1) = if (chN d X i g n).2 < puN d X i g n then (n + 1, puN d X i g n) else chN d X i g n := chN_s d X i g n
    rw [e]
    by_cases h : (chN d X i g n).2 < puN d X i g n
    · rw [if_pos h]
      refine Or.inr ⟨n, rfl, Nat.lt_succ_self n, rfl, by omega, fun t ht => ?_⟩
      have hb : t < n → puN d X i g t < puN d X i g n := fun hn => by
        rcases ih with ⟨_, h2, h3⟩ | ⟨l, _, h2, h3, h4, h5⟩
        · rw [h3 t hn]
          omega
        · have := (h5 t hn).1
          omega
      by_cases hn : t < n
      · exact ⟨Nat.le_of_lt (hb hn), hb⟩
      · obtain rfl : t = n := by omega
        exact ⟨Nat.le_refl _, hb⟩
    · rw [if_neg h]
      rcases ih with ⟨h1, h2, h3⟩ | ⟨l, h1, h2, h3, h4, h5⟩
      · refine Or.inl ⟨h1, h2, fun t ht => ?_⟩
        by_cases hn : t < n
        · exact h3 t hn
        · obtain rfl : t = n := by omega
          omega
      · refine Or.inr ⟨l, h1, by omega, h3, h4, fun t ht => ?_⟩
        by_cases hn : t < n
        · exact h5 t hn
        · obtain rfl : t = n := by omega
          exact ⟨by omega, fun q => by omega⟩
/-- the set of those taken by the first p -/
theorem tk27_bit {d : PD} (X w : Nat) : ∀ p, p ≤ 4 → ∀ l, (tkN d X 27 w p).2.testBit l = true ↔ ∃ i, i < p ∧ coN d X w i = l + 1
  | 0, _, l => by
    rw [show (tkN d X 27 w 0).2 = 0 from rfl, Nat.zero_testBit]
    exact ⟨fun h => Bool.noConfusion h, fun ⟨i, hi, _⟩ => absurd hi (Nat.not_lt_zero i)⟩
  | p + 1, hp, l => by
    have ih := tk27_bit (d := d) X w p (by omega) l
    rw [tk27_s d X w (by omega)]
    by_cases h0 : coN d X w p = 0
    · rw [if_pos h0, ih]
      refine ⟨fun ⟨i, hi, e⟩ => ⟨i, by omega, e⟩, fun ⟨i, hi, e⟩ => ⟨i, ?_, e⟩⟩
      by_cases h : i = p
      · subst h
        omega
      · omega
    · rw [if_neg h0]
      show ((tkN d X 27 w p).2 ||| 2 ^ (coN d X w p - 1)).testBit l = true ↔ _
      rw [Nat.testBit_or, Nat.testBit_two_pow, Bool.or_eq_true, ih, decide_eq_true_iff]
      refine ⟨fun h => ?_, fun ⟨i, hi, e⟩ => ?_⟩
      · rcases h with ⟨i, hi, e⟩ | h
        · exact ⟨i, by omega, e⟩
        · exact ⟨p, Nat.lt_succ_self p, by omega⟩
      · by_cases h : i = p
        · subst h
          exact Or.inr (by omega)
        · exact Or.inl ⟨i, by omega, e⟩
/-- what an ass takes, whole -/
theorem co_sp {d : PD} {X w i : Nat} (hi : i < 4) : (coN d X w i = 0 ∧ (tbB w i = true → ∀ t, t < d.nL → (∀ j, j < i → ¬ coN d X w j = t + 1) → pullN d X i t = 0)) ∨ (∃ l, coN d X w i = l + 1 ∧ l < d.nL ∧ tbB w i = true ∧ (∀ j, j < i → ¬ coN d X w j = l + 1) ∧ 0 < pullN d X i l ∧ ∀ t, t < d.nL → (∀ j, j < i → ¬ coN d X w j = t + 1) → pullN d X i t ≤ pullN d X i l ∧ (t < l → pullN d X i t < pullN d X i l)) := by
  have hbit := tk27_bit (d := d) X w i (by omega)
  have free : ∀ t, (∀ j, j < i → ¬ coN d X w j = t + 1) → puN d X i (tkN d X 27 w i).2 t = pullN d X i t := fun t ht => puN_g (by
    rw [tbB_bit]
    cases hb : (tkN d X 27 w i).2.testBit t
    · rfl
    · obtain ⟨j, hj, e⟩ := (hbit t).mp hb
      exact absurd e (ht j hj))
  by_cases hw : tbB w i = true
  · have e : coN d X w i = (chN d X i (tkN d X 27 w i).2 d.nL).1 := if_pos hw
    rcases chN_sp d X i (tkN d X 27 w i).2 d.nL with ⟨h1, _, h3⟩ | ⟨l, h1, h2, h3, h4, h5⟩
    · exact Or.inl ⟨by rw [e, h1], fun _ t ht hf => by rw [← free t hf]; exact h3 t ht⟩
    · obtain ⟨q1, q2⟩ := puN_p h4
      have hfl : ∀ j, j < i → ¬ coN d X w j = l + 1 := fun j hj q => by
        have := (hbit l).mpr ⟨j, hj, q⟩
        rw [tbB_bit] at q1
        rw [q1] at this
        cases this
      refine Or.inr ⟨l, by rw [e, h1], h2, hw, hfl, by rw [← q2]; exact h4, fun t ht hf => ?_⟩
      have := h5 t ht
      rw [free t hf, q2] at this
      exact this
  · exact Or.inl ⟨if_neg hw, fun q => absurd q hw⟩
theorem co_l {d : PD} {X w i l : Nat} (hi : i < 4) (h : coN d X w i = l + 1) : l < d.nL ∧ tbB w i = true ∧ (∀ j, j < i → ¬ coN d X w j = l + 1) ∧ plN X l = inN X i ∧ ¬ plN X l = hmN d l ∧ lsN (kdN d i) ≤ lkN (kdN d i) (meN X i) (mkN X l) ∧ pullN d X i l = lkN (kdN d i) (meN X i) (mkN X l) := by
  rcases co_sp (d := d) (X := X) (w := w) hi with ⟨q, _⟩ | ⟨l', q, q1, q2, q3, q4, _⟩
  · omega
  · obtain rfl : l' = l := by omega
    exact ⟨q1, q2, q3, pullN_p q4⟩
theorem co_inj {d : PD} {X w i j l : Nat} (hi : i < 4) (hj : j < 4) (h : coN d X w i = l + 1) (h2 : coN d X w j = l + 1) : i = j := by
  rcases Nat.lt_trichotomy i j with q | q | q
  · exact absurd h ((co_l hj h2).2.2.1 i q)
  · exact q
  · exact absurd h2 ((co_l hi h).2.2.1 j q)
/-- what ass i takes today, some asleep: 0 nothing -/
def tcN (d : PD) (X w i : Nat) : Nat := if i < d.nA then coN d X w i else 0
theorem tc_get {d : PD} (hd : d.ok) (X w : Nat) (i : Nat) : getN (tkN d X 27 w d.nA).1 (3 * i) 3 = tcN d X w i := by
  unfold tcN
  by_cases h : i < d.nA
  · rw [if_pos h, tk27_get hd X w d.nA hd.a4 i h]
  · rw [if_neg h, getN_big (Nat.lt_of_lt_of_le (tk27_lt hd X w d.nA hd.a4) (Nat.pow_le_pow_right (by decide) (by omega)))]
theorem tc_l {d : PD} (hd : d.ok) {X w i l : Nat} (h : tcN d X w i = l + 1) : i < d.nA ∧ l < d.nL ∧ tbB w i = true ∧ plN X l = inN X i ∧ ¬ plN X l = hmN d l ∧ lsN (kdN d i) ≤ lkN (kdN d i) (meN X i) (mkN X l) := by
  have ha := hd.a4
  unfold tcN at h
  by_cases hi : i < d.nA
  · rw [if_pos hi] at h
    obtain ⟨q1, q2, q3, q4, q5, q6, _⟩ := co_l (by omega) h
    exact ⟨hi, q1, q2, q4, q5, q6⟩
  · rw [if_neg hi] at h
    omega
theorem tc_inj {d : PD} (hd : d.ok) {X w i j l : Nat} (h : tcN d X w i = l + 1) (h2 : tcN d X w j = l + 1) : i = j := by
  have hi := (tc_l hd h).1
  have hj := (tc_l hd h2).1
  have ha := hd.a4
  unfold tcN at h h2
  rw [if_pos hi] at h
  rw [if_pos hj] at h2
  exact co_inj (by omega) (by omega) h h2
/-- one that is found first -/
theorem ffN_sp (f : Nat → Bool) : ∀ n, (ffN f n = 0 ∧ ∀ j, j < n → f j = false) ∨ (∃ k, ffN f n = k + 1 ∧ k < n ∧ f k = true ∧ ∀ j, j < k → f j = false)
  | 0 => Or.inl ⟨rfl, fun j hj => absurd hj (Nat.not_lt_zero j)⟩
  | n + 1 => by
    rw [ffN_s]
    rcases ffN_sp f n with ⟨h, h2⟩ | ⟨k, h, h2, h3, h4⟩
    · rw [if_pos h]
      cases hf : f n
      · refine Or.inl ⟨rfl, fun j hj => ?_⟩
        by_cases e : j = n
        · rw [e]; exact hf
        · exact h2 j (by omega)
      · exact Or.inr ⟨n, rfl, Nat.lt_succ_self n, hf, h2⟩
    · rw [if_neg (by omega)]
      exact Or.inr ⟨k, h, by omega, h3, h4⟩
theorem ffN_iff {f : Nat → Bool} {n k : Nat} : ffN f n = k + 1 ↔ k < n ∧ f k = true ∧ ∀ j, j < k → f j = false := by
  rcases ffN_sp f n with ⟨h, h2⟩ | ⟨m, h, h2, h3, h4⟩
  · refine ⟨fun q => by omega, fun q => ?_⟩
    have := h2 k q.1
    rw [this] at q
    cases q.2.1
  · refine ⟨fun q => ?_, fun q => ?_⟩
    · obtain rfl : m = k := by omega
      exact ⟨h2, h3, h4⟩
    · rcases Nat.lt_trichotomy m k with e | e | e
      · have := q.2.2 m e
        rw [this] at h3
        cases h3
      · rw [h, e]
      · have := h4 k e
        rw [this] at q
        cases q.2.1
theorem ffN_zero {f : Nat → Bool} {n : Nat} : ffN f n = 0 ↔ ∀ j, j < n → f j = false := by
  rcases ffN_sp f n with ⟨h, h2⟩ | ⟨m, h, h2, h3, _⟩
  · exact ⟨fun _ => h2, fun _ => h⟩
  · refine ⟨fun q => by omega, fun q => ?_⟩
    have := q m h2
    rw [this] at h3
    cases h3
/-- who takes a load -/
theorem tkr_iff {d : PD} (hd : d.ok) {X w l i : Nat} : tkrN (tkN d X 27 w d.nA).1 l = i + 1 ↔ tcN d X w i = l + 1 := by
  unfold tkrN
  rw [ffN_iff]
  simp only [tc_get hd, decide_eq_true_eq, decide_eq_false_iff_not]
  refine ⟨fun h => h.2.1, fun h => ⟨?_, h, fun j hj q => ?_⟩⟩
  · have := (tc_l hd h).1
    have := hd.a4
    omega
  · have := tc_inj hd h q
    omega
theorem tkr_0 {d : PD} (hd : d.ok) {X w l : Nat} : tkrN (tkN d X 27 w d.nA).1 l = 0 ↔ ∀ i, ¬ tcN d X w i = l + 1 := by
  unfold tkrN
  rw [ffN_zero]
  simp only [tc_get hd, decide_eq_false_iff_not]
  refine ⟨fun h i q => ?_, fun h j _ => h j⟩
  have := (tc_l hd q).1
  have := hd.a4
  exact h i (by omega) q
theorem cn_add {f g : Nat → Bool} {l : Nat} (hf : f l = false) (hg : g l = true) (h : ∀ t, t ≠ l → g t = f t) : ∀ n, cnN g n = cnN f n + if l < n then 1 else 0
  | 0 => rfl
  | n + 1 => by
    have ih := cn_add hf hg h n
    show cnN g n + (g n).toNat = cnN f n + (f n).toNat + _
    rw [ih]
    by_cases e : n = l
    · subst e
      rw [hf, hg, if_neg (by omega), if_pos (by omega)]
      rfl
    · rw [h n e]
      by_cases e2 : l < n
      · rw [if_pos e2, if_pos (by omega)]
        omega
      · rw [if_neg e2, if_neg (by omega)]
        omega
theorem cn_0 {f : Nat → Bool} : ∀ {n}, (∀ i, i < n → f i = false) → cnN f n = 0
  | 0, _ => rfl
  | n + 1, h => by
    show cnN f n + (f n).toNat = 0
    rw [cn_0 (fun i hi => h i (by omega)), h n (by omega)]
    rfl
/-- as many are taken as take one -/
theorem cn_inj {c : Nat → Nat} {m : Nat} (hc : ∀ i l, c i = l + 1 → l < m) : ∀ p, (∀ i j l, i < p → j < p → c i = l + 1 → c j = l + 1 → i = j) → cnN (fun l => decide (∃ i, i < p ∧ c i = l + 1)) m = cnN (fun i => decide (¬ c i = 0)) p
  | 0, _ => cn_0 (fun l _ => decide_eq_false (fun ⟨i, hi, _⟩ => absurd hi (Nat.not_lt_zero i)))
  | p + 1, hp => by
    have ih := cn_inj hc p (fun i j l hi hj => hp i j l (by omega) (by omega))
    show _ = cnN (fun i => decide (¬ c i = 0)) p + (decide (¬ c p = 0)).toNat
    by_cases h0 : c p = 0
    · rw [← ih, decide_eq_false (fun q => q h0)]
      show _ = _ + 0
      refine cnN_cong (fun l _ => decide_eq_decide.mpr ⟨fun ⟨i, hi, e⟩ => ⟨i, ?_, e⟩, fun ⟨i, hi, e⟩ => ⟨i, by omega, e⟩⟩)
      by_cases q : i = p
      · subst q; omega
      · omega
    · obtain ⟨l, hl⟩ : ∃ l, c p = l + 1 := ⟨c p - 1, by omega⟩
      rw [cn_add (l := l) (f := fun l => decide (∃ i, i < p ∧ c i = l + 1)) (decide_eq_false (fun ⟨i, hi, e⟩ => by have := hp i p l (by omega) (by omega) e hl; omega)) (decide_eq_true ⟨p, Nat.lt_succ_self p, hl⟩) ?_ m, if_pos (hc p l hl), ih, decide_eq_true h0]
      · rfl
      · intro t ht
        refine decide_eq_decide.mpr ⟨fun ⟨i, hi, e⟩ => ⟨i, ?_, e⟩, fun ⟨i, hi, e⟩ => ⟨i, by omega, e⟩⟩
        by_cases q : i = p
        · subst q; omega
        · omega
theorem hmt_tc {d : PD} (hd : d.ok) (X w : Nat) : hmtN (tkN d X 27 w d.nA).1 = cnN (fun l => decide (0 < tkrN (tkN d X 27 w d.nA).1 l)) d.nL := by
  unfold hmtN
  rw [cnN_cong (f := fun i => decide (¬ getN (tkN d X 27 w d.nA).1 (3 * i) 3 = 0)) (g := fun i => decide (¬ tcN d X w i = 0)) (fun i _ => by rw [tc_get hd])]
  rw [← cn_inj (c := tcN d X w) (m := d.nL) (fun i l h => (tc_l hd h).2.1) 4 (fun i j l _ _ h h2 => tc_inj hd h h2)]
  refine cnN_cong (fun l _ => decide_eq_decide.mpr ⟨fun ⟨i, hi, e⟩ => ?_, fun h => ?_⟩)
  · have := (tkr_iff hd).mpr e
    omega
  · obtain ⟨i, hi⟩ : ∃ i, tkrN (tkN d X 27 w d.nA).1 l = i + 1 := ⟨tkrN (tkN d X 27 w d.nA).1 l - 1, by omega⟩
    have e := (tkr_iff hd).mp hi
    have := (tc_l hd e).1
    have := hd.a4
    exact ⟨i, by omega, e⟩
