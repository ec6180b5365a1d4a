/-! LINE: by an order as told it is so taken; no load goes to two by one order -/
theorem or_get {T c i j : Nat} (hc : c < 8) : getN (T ||| c * 2 ^ (3 * i)) (3 * j) 3 = getN T (3 * j) 3 ||| (if j = i then c else 0) := by
  apply Nat.eq_of_testBit_eq
  intro b
  rw [getN_bit, Nat.testBit_or, Nat.testBit_or, getN_bit, Nat.testBit_mul_two_pow]
  by_cases hb : b < 3
  · by_cases e : j = i
    · subst e
      rw [if_pos rfl, decide_eq_true (show 3 * j ≤ 3 * j + b by omega), show 3 * j + b - 3 * j = b by omega]
      simp [hb]
    · rw [if_neg e, Nat.zero_testBit]
      by_cases h2 : 3 * i ≤ 3 * j + b
      · rw [Nat.testBit_lt_two_pow (x := c) (i := 3 * j + b - 3 * i) (Nat.lt_of_lt_of_le hc (Nat.pow_le_pow_right (n := 2) (i := 3) (by decide) (by omega)))]
        simp [hb]
      · simp [hb, h2]
  · have : (if j = i then c else 0).testBit b = false := by
      refine Nat.testBit_lt_two_pow (Nat.lt_of_lt_of_le (?_ : _ < 8) (Nat.pow_le_pow_right (n := 2) (i := 3) (by decide) (by omega)))
      split <;> omega
    rw [this]
    simp [hb]
/-- what the one at place q of an order takes -/
def cqN (d : PD) (X o w q : Nat) : Nat := if tbB w (orN o q) then (chN d X (orN o q) (tkN d X o w q).2 d.nL).1 else 0
theorem tk_s {d : PD} {X o w p : Nat} : tkN d X o w (p + 1) = if cqN d X o w p = 0 then tkN d X o w p else ((tkN d X o w p).1 ||| cqN d X o w p * 2 ^ (3 * orN o p), (tkN d X o w p).2 ||| 2 ^ (cqN d X o w p - 1)) := tkN_s d X o w p
theorem cq_le {d : PD} (hd : d.ok) (X o w q : Nat) : cqN d X o w q ≤ 5 := by
  have h := (chN_le d X (orN o q) (tkN d X o w q).2 d.nL).1
  have := hd.l5
  unfold cqN
  split <;> omega
theorem cq_free {d : PD} {X o w q l : Nat} (h : cqN d X o w q = l + 1) : (tkN d X o w q).2.testBit l = false := by
  unfold cqN at h
  by_cases hw : tbB w (orN o q) = true
  · rw [if_pos hw] at h
    rcases chN_sp d X (orN o q) (tkN d X o w q).2 d.nL with ⟨e, _⟩ | ⟨l', e, _, _, h4, _⟩
    · omega
    · obtain rfl : l' = l := by omega
      rw [← tbB_bit]
      exact (puN_p h4).1
  · rw [if_neg hw] at h
    omega
theorem tk_bit {d : PD} {X o w : Nat} : ∀ p l, (tkN d X o w p).2.testBit l = true ↔ ∃ q, q < p ∧ cqN d X o w q = l + 1
  | 0, l => by
    rw [show (tkN d X o w 0).2 = 0 from rfl, Nat.zero_testBit]
    exact ⟨fun h => Bool.noConfusion h, fun ⟨i, hi, _⟩ => absurd hi (Nat.not_lt_zero i)⟩
  | p + 1, l => by
    have ih := tk_bit (d := d) (X := X) (o := o) (w := w) p l
    rw [tk_s]
    by_cases h0 : cqN d X o w p = 0
    · rw [if_pos h0, ih]
      refine ⟨fun ⟨i, hi, e⟩ => ⟨i, by omega, e⟩, fun ⟨i, hi, e⟩ => ⟨i, ?_, e⟩⟩
      by_cases h : i = p
      · subst h
        omega
      · omega
    · rw [if_neg h0]
      show ((tkN d X o w p).2 ||| 2 ^ (cqN d X o w p - 1)).testBit l = true ↔ _
      rw [Nat.testBit_or, Nat.testBit_two_pow, Bool.or_eq_true, ih, decide_eq_true_iff]
      refine ⟨fun h => ?_, fun ⟨i, hi, e⟩ => ?_⟩
      · rcases h with ⟨i, hi, e⟩ | h
        · exact ⟨i, by omega, e⟩
        · exact ⟨p, Nat.lt_succ_self p, by omega⟩
      · by_cases h : i = p
        · subst h
          exact Or.inr (by omega)
        · exact Or.inl ⟨i, by omega, e⟩
theorem cq_inj {d : PD} {X o w q r l : Nat} (h : cqN d X o w q = l + 1) (h2 : cqN d X o w r = l + 1) : q = r := by
  rcases Nat.lt_trichotomy q r with e | e | e
  · have := (tk_bit (d := d) (X := X) (o := o) (w := w) r l).mpr ⟨q, e, h⟩
    rw [cq_free h2] at this
    cases this
  · exact e
  · have := (tk_bit (d := d) (X := X) (o := o) (w := w) q l).mpr ⟨r, e, h2⟩
    rw [cq_free h] at this
    cases this
/-- by an order that calls nobody twice: who has it stands at one place -/
theorem tk_get {d : PD} (hd : d.ok) {X o w : Nat} : ∀ p, (∀ q r, q < p → r < p → orN o q = orN o r → q = r) → ∀ i c, getN (tkN d X o w p).1 (3 * i) 3 = c + 1 → ∃ q, q < p ∧ orN o q = i ∧ cqN d X o w q = c + 1
  | 0, _, i, c, h => by
    rw [show (tkN d X o w 0).1 = 0 from rfl] at h
    unfold getN at h
    rw [Nat.zero_div, Nat.zero_mod] at h
    omega
  | p + 1, hp, i, c, h => by
    have ih := tk_get hd (X := X) (o := o) (w := w) p (fun q r hq hr => hp q r (by omega) (by omega))
    have hc := cq_le hd X o w p
    rw [tk_s] at h
    by_cases h0 : cqN d X o w p = 0
    · rw [if_pos h0] at h
      obtain ⟨q, h1, h2⟩ := ih i c h
      exact ⟨q, by omega, h2⟩
    · rw [if_neg h0] at h
      have h : getN ((tkN d X o w p).1 ||| cqN d X o w p * 2 ^ (3 * orN o p)) (3 * i) 3 = c + 1 := h
      rw [or_get (by omega)] at h
      by_cases e : i = orN o p
      · rw [if_pos e] at h
        rcases hg : getN (tkN d X o w p).1 (3 * i) 3 with _ | c'
        · rw [hg, Nat.zero_or] at h
          exact ⟨p, Nat.lt_succ_self p, e.symm, h⟩
        · obtain ⟨q, h1, h2, -⟩ := ih i c' hg
          have := hp q p (by omega) (by omega) (h2.trans e)
          omega
      · rw [if_neg e, Nat.or_zero] at h
        obtain ⟨q, h1, h2⟩ := ih i c h
        exact ⟨q, by omega, h2⟩
def pmB (a : Nat) : Bool := (List.range 256).all fun o => !(boN o a == 2 ^ a - 1) || (List.range a).all fun q => (List.range a).all fun r => !(orN o q == orN o r) || (q == r)
theorem pm_all : ∀ a, a < 5 → pmB a = true := by decide +kernel
theorem perm_f (a : Nat) (ha : a < 5) (o : Nat) (ho : o < 256) (q : Nat) (hq : q < a) (r : Nat) (hr : r < a) (h : boN o a = 2 ^ a - 1) (h2 : orN o q = orN o r) : q = r := by
  have e := List.all_eq_true.mp (pm_all a ha) o (List.mem_range.mpr ho)
  rw [h] at e
  simp only [beq_self_eq_true, Bool.not_true, Bool.false_or] at e
  have e2 := List.all_eq_true.mp (List.all_eq_true.mp e q (List.mem_range.mpr hq)) r (List.mem_range.mpr hr)
  rw [h2] at e2
  simp only [beq_self_eq_true, Bool.not_true, Bool.false_or] at e2
  exact eq_of_beq e2
theorem tby_inj {d : PD} (hd : d.ok) {X o i j l : Nat} (ho : o < 256) (h : tbyB d X o i l = true) (h2 : tbyB d X o j l = true) : i = j := by
  unfold tbyB at h h2
  rw [Bool.and_eq_true] at h h2
  obtain ⟨p1, p2⟩ := h
  have p2 := of_decide_eq_true p2
  have p3 := of_decide_eq_true h2.2
  have hp : ∀ q r, q < d.nA → r < d.nA → orN o q = orN o r → q = r := fun q r hq hr => perm_f d.nA (by have := hd.a4; omega) o ho q hq r hr (of_decide_eq_true p1)
  obtain ⟨q, _, e1, e2⟩ := tk_get hd d.nA hp i l p2
  obtain ⟨r, _, e3, e4⟩ := tk_get hd d.nA hp j l p3
  have := cq_inj e2 e4
  subst this
  exact e1.symm.trans e3
def ioN (a : Nat) : Nat → Bool := fun n => decide (boN (n * 2 ^ (2 * (4 - a))) a = 2 ^ a - 1)
def ordN (a : Nat) : Nat := if a = 4 then 24 else if a = 3 then 6 else a
theorem io_c : ∀ a, a < 5 → 0 < a → cnN (ioN a) (2 ^ (2 * a)) = ordN a := by decide +kernel
/-- by how many orders the first i take it -/
def owN (d : PD) (X l N : Nat) : Nat → Nat
  | 0 => 0
  | i + 1 => owN d X l N i + cnN (oyB d X i l) N
theorem oy_io {d : PD} {X i l n : Nat} (h : oyB d X i l n = true) : ioN d.nA n = true := by
  unfold oyB tbyB at h
  rw [Bool.and_eq_true] at h
  exact h.1
theorem ow_n {d : PD} (hd : d.ok) {X l : Nat} {n : Nat} (hn : n * 2 ^ (2 * (4 - d.nA)) < 256) (i : Nat) : cnN (fun j => oyB d X j l n) i ≤ (ioN d.nA n).toNat := by
  have key : ∀ i, cnN (fun j => oyB d X j l n) i ≤ 1 ∧ (cnN (fun j => oyB d X j l n) i = 1 → ∃ j, j < i ∧ oyB d X j l n = true) := by
    intro i
    induction i with
    | zero => exact ⟨Nat.zero_le 1, fun h => absurd h (by show ¬ 0 = 1; decide)⟩
    | succ i ih =>
      show cnN (fun j => oyB d X j l n) i + (oyB d X i l n).toNat ≤ 1 ∧ (cnN (fun j => oyB d X j l n) i + (oyB d X i l n).toNat = 1 → _)
      cases hb : oyB d X i l n
      · show cnN (fun j => oyB d X j l n) i + 0 ≤ 1 ∧ (cnN (fun j => oyB d X j l n) i + 0 = 1 → _)
        refine ⟨by omega, fun h => ?_⟩
        obtain ⟨j, h1, h2⟩ := ih.2 (by omega)
        exact ⟨j, by omega, h2⟩
      · show cnN (fun j => oyB d X j l n) i + 1 ≤ 1 ∧ (cnN (fun j => oyB d X j l n) i + 1 = 1 → _)
        have h0 : cnN (fun j => oyB d X j l n) i = 0 := by
          by_cases e : cnN (fun j => oyB d X j l n) i = 1
          · obtain ⟨j, h1, h2⟩ := ih.2 e
            have := tby_inj hd hn h2 hb
            omega
          · omega
        rw [h0]
        exact ⟨Nat.le_refl 1, fun _ => ⟨i, Nat.lt_succ_self i, hb⟩⟩
  obtain ⟨h1, h2⟩ := key i
  by_cases e : cnN (fun j => oyB d X j l n) i = 1
  · obtain ⟨j, _, h3⟩ := h2 e
    rw [oy_io h3]
    exact h1
  · omega
theorem ow_sw {d : PD} {X l : Nat} (N : Nat) : ∀ i, owN d X l (N + 1) i = owN d X l N i + cnN (fun j => oyB d X j l N) i
  | 0 => rfl
  | i + 1 => by
    have ih := ow_sw (d := d) (X := X) (l := l) N i
    show owN d X l (N + 1) i + (cnN (oyB d X i l) N + (oyB d X i l N).toNat) = owN d X l N i + cnN (oyB d X i l) N + (cnN (fun j => oyB d X j l N) i + (oyB d X i l N).toNat)
    rw [ih]
    omega
theorem ow_le {d : PD} (hd : d.ok) {X l : Nat} (i : Nat) : ∀ N, N ≤ 2 ^ (2 * d.nA) → owN d X l N i ≤ cnN (ioN d.nA) N
  | 0, _ => by
    have z : ∀ i, owN d X l 0 i = 0 := by
      intro i
      induction i with
      | zero => rfl
      | succ i ih =>
        show owN d X l 0 i + 0 = 0
        rw [ih]
    rw [z i]
    exact Nat.zero_le _
  | N + 1, h => by
    have ih := ow_le hd (X := X) (l := l) i N (by omega)
    rw [ow_sw]
    show _ ≤ cnN (ioN d.nA) N + (ioN d.nA N).toNat
    have := ow_n hd (X := X) (l := l) (o_256 hd (show N < 2 ^ (2 * d.nA) by omega)) i
    omega
theorem ow_ord {d : PD} (hd : d.ok) (h0 : 0 < d.nA) {X l : Nat} (i : Nat) : owN d X l (2 ^ (2 * d.nA)) i ≤ ordN d.nA := by
  rw [← io_c d.nA (by have := hd.a4; omega) h0]
  exact ow_le hd i _ (Nat.le_refl _)
theorem ow_mono {d : PD} {X l N : Nat} {i : Nat} : ∀ {j}, i ≤ j → owN d X l N i ≤ owN d X l N j
  | 0, h => by
    obtain rfl : i = 0 := by omega
    exact Nat.le_refl _
  | j + 1, h => by
    by_cases e : i = j + 1
    · subst e
      exact Nat.le_refl _
    · exact Nat.le_trans (ow_mono (d := d) (X := X) (l := l) (N := N) (show i ≤ j by omega)) (Nat.le_add_right _ _)
theorem own_le {d : PD} (hd : d.ok) (h0 : 0 < d.nA) {X l i : Nat} : cnN (oyB d X i l) (2 ^ (2 * d.nA)) ≤ ordN d.nA := by
  have h := ow_ord hd h0 (X := X) (l := l) (i + 1)
  have : owN d X l (2 ^ (2 * d.nA)) (i + 1) = owN d X l (2 ^ (2 * d.nA)) i + cnN (oyB d X i l) (2 ^ (2 * d.nA)) := rfl
  omega
/-- an order that calls the first ones as they stand takes as they stand -/
theorem tk_same {d : PD} {X o w : Nat} : ∀ p, (∀ q, q < p → orN o q = orN 27 q) → tkN d X o w p = tkN d X 27 w p
  | 0, _ => rfl
  | p + 1, h => by
    rw [tkN_s, tkN_s, tk_same p (fun q hq => h q (by omega)), h p (Nat.lt_succ_self p)]
def idN (a : Nat) : Nat := 27 / 2 ^ (2 * (4 - a))
theorem id_f : ∀ a, a < 5 → 0 < a → idN a < 2 ^ (2 * a) ∧ ioN a (idN a) = true ∧ (∀ q, q < a → orN (idN a * 2 ^ (2 * (4 - a))) q = orN 27 q) ∧ ∀ n, n ≤ idN a → orN (n * 2 ^ (2 * (4 - a))) 0 = 0 := by decide +kernel
theorem one_f : ∀ n, n < 4 → ioN 1 n = true → n = 0 := by decide +kernel
/-- who takes it today takes it by the first order -/
theorem oy_id {d : PD} (hd : d.ok) (h0 : 0 < d.nA) {X i l : Nat} (h : tcN d X 15 i = l + 1) : oyB d X i l (idN d.nA) = true := by
  obtain ⟨_, h2, h3, _⟩ := id_f d.nA (by have := hd.a4; omega) h0
  unfold oyB tbyB
  rw [show ioB d (idN d.nA * 2 ^ (2 * (4 - d.nA))) = ioN d.nA (idN d.nA) from rfl, h2, tk_same d.nA h3, tc_get hd, h]
  simp
theorem oy_first {d : PD} (hd : d.ok) (h0 : 0 < d.nA) {X i l : Nat} (h : tcN d X 15 i = l + 1) : ∃ n, ffN (oyB d X i l) (2 ^ (2 * d.nA)) = n + 1 ∧ orN (n * 2 ^ (2 * (4 - d.nA))) 0 = 0 := by
  obtain ⟨h1, h2, h3, h4⟩ := id_f d.nA (by have := hd.a4; omega) h0
  have hy := oy_id hd h0 h
  rcases hf : ffN (oyB d X i l) (2 ^ (2 * d.nA)) with _ | n
  · have := ffN_zero.mp hf _ h1
    rw [hy] at this
    cases this
  · obtain ⟨_, _, h5⟩ := ffN_iff.mp hf
    refine ⟨n, rfl, h4 n ?_⟩
    by_cases e : idN d.nA < n
    · have := h5 _ e
      rw [hy] at this
      cases this
    · omega
theorem cn_pos {f : Nat → Bool} {n k : Nat} (hk : k < n) (h : f k = true) : 0 < cnN f n := by
  induction n with
  | zero => exact absurd hk (Nat.not_lt_zero k)
  | succ n ih =>
    show 0 < cnN f n + (f n).toNat
    by_cases e : k = n
    · subst e
      rw [h]
      exact Nat.succ_pos _
    · have := ih (by omega)
      omega
/-- one ass alone: by an order as it stands -/
theorem oy_one {d : PD} (hd : d.ok) (h1 : d.nA = 1) {X l n : Nat} (hn : n < 2 ^ (2 * d.nA)) (h : oyB d X 0 l n = true) : tcN d X 15 0 = l + 1 := by
  have hio := oy_io h
  rw [h1] at hn hio
  obtain rfl := one_f n hn hio
  unfold oyB tbyB at h
  rw [Bool.and_eq_true, Nat.zero_mul, tk_same d.nA (o := 0) (fun q hq => by rw [h1] at hq; obtain rfl : q = 0 := (by omega); decide), tc_get hd] at h
  exact of_decide_eq_true h.2
