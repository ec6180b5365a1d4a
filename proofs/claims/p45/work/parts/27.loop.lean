/-! loops, what plains and states are, in numbers -/
theorem xlp {e9 : Nat} {M : xM} {cs : xCs} {pc : Nat} {Q : xQ} (N : Nat) (ls : Nat → xV) (I : Nat → xI) (L : Nat → xL)
    (hs : ∀ i, i < N → xGo M cs pc Q (ls (i + 1)) [] 0 (e9 + 26) (I (i + 1)) (L (i + 1)) xP0 → xGo M cs pc Q (ls i) [] 0 (e9 + 26) (I i) (L i) xP0)
    (he : xGo M cs pc Q (ls N) [] 0 (e9 + 26) (I N) (L N) xP0) : xGo M cs pc Q (ls 0) [] 0 (e9 + 26) (I 0) (L 0) xP0 := by
  have h : ∀ j i, i + j = N → xGo M cs pc Q (ls i) [] 0 (e9 + 26) (I i) (L i) xP0 := by
    intro j
    induction j with
    | zero =>
      intro i hi
      obtain rfl : i = N := by omega
      exact he
    | succ j ih =>
      intro i hi
      exact hs i (by omega) (ih (i + 1) (by omega))
  exact h N 0 (by omega)
theorem xlpI {e9 : Nat} {M : xM} {cs : xCs} {pc : Nat} {Q : xQ} (Inv : Nat → Prop) (N : Nat) (ls : Nat → xV) (I : Nat → xI) (L : Nat → xL)
    (hs : ∀ i, i < N → Inv i → (Inv (i + 1) → xGo M cs pc Q (ls (i + 1)) [] 0 (e9 + 26) (I (i + 1)) (L (i + 1)) xP0) → xGo M cs pc Q (ls i) [] 0 (e9 + 26) (I i) (L i) xP0)
    (he : Inv N → xGo M cs pc Q (ls N) [] 0 (e9 + 26) (I N) (L N) xP0) (h0 : Inv 0) : xGo M cs pc Q (ls 0) [] 0 (e9 + 26) (I 0) (L 0) xP0 := by
  have h : ∀ j i, i + j = N → Inv i → xGo M cs pc Q (ls i) [] 0 (e9 + 26) (I i) (L i) xP0 := by
    intro j
    induction j with
    | zero =>
      intro i hi
      obtain rfl : i = N := by omega
      exact he
    | succ j ih =>
      intro i hi hI
      exact hs i (by omega) hI (ih (i + 1) (by omega))
  exact h N 0 (by omega) h0
theorem xlpW {e9 : Nat} {M : xM} {cs : xCs} {pc : Nat} {Q : xQ} (N : Nat) (ls : Nat → xV) (W : Nat → xI → xL → Prop)
    (hs : ∀ i, i < N → ∀ I L, W i I L → (∀ I' L', W (i + 1) I' L' → xGo M cs pc Q (ls (i + 1)) [] 0 (e9 + 26) I' L' xP0) → xGo M cs pc Q (ls i) [] 0 (e9 + 26) I L xP0)
    (he : ∀ I L, W N I L → xGo M cs pc Q (ls N) [] 0 (e9 + 26) I L xP0) {I : xI} {L : xL} (h0 : W 0 I L) : xGo M cs pc Q (ls 0) [] 0 (e9 + 26) I L xP0 := by
  have h : ∀ j i I L, i + j = N → W i I L → xGo M cs pc Q (ls i) [] 0 (e9 + 26) I L xP0 := by
    intro j
    induction j with
    | zero =>
      intro i I L hi hW
      obtain rfl : i = N := by omega
      exact he I L hW
    | succ j ih =>
      intro i I L hi hW
      exact hs i (by omega) I L hW (fun I' L' h' => ih (i + 1) I' L' (by omega) h')
  exact h N 0 I L (by omega) h0
theorem xgo_eq {M : xM} {cs : xCs} {pc : Nat} {Q : xQ} {ls ls' : xV} {st : List Value} {k n : Nat} {I I' : xI} {L L' : xL} {P : xR} (h : xGo M cs pc Q ls st k n I L P) (e : ls' = ls) (eI : I' = I) (eL : L' = L) : xGo M cs pc Q ls' st k n I' L' P := by
  subst e; subst eI; subst eL; exact h
theorem xv_cons {a b : Option Value} {as bs : xV} (h : a = b) (t : as = bs) : a :: as = b :: bs := by rw [h, t]
theorem xv_nil : ([] : xV) = [] := rfl
theorem xv_i {a b : Int32} (h : a = b) : some (Value.int a) = some (Value.int b) := by rw [h]
theorem xv_l {a b : Int64} (h : a = b) : some (Value.long a) = some (Value.long b) := by rw [h]
/-- what stays on a plain -/
def PD : Type := Nat × Nat × Nat × Nat × Nat
def PD.nA (d : PD) : Nat := d.1
def PD.nL (d : PD) : Nat := d.2.1
def PD.K (d : PD) : Nat := d.2.2.1
def PD.R (d : PD) : Nat := d.2.2.2.1
def PD.H (d : PD) : Nat := d.2.2.2.2
def kdN (d : PD) (i : Nat) : Nat := getN d.K (3 * i) 3
def rdN (d : PD) (k : Nat) : Nat := getN d.R (3 * k) 3
def hmN (d : PD) (l : Nat) : Nat := getN d.H (3 * l) 3
def PD.ok (d : PD) : Prop := d.nA ≤ 4 ∧ d.nL ≤ 5 ∧ d.K < 2 ^ 12 ∧ d.R < 2 ^ 15 ∧ d.H < 2 ^ 15 ∧ (∀ i, kdN d i < 6) ∧ (∀ i, rdN d i < 5) ∧ (∀ i, hmN d i < 5)
theorem PD.ok.a4 {d : PD} (h : d.ok) : d.nA ≤ 4 := h.1
theorem PD.ok.l5 {d : PD} (h : d.ok) : d.nL ≤ 5 := h.2.1
theorem PD.ok.bK {d : PD} (h : d.ok) : d.K < 2 ^ 12 := h.2.2.1
theorem PD.ok.bR {d : PD} (h : d.ok) : d.R < 2 ^ 15 := h.2.2.2.1
theorem PD.ok.bH {d : PD} (h : d.ok) : d.H < 2 ^ 15 := h.2.2.2.2.1
theorem PD.ok.k6 {d : PD} (h : d.ok) (i : Nat) : kdN d i < 6 := h.2.2.2.2.2.1 i
theorem PD.ok.r5 {d : PD} (h : d.ok) (i : Nat) : rdN d i < 5 := h.2.2.2.2.2.2.1 i
theorem PD.ok.h5 {d : PD} (h : d.ok) (i : Nat) : hmN d i < 5 := h.2.2.2.2.2.2.2 i
def xPl (d : PD) (I : xI) : Prop := I 11 0 = nI d.nA ∧ I 11 1 = nI d.nL ∧ I 11 2 = nI d.K ∧ I 11 3 = nI d.R ∧ I 11 4 = nI d.H ∧ d.ok
theorem xPl.a {d : PD} {I : xI} (h : xPl d I) : I 11 0 = nI d.nA := h.1
theorem xPl.l {d : PD} {I : xI} (h : xPl d I) : I 11 1 = nI d.nL := h.2.1
theorem xPl.K {d : PD} {I : xI} (h : xPl d I) : I 11 2 = nI d.K := h.2.2.1
theorem xPl.R {d : PD} {I : xI} (h : xPl d I) : I 11 3 = nI d.R := h.2.2.2.1
theorem xPl.H {d : PD} {I : xI} (h : xPl d I) : I 11 4 = nI d.H := h.2.2.2.2.1
theorem xPl.ok {d : PD} {I : xI} (h : xPl d I) : d.ok := h.2.2.2.2.2
def bsN (f : Nat → Bool) : Nat → Nat
  | 0 => 0
  | n + 1 => bsN f n ||| (if f n then 2 ^ n else 0)
def cnN (f : Nat → Bool) : Nat → Nat
  | 0 => 0
  | n + 1 => cnN f n + (f n).toNat
def mxN (f : Nat → Nat) : Nat → Nat
  | 0 => 0
  | n + 1 => if mxN f n < f n then f n else mxN f n
theorem bsN_lt (f : Nat → Bool) : ∀ n, bsN f n < 2 ^ n
  | 0 => Nat.one_pos
  | n + 1 => by
    show bsN f n ||| (if f n then 2 ^ n else 0) < _
    have h := bsN_lt f n
    apply Nat.or_lt_two_pow
    · rw [Nat.pow_succ]; omega
    · have := Nat.two_pow_pos n
      rw [Nat.pow_succ]
      split <;> omega
theorem bsN_bit (f : Nat → Bool) : ∀ n i, (bsN f n).testBit i = (decide (i < n) && f i)
  | 0, i => by
    rw [show bsN f 0 = 0 from rfl, Nat.zero_testBit]
    simp
  | n + 1, i => by
    show (bsN f n ||| (if f n then 2 ^ n else 0)).testBit i = _
    rw [Nat.testBit_or, bsN_bit f n i]
    by_cases h : i = n
    · subst h
      cases hf : f i <;> simp [hf, Nat.testBit_two_pow_self]
    · have h2 : (if f n then 2 ^ n else 0 : Nat).testBit i = false := by
        split
        · rw [Nat.testBit_two_pow]
          simp
          omega
        · exact Nat.zero_testBit i
      rw [h2]
      by_cases h3 : i < n
      · simp [h3, show i < n + 1 by omega]
      · simp [h3, show ¬ i < n + 1 by omega]
theorem bsN_cong {f g : Nat → Bool} : ∀ {n}, (∀ i, i < n → f i = g i) → bsN f n = bsN g n
  | 0, _ => rfl
  | n + 1, h => by
    show bsN f n ||| (if f n then 2 ^ n else 0) = bsN g n ||| (if g n then 2 ^ n else 0)
    rw [bsN_cong (fun i hi => h i (by omega)), h n (by omega)]
theorem cnN_le (f : Nat → Bool) : ∀ n, cnN f n ≤ n
  | 0 => Nat.le_refl 0
  | n + 1 => by
    have h := cnN_le f n
    show cnN f n + (f n).toNat ≤ n + 1
    have : (f n).toNat ≤ 1 := by cases f n <;> decide
    omega
theorem cnN_cong {f g : Nat → Bool} : ∀ {n}, (∀ i, i < n → f i = g i) → cnN f n = cnN g n
  | 0, _ => rfl
  | n + 1, h => by
    show cnN f n + (f n).toNat = cnN g n + (g n).toNat
    rw [cnN_cong (fun i hi => h i (by omega)), h n (by omega)]
theorem mxN_le {f : Nat → Nat} {b : Nat} (h : ∀ i, f i ≤ b) : ∀ n, mxN f n ≤ b
  | 0 => Nat.zero_le b
  | n + 1 => by
    show (if mxN f n < f n then f n else mxN f n) ≤ b
    have := mxN_le h n
    have := h n
    split <;> omega
theorem kdN_8 (d : PD) (i : Nat) : kdN d i < 8 := getN_lt _ _ 3
theorem rdN_8 (d : PD) (i : Nat) : rdN d i < 8 := getN_lt _ _ 3
theorem hmN_8 (d : PD) (i : Nat) : hmN d i < 8 := getN_lt _ _ 3
theorem meN_16 (X i : Nat) : meN X i < 16 := getN_lt _ _ 4
theorem mkN_16 (X i : Nat) : mkN X i < 16 := getN_lt _ _ 4
theorem inN_8 (X i : Nat) : inN X i < 8 := getN_lt _ _ 3
theorem plN_8 (X i : Nat) : plN X i < 8 := getN_lt _ _ 3
def hmB (d : PD) (X l : Nat) : Bool := decide (plN X l = hmN d l)
def wtB (d : PD) (X i x : Nat) : Bool := wtN (kdN d i) (meN X i) x
def tbB (x i : Nat) : Bool := decide (x / 2 ^ i % 2 = 1)
theorem tbB_bit (x i : Nat) : tbB x i = x.testBit i := by rw [tbB, Nat.testBit_eq_decide_div_mod_eq]
theorem and_7 (x : Nat) : x &&& 7 = x % 8 := Nat.and_two_pow_sub_one_eq_mod x 3
theorem and_3' (x : Nat) : x &&& 3 = x % 4 := Nat.and_two_pow_sub_one_eq_mod x 2
def pullN (d : PD) (X i l : Nat) : Nat := if plN X l = inN X i ∧ ¬ plN X l = hmN d l then (if lkN (kdN d i) (meN X i) (mkN X l) < lsN (kdN d i) then 0 else lkN (kdN d i) (meN X i) (mkN X l)) else 0
theorem pullN_le (d : PD) (X i l : Nat) : pullN d X i l ≤ 8 := by
  have := lkN_le (k := kdN d i) (m := meN X i) (x := mkN X l) (meN_16 X i)
  unfold pullN
  split
  · split <;> omega
  · omega
/-- a choice: the load's number and 1 more, 0 none; and by how much -/
def chN (d : PD) (X i taken : Nat) : Nat → Nat × Nat
  | 0 => (0, 0)
  | n + 1 => if (chN d X i taken n).2 < (if tbB taken n then 0 else pullN d X i n) then (n + 1, if tbB taken n then 0 else pullN d X i n) else chN d X i taken n
theorem chN_s (d : PD) (X i taken n : Nat) : chN d X i taken (n + 1) = if (chN d X i taken n).2 < (if tbB taken n then 0 else pullN d X i n) then (n + 1, if tbB taken n then 0 else pullN d X i n) else chN d X i taken n := rfl
theorem chN_le (d : PD) (X i taken : Nat) : ∀ n, (chN d X i taken n).1 ≤ n ∧ (chN d X i taken n).2 ≤ 8
  | 0 => ⟨Nat.le_refl 0, Nat.zero_le 8⟩
  | n + 1 => by
    have h := chN_le d X i taken n
    have h2 := pullN_le d X i n
    rw [chN_s]
    by_cases h3 : (chN d X i taken n).2 < (if tbB taken n then 0 else pullN d X i n)
    · rw [if_pos h3]
      refine ⟨Nat.le_refl _, ?_⟩
      show (if tbB taken n then 0 else pullN d X i n) ≤ 8
      split <;> omega
    · rw [if_neg h3]
      exact ⟨by omega, h.2⟩
def cI (c : Nat) : Int32 := if c = 0 then -(nI 9) else nI (c - 1)
theorem cI_0 : cI 0 = -(nI 9) := rfl
theorem cI_s (c : Nat) : cI (c + 1) = nI c := rfl
def orN (order p : Nat) : Nat := order / 2 ^ (2 * (3 - p)) % 4
/-- who takes what (3 bits an ass), and which loads are taken -/
def tkN (d : PD) (X order awake : Nat) : Nat → Nat × Nat
  | 0 => (0, 0)
  | p + 1 =>
    let q := tkN d X order awake p
    let i := orN order p
    let c := if tbB awake i then (chN d X i q.2 d.nL).1 else 0
    if c = 0 then q else (q.1 ||| c * 2 ^ (3 * i), q.2 ||| 2 ^ (c - 1))
def goN (d : PD) (X T : Nat) : Nat → Nat
  | 0 => X
  | i + 1 =>
    let Y := goN d X T i
    let c := getN T (3 * i) 3
    if c = 0 then Y else
      let Z := sePl (seIn Y i (rdN d (inN X i))) (c - 1) (rdN d (inN X i))
      if kdN d i = 2 then seMe Z i (mkN X (c - 1)) else Z
theorem bit_i {t i : Nat} (ht : t < 2 ^ 31) (hi : i < 32) : (nI t >>> (nI i &&& 31)) &&& nI 1 = bI (tbB t i) := by
  rw [shr_n ht hi, fa_and, and_1]
  unfold bI tbB
  by_cases h : t / 2 ^ i % 2 = 1
  · rw [decide_eq_true h, h]; rfl
  · rw [decide_eq_false h, show t / 2 ^ i % 2 = 0 by omega]; rfl
/-- the first number of which f is so, and 1 more; 0: of none -/
def ffN (f : Nat → Bool) : Nat → Nat
  | 0 => 0
  | n + 1 => if ffN f n = 0 then (if f n then n + 1 else 0) else ffN f n
theorem ffN_s (f : Nat → Bool) (n : Nat) : ffN f (n + 1) = if ffN f n = 0 then (if f n then n + 1 else 0) else ffN f n := rfl
theorem ffN_hit {f : Nat → Bool} {i : Nat} (h0 : ffN f i = 0) (h : f i = true) : ∀ {n}, i < n → ffN f n = i + 1
  | 0, hi => absurd hi (by omega)
  | n + 1, hi => by
    rw [ffN_s]
    by_cases hn : i = n
    · subst hn
      rw [if_pos h0, if_pos h]
    · rw [ffN_hit h0 h (show i < n by omega), if_neg (by omega)]
theorem ffN_miss {f : Nat → Bool} {i : Nat} (h0 : ffN f i = 0) (h : f i = false) : ffN f (i + 1) = 0 := by
  rw [ffN_s, if_pos h0, if_neg (by rw [h]; decide)]
theorem ffN_le (f : Nat → Bool) : ∀ n, ffN f n ≤ n
  | 0 => Nat.le_refl 0
  | n + 1 => by
    have := ffN_le f n
    rw [ffN_s]
    split
    · split <;> omega
    · omega
theorem ffN_cong {f g : Nat → Bool} : ∀ {n}, (∀ i, i < n → f i = g i) → ffN f n = ffN g n
  | 0, _ => rfl
  | n + 1, h => by rw [ffN_s, ffN_s, ffN_cong (fun i hi => h i (by omega)), h n (by omega)]
theorem tkN_s (d : PD) (X order awake p : Nat) : tkN d X order awake (p + 1) = if (if tbB awake (orN order p) then (chN d X (orN order p) (tkN d X order awake p).2 d.nL).1 else 0) = 0 then tkN d X order awake p else ((tkN d X order awake p).1 ||| (if tbB awake (orN order p) then (chN d X (orN order p) (tkN d X order awake p).2 d.nL).1 else 0) * 2 ^ (3 * orN order p), (tkN d X order awake p).2 ||| 2 ^ ((if tbB awake (orN order p) then (chN d X (orN order p) (tkN d X order awake p).2 d.nL).1 else 0) - 1)) := rfl
theorem orN_4 (order p : Nat) : orN order p < 4 := Nat.mod_lt _ (by decide)
theorem tkN_lt {d : PD} (hd : d.ok) (X order awake : Nat) : ∀ p, (tkN d X order awake p).1 < 2 ^ 12 ∧ (tkN d X order awake p).2 < 2 ^ 5
  | 0 => ⟨by show 0 < 2 ^ 12; decide, by show 0 < 2 ^ 5; decide⟩
  | p + 1 => by
    have ih := tkN_lt hd X order awake p
    have hc := (chN_le d X (orN order p) (tkN d X order awake p).2 d.nL).1
    have h5 := hd.l5
    have hi := orN_4 order p
    rw [tkN_s]
    by_cases hb : tbB awake (orN order p) = true
    · rw [if_pos hb]
      by_cases h0 : (chN d X (orN order p) (tkN d X order awake p).2 d.nL).1 = 0
      · rw [if_pos h0]
        exact ih
      · rw [if_neg h0]
        refine ⟨Nat.or_lt_two_pow ih.1 ?_, Nat.or_lt_two_pow ih.2 (Nat.pow_lt_pow_right (by decide) (by omega))⟩
        calc _ < 2 ^ 3 * 2 ^ (3 * orN order p) := Nat.mul_lt_mul_of_pos_right (by omega) (Nat.two_pow_pos _)
          _ = 2 ^ (3 + 3 * orN order p) := (Nat.pow_add 2 _ _).symm
          _ ≤ 2 ^ 12 := Nat.pow_le_pow_right (by decide) (by omega)
    · rw [if_neg hb, if_pos rfl]
      exact ih
theorem goN_s (d : PD) (X T i : Nat) : goN d X T (i + 1) = if getN T (3 * i) 3 = 0 then goN d X T i else (if kdN d i = 2 then seMe (sePl (seIn (goN d X T i) i (rdN d (inN X i))) (getN T (3 * i) 3 - 1) (rdN d (inN X i))) i (mkN X (getN T (3 * i) 3 - 1)) else sePl (seIn (goN d X T i) i (rdN d (inN X i))) (getN T (3 * i) 3 - 1) (rdN d (inN X i))) := rfl
theorem seMe_lt {X i v : Nat} (hX : X < 2 ^ 63) (hi : i < 4) (hv : v < 16) : seMe X i v < 2 ^ 63 := setN_lt hv hX (by omega)
theorem seIn_lt {X i v : Nat} (hX : X < 2 ^ 63) (hi : i < 4) (hv : v < 8) : seIn X i v < 2 ^ 63 := setN_lt hv hX (by omega)
theorem seMk_lt {X i v : Nat} (hX : X < 2 ^ 63) (hi : i < 5) (hv : v < 16) : seMk X i v < 2 ^ 63 := setN_lt hv hX (by omega)
theorem sePl_lt {X i v : Nat} (hX : X < 2 ^ 63) (hi : i < 5) (hv : v < 8) : sePl X i v < 2 ^ 63 := setN_lt hv hX (by omega)
theorem goN_lt {d : PD} {X T : Nat} (hX : X < 2 ^ 63) (hT : ∀ i, i < 4 → getN T (3 * i) 3 ≤ 5) : ∀ n, n ≤ 4 → goN d X T n < 2 ^ 63
  | 0, _ => hX
  | i + 1, hn => by
    have ih := goN_lt (d := d) hX hT i (by omega)
    have hc := hT i (by omega)
    rw [goN_s]
    by_cases h0 : getN T (3 * i) 3 = 0
    · rw [if_pos h0]
      exact ih
    · rw [if_neg h0]
      have h1 := sePl_lt (i := getN T (3 * i) 3 - 1) (seIn_lt ih (show i < 4 by omega) (rdN_8 d (inN X i))) (by omega) (rdN_8 d (inN X i))
      by_cases h2 : kdN d i = 2
      · rw [if_pos h2]
        exact seMe_lt h1 (by omega) (mkN_16 _ _)
      · rw [if_neg h2]
        exact h1
