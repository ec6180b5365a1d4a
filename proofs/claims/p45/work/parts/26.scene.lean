/-! SCENE, KIND: fields of the state; likeness -/
def bI (b : Bool) : Int32 := nI b.toNat
theorem bI_t : bI true = nI 1 := rfl
theorem bI_f : bI false = nI 0 := rfl
theorem bI_01 (b : Bool) : bI b = nI 0 ∨ bI b = nI 1 := by cases b <;> first | exact Or.inl rfl | exact Or.inr rfl
theorem bI_0 (b : Bool) : bI b = 0 ↔ b = false := by cases b <;> decide
theorem shl_n (a : Nat) {k : Nat} (hk : k < 32) : nI a <<< (nI k &&& 31) = nI (a * 2 ^ k) := by
  apply Int32.toBitVec_inj.mp
  apply BitVec.eq_of_toNat_eq
  rw [pk_shl (nI a) (nI k &&& 31) k (s_l k hk)]
  show (BitVec.ofNat 32 a).toNat * 2 ^ k % 2 ^ 32 = (BitVec.ofNat 32 (a * 2 ^ k)).toNat
  rw [BitVec.toNat_ofNat, BitVec.toNat_ofNat, Nat.mod_mul_mod]
theorem shr_n {a k : Nat} (ha : a < 2 ^ 31) (hk : k < 32) : nI a >>> (nI k &&& 31) = nI (a / 2 ^ k) := pk_shrN ha (nI k &&& 31) k (s_l k hk)
theorem lshl_n (a : Nat) {k : Nat} (hk : k < 64) : lN a <<< ((nI k).toInt64 &&& 63) = lN (a * 2 ^ k) := wb_shl a hk
def meN (X i : Nat) : Nat := getN X (7 * i) 4
def inN (X i : Nat) : Nat := getN X (7 * i + 4) 3
def mkN (X l : Nat) : Nat := getN X (28 + 7 * l) 4
def plN (X l : Nat) : Nat := getN X (28 + 7 * l + 4) 3
theorem part_eq {X f k : Nat} (hX : X < 2 ^ 64) (hf : f < 64) : (((lN X).toUInt64 >>> ((nI f).toInt64.toUInt64 &&& Int64.toUInt64 63)).toInt64).toInt32 &&& nI (2 ^ k - 1) = nI (getN X f k) := by
  rw [lu_n hX hf, lN_i, fa_mask]
  rfl
theorem setN_eq {X f k v : Nat} (hX : X < 2 ^ 64) (hf : f + k ≤ 64) (hv : v < 2 ^ k) : (X &&& (((2 ^ k - 1) * 2 ^ f) ^^^ (2 ^ 64 - 1))) ||| (v * 2 ^ f) = setN X f k v := by
  apply Nat.eq_of_testBit_eq
  intro i
  rw [setN_bit hv, Nat.testBit_or, Nat.testBit_and, Nat.testBit_xor, Nat.testBit_mul_two_pow, Nat.testBit_mul_two_pow, Nat.testBit_two_pow_sub_one, Nat.testBit_two_pow_sub_one]
  by_cases h1 : f ≤ i
  · by_cases h2 : i < f + k
    · rw [if_pos ⟨h1, h2⟩]
      simp [h1, show i - f < k by omega, show i < 64 by omega]
    · rw [if_neg (by omega)]
      have hb : v.testBit (i - f) = false := Nat.testBit_lt_two_pow (Nat.lt_of_lt_of_le hv (Nat.pow_le_pow_right (by omega) (by omega)))
      by_cases h3 : i < 64
      · simp [h1, hb, show ¬ i - f < k by omega, h3]
      · have hb2 : X.testBit i = false := Nat.testBit_lt_two_pow (Nat.lt_of_lt_of_le hX (Nat.pow_le_pow_right (by omega) (by omega)))
        simp [hb, hb2]
  · rw [if_neg (by omega)]
    simp [h1, show i < 64 by omega]
theorem lN_m1 : -(lN 1) = lN (2 ^ 64 - 1) := by decide +kernel
theorem withPart_eq {X f k v : Nat} (hX : X < 2 ^ 64) (hk : k ≤ 30) (hk0 : 0 < k) (hf : f + k ≤ 64) (hv : v < 2 ^ k) : (lN X &&& (((nI (2 ^ k - 1)).toInt64 <<< ((nI f).toInt64 &&& 63)) ^^^ -(lN 1))) ||| ((nI v &&& nI (2 ^ k - 1)).toInt64 <<< ((nI f).toInt64 &&& 63)) = lN (setN X f k v) := by
  have hk2 : (2 : Nat) ^ k ≤ 2 ^ 30 := Nat.pow_le_pow_right (by omega) hk
  have hv' : v < 2 ^ 30 := Nat.lt_of_lt_of_le hv hk2
  have h63 : f < 64 := by omega
  have hm : (2 ^ k - 1) * 2 ^ f < 2 ^ 64 := by
    calc (2 ^ k - 1) * 2 ^ f < 2 ^ k * 2 ^ f := Nat.mul_lt_mul_of_pos_right (by have := Nat.two_pow_pos k; omega) (Nat.two_pow_pos f)
      _ = 2 ^ (k + f) := (Nat.pow_add 2 k f).symm
      _ ≤ 2 ^ 64 := Nat.pow_le_pow_right (by omega) (by omega)
  have hv2 : v * 2 ^ f < 2 ^ 64 := by
    calc v * 2 ^ f < 2 ^ k * 2 ^ f := Nat.mul_lt_mul_of_pos_right hv (Nat.two_pow_pos f)
      _ = 2 ^ (k + f) := (Nat.pow_add 2 k f).symm
      _ ≤ 2 ^ 64 := Nat.pow_le_pow_right (by omega) (by omega)
  rw [fa_mask, Nat.mod_eq_of_lt hv, nI_l (n := 2 ^ k - 1) (by omega), nI_l (n := v) (by omega), wb_shl _ h63, wb_shl _ h63, lN_m1, lN_xor, wb_and hX (Nat.xor_lt_two_pow hm (by decide)), wb_or (Nat.lt_of_le_of_lt Nat.and_le_left hX) hv2, setN_eq hX hf hv]
def csX7_part : xCs := []
theorem okX7_part : xOkM mX7_part csX7_part := ⟨dX7_part, by decide +kernel, by decide +kernel, trivial⟩
theorem hhX7_part : ∀ q ∈ csX7_part, xHd q.1 := xall0
theorem kkX7_part : ∀ q ∈ csX7_part, ∀ l, xCon l q.1 q.2 := xall0
def sX7_part : xSpec := xReg fun as I L Q => ∃ X f k : Nat, as = [.long (lN X), .int (nI f), .int (nI (2 ^ k - 1))] ∧ X < 2 ^ 64 ∧ f < 64 ∧ Q (some (.int (nI (getN X f k)))) I L
set_option maxRecDepth 100000 in
theorem kX7_part : ∀ l, xCon l mX7_part sX7_part := by
  refine xcon_of okX7_part hX7_part rfl hhX7_part kkX7_part ?_
  rintro as n0 I L P Q ⟨hn9, rfl, X, f, k, rfl, hX, hf, hQ⟩
  obtain ⟨e9, rfl⟩ := xe9 hn9
  refine ⟨Nat.le_of_ble_eq_true rfl, xrun okX7_part hhX7_part [] 20 ?_⟩
  rw [← part_eq hX hf] at hQ
  exact hQ
def csX7_withPart : xCs := []
theorem okX7_withPart : xOkM mX7_withPart csX7_withPart := ⟨dX7_withPart, by decide +kernel, by decide +kernel, ⟨wdX7_19, trivial⟩⟩
theorem hhX7_withPart : ∀ q ∈ csX7_withPart, xHd q.1 := xall0
theorem kkX7_withPart : ∀ q ∈ csX7_withPart, ∀ l, xCon l q.1 q.2 := xall0
def sX7_withPart : xSpec := xReg fun as I L Q => ∃ X f k v : Nat, as = [.long (lN X), .int (nI f), .int (nI (2 ^ k - 1)), .int (nI v)] ∧ X < 2 ^ 64 ∧ k ≤ 30 ∧ 0 < k ∧ f + k ≤ 64 ∧ v < 2 ^ k ∧ Q (some (.long (lN (setN X f k v)))) I L
set_option maxRecDepth 100000 in
theorem kX7_withPart : ∀ l, xCon l mX7_withPart sX7_withPart := by
  refine xcon_of okX7_withPart hX7_withPart rfl hhX7_withPart kkX7_withPart ?_
  rintro as n0 I L P Q ⟨hn9, rfl, X, f, k, v, rfl, hX, hk, hk0, hf, hv, hQ⟩
  obtain ⟨e9, rfl⟩ := xe9 hn9
  refine ⟨Nat.le_of_ble_eq_true rfl, xrun okX7_withPart hhX7_withPart [] 20 ?_⟩
  rw [← withPart_eq hX hk hk0 hf hv] at hQ
  exact hQ
def csX7_memoryOf : xCs := [(mX7_part, sX7_part)]
theorem okX7_memoryOf : xOkM mX7_memoryOf csX7_memoryOf := ⟨dX7_memoryOf, by decide +kernel, by decide +kernel, ⟨wdX7_11, trivial⟩⟩
theorem hhX7_memoryOf : ∀ q ∈ csX7_memoryOf, xHd q.1 := xall1 hX7_part (xall0)
theorem kkX7_memoryOf : ∀ q ∈ csX7_memoryOf, ∀ l, xCon l q.1 q.2 := xall1 kX7_part (xall0)
def sX7_memoryOf : xSpec := xReg fun as I L Q => ∃ X i : Nat, as = [.long (lN X), .int (nI i)] ∧ X < 2 ^ 64 ∧ i < 4 ∧ Q (some (.int (nI (meN X i)))) I L
set_option maxRecDepth 100000 in
theorem kX7_memoryOf : ∀ l, xCon l mX7_memoryOf sX7_memoryOf := by
  refine xcon_of okX7_memoryOf hX7_memoryOf rfl hhX7_memoryOf kkX7_memoryOf ?_
  rintro as n0 I L P Q ⟨hn9, rfl, X, i, rfl, hX, hi, hQ⟩
  obtain ⟨e9, rfl⟩ := xe9 hn9
  refine ⟨Nat.le_of_ble_eq_true rfl, xrun okX7_memoryOf hhX7_memoryOf [] 20 ?_⟩
  exact ⟨rfl, rfl, X, 7 * i, 4, by rw [← nI_mul], hX, by omega, hQ⟩
def csX7_innOf : xCs := [(mX7_part, sX7_part)]
theorem okX7_innOf : xOkM mX7_innOf csX7_innOf := ⟨dX7_innOf, by decide +kernel, by decide +kernel, ⟨wdX7_11, trivial⟩⟩
theorem hhX7_innOf : ∀ q ∈ csX7_innOf, xHd q.1 := xall1 hX7_part (xall0)
theorem kkX7_innOf : ∀ q ∈ csX7_innOf, ∀ l, xCon l q.1 q.2 := xall1 kX7_part (xall0)
def sX7_innOf : xSpec := xReg fun as I L Q => ∃ X i : Nat, as = [.long (lN X), .int (nI i)] ∧ X < 2 ^ 64 ∧ i < 4 ∧ Q (some (.int (nI (inN X i)))) I L
set_option maxRecDepth 100000 in
theorem kX7_innOf : ∀ l, xCon l mX7_innOf sX7_innOf := by
  refine xcon_of okX7_innOf hX7_innOf rfl hhX7_innOf kkX7_innOf ?_
  rintro as n0 I L P Q ⟨hn9, rfl, X, i, rfl, hX, hi, hQ⟩
  obtain ⟨e9, rfl⟩ := xe9 hn9
  refine ⟨Nat.le_of_ble_eq_true rfl, xrun okX7_innOf hhX7_innOf [] 20 ?_⟩
  exact ⟨rfl, rfl, X, 7 * i + 4, 3, by rw [← nI_add, ← nI_mul], hX, by omega, hQ⟩
def csX7_marksOf : xCs := [(mX7_part, sX7_part)]
theorem okX7_marksOf : xOkM mX7_marksOf csX7_marksOf := ⟨dX7_marksOf, by decide +kernel, by decide +kernel, ⟨wdX7_11, trivial⟩⟩
theorem hhX7_marksOf : ∀ q ∈ csX7_marksOf, xHd q.1 := xall1 hX7_part (xall0)
theorem kkX7_marksOf : ∀ q ∈ csX7_marksOf, ∀ l, xCon l q.1 q.2 := xall1 kX7_part (xall0)
def sX7_marksOf : xSpec := xReg fun as I L Q => ∃ X l : Nat, as = [.long (lN X), .int (nI l)] ∧ X < 2 ^ 64 ∧ l < 5 ∧ Q (some (.int (nI (mkN X l)))) I L
set_option maxRecDepth 100000 in
theorem kX7_marksOf : ∀ l, xCon l mX7_marksOf sX7_marksOf := by
  refine xcon_of okX7_marksOf hX7_marksOf rfl hhX7_marksOf kkX7_marksOf ?_
  rintro as n0 I L P Q ⟨hn9, rfl, X, i, rfl, hX, hi, hQ⟩
  obtain ⟨e9, rfl⟩ := xe9 hn9
  refine ⟨Nat.le_of_ble_eq_true rfl, xrun okX7_marksOf hhX7_marksOf [] 20 ?_⟩
  exact ⟨rfl, rfl, X, 28 + 7 * i, 4, by rw [← nI_add, ← nI_mul], hX, by omega, hQ⟩
def csX7_placeOf : xCs := [(mX7_part, sX7_part)]
theorem okX7_placeOf : xOkM mX7_placeOf csX7_placeOf := ⟨dX7_placeOf, by decide +kernel, by decide +kernel, ⟨wdX7_11, trivial⟩⟩
theorem hhX7_placeOf : ∀ q ∈ csX7_placeOf, xHd q.1 := xall1 hX7_part (xall0)
theorem kkX7_placeOf : ∀ q ∈ csX7_placeOf, ∀ l, xCon l q.1 q.2 := xall1 kX7_part (xall0)
def sX7_placeOf : xSpec := xReg fun as I L Q => ∃ X l : Nat, as = [.long (lN X), .int (nI l)] ∧ X < 2 ^ 64 ∧ l < 5 ∧ Q (some (.int (nI (plN X l)))) I L
set_option maxRecDepth 100000 in
theorem kX7_placeOf : ∀ l, xCon l mX7_placeOf sX7_placeOf := by
  refine xcon_of okX7_placeOf hX7_placeOf rfl hhX7_placeOf kkX7_placeOf ?_
  rintro as n0 I L P Q ⟨hn9, rfl, X, i, rfl, hX, hi, hQ⟩
  obtain ⟨e9, rfl⟩ := xe9 hn9
  refine ⟨Nat.le_of_ble_eq_true rfl, xrun okX7_placeOf hhX7_placeOf [] 20 ?_⟩
  exact ⟨rfl, rfl, X, 28 + 7 * i + 4, 3, by rw [← nI_add, ← nI_add, ← nI_mul], hX, by omega, hQ⟩
def seMe (X i v : Nat) : Nat := setN X (7 * i) 4 v
def seIn (X i v : Nat) : Nat := setN X (7 * i + 4) 3 v
def seMk (X l v : Nat) : Nat := setN X (28 + 7 * l) 4 v
def sePl (X l v : Nat) : Nat := setN X (28 + 7 * l + 4) 3 v
def csX7_withMemory : xCs := [(mX7_withPart, sX7_withPart)]
theorem okX7_withMemory : xOkM mX7_withMemory csX7_withMemory := ⟨dX7_withMemory, by decide +kernel, by decide +kernel, ⟨wdX7_15, trivial⟩⟩
theorem hhX7_withMemory : ∀ q ∈ csX7_withMemory, xHd q.1 := xall1 hX7_withPart (xall0)
theorem kkX7_withMemory : ∀ q ∈ csX7_withMemory, ∀ l, xCon l q.1 q.2 := xall1 kX7_withPart (xall0)
def sX7_withMemory : xSpec := xReg fun as I L Q => ∃ X i v : Nat, as = [.long (lN X), .int (nI i), .int (nI v)] ∧ X < 2 ^ 64 ∧ i < 4 ∧ v < 16 ∧ Q (some (.long (lN (seMe X i v)))) I L
set_option maxRecDepth 100000 in
theorem kX7_withMemory : ∀ l, xCon l mX7_withMemory sX7_withMemory := by
  refine xcon_of okX7_withMemory hX7_withMemory rfl hhX7_withMemory kkX7_withMemory ?_
  rintro as n0 I L P Q ⟨hn9, rfl, X, i, v, rfl, hX, hi, hv, hQ⟩
  obtain ⟨e9, rfl⟩ := xe9 hn9
  refine ⟨Nat.le_of_ble_eq_true rfl, xrun okX7_withMemory hhX7_withMemory [] 20 ?_⟩
  exact ⟨rfl, rfl, X, 7 * i, 4, v, by rw [← nI_mul], hX, by decide, by decide, by omega, hv, hQ⟩
def csX7_withInn : xCs := [(mX7_withPart, sX7_withPart)]
theorem okX7_withInn : xOkM mX7_withInn csX7_withInn := ⟨dX7_withInn, by decide +kernel, by decide +kernel, ⟨wdX7_15, trivial⟩⟩
theorem hhX7_withInn : ∀ q ∈ csX7_withInn, xHd q.1 := xall1 hX7_withPart (xall0)
theorem kkX7_withInn : ∀ q ∈ csX7_withInn, ∀ l, xCon l q.1 q.2 := xall1 kX7_withPart (xall0)
def sX7_withInn : xSpec := xReg fun as I L Q => ∃ X i v : Nat, as = [.long (lN X), .int (nI i), .int (nI v)] ∧ X < 2 ^ 64 ∧ i < 4 ∧ v < 8 ∧ Q (some (.long (lN (seIn X i v)))) I L
set_option maxRecDepth 100000 in
theorem kX7_withInn : ∀ l, xCon l mX7_withInn sX7_withInn := by
  refine xcon_of okX7_withInn hX7_withInn rfl hhX7_withInn kkX7_withInn ?_
  rintro as n0 I L P Q ⟨hn9, rfl, X, i, v, rfl, hX, hi, hv, hQ⟩
  obtain ⟨e9, rfl⟩ := xe9 hn9
  refine ⟨Nat.le_of_ble_eq_true rfl, xrun okX7_withInn hhX7_withInn [] 20 ?_⟩
  exact ⟨rfl, rfl, X, 7 * i + 4, 3, v, by rw [← nI_add, ← nI_mul], hX, by decide, by decide, by omega, hv, hQ⟩
def csX7_withMarks : xCs := [(mX7_withPart, sX7_withPart)]
theorem okX7_withMarks : xOkM mX7_withMarks csX7_withMarks := ⟨dX7_withMarks, by decide +kernel, by decide +kernel, ⟨wdX7_15, trivial⟩⟩
theorem hhX7_withMarks : ∀ q ∈ csX7_withMarks, xHd q.1 := xall1 hX7_withPart (xall0)
theorem kkX7_withMarks : ∀ q ∈ csX7_withMarks, ∀ l, xCon l q.1 q.2 := xall1 kX7_withPart (xall0)
def sX7_withMarks : xSpec := xReg fun as I L Q => ∃ X i v : Nat, as = [.long (lN X), .int (nI i), .int (nI v)] ∧ X < 2 ^ 64 ∧ i < 5 ∧ v < 16 ∧ Q (some (.long (lN (seMk X i v)))) I L
set_option maxRecDepth 100000 in
theorem kX7_withMarks : ∀ l, xCon l mX7_withMarks sX7_withMarks := by
  refine xcon_of okX7_withMarks hX7_withMarks rfl hhX7_withMarks kkX7_withMarks ?_
  rintro as n0 I L P Q ⟨hn9, rfl, X, i, v, rfl, hX, hi, hv, hQ⟩
  obtain ⟨e9, rfl⟩ := xe9 hn9
  refine ⟨Nat.le_of_ble_eq_true rfl, xrun okX7_withMarks hhX7_withMarks [] 20 ?_⟩
  exact ⟨rfl, rfl, X, 28 + 7 * i, 4, v, by rw [← nI_add, ← nI_mul], hX, by decide, by decide, by omega, hv, hQ⟩
def csX7_withPlace : xCs := [(mX7_withPart, sX7_withPart)]
theorem okX7_withPlace : xOkM mX7_withPlace csX7_withPlace := ⟨dX7_withPlace, by decide +kernel, by decide +kernel, ⟨wdX7_15, trivial⟩⟩
theorem hhX7_withPlace : ∀ q ∈ csX7_withPlace, xHd q.1 := xall1 hX7_withPart (xall0)
theorem kkX7_withPlace : ∀ q ∈ csX7_withPlace, ∀ l, xCon l q.1 q.2 := xall1 kX7_withPart (xall0)
def sX7_withPlace : xSpec := xReg fun as I L Q => ∃ X i v : Nat, as = [.long (lN X), .int (nI i), .int (nI v)] ∧ X < 2 ^ 64 ∧ i < 5 ∧ v < 8 ∧ Q (some (.long (lN (sePl X i v)))) I L
set_option maxRecDepth 100000 in
theorem kX7_withPlace : ∀ l, xCon l mX7_withPlace sX7_withPlace := by
  refine xcon_of okX7_withPlace hX7_withPlace rfl hhX7_withPlace kkX7_withPlace ?_
  rintro as n0 I L P Q ⟨hn9, rfl, X, i, v, rfl, hX, hi, hv, hQ⟩
  obtain ⟨e9, rfl⟩ := xe9 hn9
  refine ⟨Nat.le_of_ble_eq_true rfl, xrun okX7_withPlace hhX7_withPlace [] 20 ?_⟩
  exact ⟨rfl, rfl, X, 28 + 7 * i + 4, 3, v, by rw [← nI_add, ← nI_add, ← nI_mul], hX, by decide, by decide, by omega, hv, hQ⟩
-- KIND
def lkN (k m x : Nat) : Nat := if k = 4 then 2 * pcf 32 (m &&& x) else if k = 1 then pcf 32 (m &&& x) else 4 - pcf 32 (m ^^^ x)
def lsN (k : Nat) : Nat := if k = 5 then 4 else if k = 3 then 3 else 1
def wtN (k m x : Nat) : Bool := decide (lsN k ≤ lkN k m x)
def isN (k w : Nat) : Bool := decide (w = 0 ∨ k = w ∨ (w = 1 ∧ k = 4) ∨ (w = 3 ∧ k = 5))
theorem pc_4 : ∀ x, x < 16 → pcf 32 x ≤ 4 := by decide +kernel
theorem and_16 {m x : Nat} (h : m < 16) : m &&& x < 16 := Nat.lt_of_le_of_lt Nat.and_le_left h
theorem xor_16 {m x : Nat} (h : m < 16) (h2 : x < 16) : m ^^^ x < 16 := Nat.xor_lt_two_pow (n := 4) h h2
theorem lkN_le {k m x : Nat} (h : m < 16) : lkN k m x ≤ 8 := by
  have := pc_4 _ (and_16 (x := x) h)
  unfold lkN
  split
  · omega
  · split <;> omega
theorem lsN_le (k : Nat) : lsN k ≤ 4 := by unfold lsN; split; omega; split <;> omega
theorem lsN_1 (k : Nat) : 1 ≤ lsN k := by unfold lsN; split; omega; split <;> omega
def csX4_likeness : xCs := [(mJ6_bitCount_0f7a4, sJ6_bitCount_0f7a4)]
theorem okX4_likeness : xOkM mX4_likeness csX4_likeness := ⟨dX4_likeness, by decide +kernel, by decide +kernel, ⟨wdX4_11, wdX4_11, trivial⟩⟩
theorem hhX4_likeness : ∀ q ∈ csX4_likeness, xHd q.1 := xall1 hJ6_bitCount_0f7a4 (xall0)
theorem kkX4_likeness : ∀ q ∈ csX4_likeness, ∀ l, xCon l q.1 q.2 := xall1 kJ6_bitCount_0f7a4 (xall0)
def sX4_likeness : xSpec := xReg fun as I L Q => ∃ k m x : Nat, as = [.int (nI k), .int (nI m), .int (nI x)] ∧ k < 8 ∧ m < 16 ∧ x < 16 ∧ Q (some (.int (nI (lkN k m x)))) I L
set_option maxRecDepth 100000 in
theorem kX4_likeness : ∀ l, xCon l mX4_likeness sX4_likeness := by
  refine xcon_of okX4_likeness hX4_likeness rfl hhX4_likeness kkX4_likeness ?_
  rintro as n0 I L P Q ⟨hn9, rfl, k, m, x, rfl, hk, hm, hx, hQ⟩
  obtain ⟨e9, rfl⟩ := xe9 hn9
  refine ⟨Nat.le_of_ble_eq_true rfl, xrun okX4_likeness hhX4_likeness [] 60 ?_⟩
  have a16 := and_16 (x := x) hm
  have x16 := xor_16 hm hx
  have px := pc_4 _ x16
  rcases (by omega : k = 0 ∨ k = 2 ∨ k = 3 ∨ k = 5 ∨ k = 6 ∨ k = 7 ∨ k = 1 ∨ k = 4) with rfl | rfl | rfl | rfl | rfl | rfl | rfl | rfl
  iterate 6
    · repeat (first | (refine xbr_f ?_ ?_; (focus ((simp (disch := omega) only [ix_lt, ix_le, ix_eq, ix_0, nI_clamp, nI_toInt, ng_T, nI_add, nI_mul, nI_sub', Int.neg_zero, not_false_eq_true, not_true_eq_false] <;> omega); done))) | (refine xbr_t ?_ ?_; (focus ((simp (disch := omega) only [ix_lt, ix_le, ix_eq, ix_0, nI_clamp, nI_toInt, ng_T, nI_add, nI_mul, nI_sub', Int.neg_zero, not_false_eq_true, not_true_eq_false] <;> omega); done))) | refine ⟨Or.inl rfl, ?_⟩ | refine ⟨Or.inr rfl, ?_⟩ | (refine ⟨?_, ?_⟩; (focus (exact in_nI (by omega) (by omega)))))
      refine ⟨rfl, rfl, m ^^^ x, by rw [nx_xor], by omega, ?_⟩
      have e : nI (lkN 0 m x) = nI 4 - nI (pcf 32 (m ^^^ x)) := by rw [nI_sub' px]; rfl
      have h : Q (some (.int (nI (lkN 0 m x)))) (e9 + 26) I L xP0 := hQ
      rw [e] at h
      exact h
  · repeat (first | (refine xbr_f ?_ ?_; (focus ((simp (disch := omega) only [ix_lt, ix_le, ix_eq, ix_0, nI_clamp, nI_toInt, ng_T, nI_add, nI_mul, nI_sub', Int.neg_zero, not_false_eq_true, not_true_eq_false] <;> omega); done))) | (refine xbr_t ?_ ?_; (focus ((simp (disch := omega) only [ix_lt, ix_le, ix_eq, ix_0, nI_clamp, nI_toInt, ng_T, nI_add, nI_mul, nI_sub', Int.neg_zero, not_false_eq_true, not_true_eq_false] <;> omega); done))) | refine ⟨Or.inl rfl, ?_⟩ | refine ⟨Or.inr rfl, ?_⟩ | (refine ⟨?_, ?_⟩; (focus (exact in_nI (by omega) (by omega)))))
    refine ⟨rfl, rfl, m &&& x, by rw [fa_and], by omega, ?_⟩
    repeat (first | (refine xbr_f ?_ ?_; (focus ((simp (disch := omega) only [ix_lt, ix_le, ix_eq, ix_0, nI_clamp, nI_toInt, ng_T, nI_add, nI_mul, nI_sub', Int.neg_zero, not_false_eq_true, not_true_eq_false] <;> omega); done))) | (refine xbr_t ?_ ?_; (focus ((simp (disch := omega) only [ix_lt, ix_le, ix_eq, ix_0, nI_clamp, nI_toInt, ng_T, nI_add, nI_mul, nI_sub', Int.neg_zero, not_false_eq_true, not_true_eq_false] <;> omega); done))) | refine ⟨Or.inl rfl, ?_⟩ | refine ⟨Or.inr rfl, ?_⟩ | (refine ⟨?_, ?_⟩; (focus (exact in_nI (by omega) (by omega)))))
    exact hQ
  · repeat (first | (refine xbr_f ?_ ?_; (focus ((simp (disch := omega) only [ix_lt, ix_le, ix_eq, ix_0, nI_clamp, nI_toInt, ng_T, nI_add, nI_mul, nI_sub', Int.neg_zero, not_false_eq_true, not_true_eq_false] <;> omega); done))) | (refine xbr_t ?_ ?_; (focus ((simp (disch := omega) only [ix_lt, ix_le, ix_eq, ix_0, nI_clamp, nI_toInt, ng_T, nI_add, nI_mul, nI_sub', Int.neg_zero, not_false_eq_true, not_true_eq_false] <;> omega); done))) | refine ⟨Or.inl rfl, ?_⟩ | refine ⟨Or.inr rfl, ?_⟩ | (refine ⟨?_, ?_⟩; (focus (exact in_nI (by omega) (by omega)))))
    refine ⟨rfl, rfl, m &&& x, by rw [fa_and], by omega, ?_⟩
    repeat (first | (refine xbr_f ?_ ?_; (focus ((simp (disch := omega) only [ix_lt, ix_le, ix_eq, ix_0, nI_clamp, nI_toInt, ng_T, nI_add, nI_mul, nI_sub', Int.neg_zero, not_false_eq_true, not_true_eq_false] <;> omega); done))) | (refine xbr_t ?_ ?_; (focus ((simp (disch := omega) only [ix_lt, ix_le, ix_eq, ix_0, nI_clamp, nI_toInt, ng_T, nI_add, nI_mul, nI_sub', Int.neg_zero, not_false_eq_true, not_true_eq_false] <;> omega); done))) | refine ⟨Or.inl rfl, ?_⟩ | refine ⟨Or.inr rfl, ?_⟩ | (refine ⟨?_, ?_⟩; (focus (exact in_nI (by omega) (by omega)))))
    have h : Q (some (.int (nI (2 * pcf 32 (m &&& x))))) (e9 + 26) I L xP0 := hQ
    rw [← nI_mul] at h
    exact h
def csX4_leastLike : xCs := []
theorem okX4_leastLike : xOkM mX4_leastLike csX4_leastLike := ⟨dX4_leastLike, by decide +kernel, by decide +kernel, trivial⟩
theorem hhX4_leastLike : ∀ q ∈ csX4_leastLike, xHd q.1 := xall0
theorem kkX4_leastLike : ∀ q ∈ csX4_leastLike, ∀ l, xCon l q.1 q.2 := xall0
def sX4_leastLike : xSpec := xReg fun as I L Q => ∃ k : Nat, as = [.int (nI k)] ∧ k < 8 ∧ Q (some (.int (nI (lsN k)))) I L
set_option maxRecDepth 100000 in
theorem kX4_leastLike : ∀ l, xCon l mX4_leastLike sX4_leastLike := by
  refine xcon_of okX4_leastLike hX4_leastLike rfl hhX4_leastLike kkX4_leastLike ?_
  rintro as n0 I L P Q ⟨hn9, rfl, k, rfl, hk, hQ⟩
  obtain ⟨e9, rfl⟩ := xe9 hn9
  refine ⟨Nat.le_of_ble_eq_true rfl, xrun okX4_leastLike hhX4_leastLike [] 60 ?_⟩
  rcases (by omega : k = 0 ∨ k = 1 ∨ k = 2 ∨ k = 3 ∨ k = 4 ∨ k = 5 ∨ k = 6 ∨ k = 7) with rfl | rfl | rfl | rfl | rfl | rfl | rfl | rfl <;> (
    repeat (first | (refine xbr_f ?_ ?_; (focus ((simp (disch := omega) only [ix_lt, ix_le, ix_eq, ix_0, nI_clamp, nI_toInt, ng_T, nI_add, nI_mul, nI_sub', Int.neg_zero, not_false_eq_true, not_true_eq_false] <;> omega); done))) | (refine xbr_t ?_ ?_; (focus ((simp (disch := omega) only [ix_lt, ix_le, ix_eq, ix_0, nI_clamp, nI_toInt, ng_T, nI_add, nI_mul, nI_sub', Int.neg_zero, not_false_eq_true, not_true_eq_false] <;> omega); done))) | refine ⟨Or.inl rfl, ?_⟩ | refine ⟨Or.inr rfl, ?_⟩ | (refine ⟨?_, ?_⟩; (focus (exact in_nI (by omega) (by omega)))))
    exact hQ)
def csX4_wouldTake : xCs := [(mX4_likeness, sX4_likeness), (mX4_leastLike, sX4_leastLike)]
theorem okX4_wouldTake : xOkM mX4_wouldTake csX4_wouldTake := ⟨dX4_wouldTake, by decide +kernel, by decide +kernel, ⟨wdX4_17, wdX4_21, trivial⟩⟩
theorem hhX4_wouldTake : ∀ q ∈ csX4_wouldTake, xHd q.1 := xall1 hX4_likeness (xall1 hX4_leastLike (xall0))
theorem kkX4_wouldTake : ∀ q ∈ csX4_wouldTake, ∀ l, xCon l q.1 q.2 := xall1 kX4_likeness (xall1 kX4_leastLike (xall0))
def sX4_wouldTake : xSpec := xReg fun as I L Q => ∃ k m x : Nat, as = [.int (nI k), .int (nI m), .int (nI x)] ∧ k < 8 ∧ m < 16 ∧ x < 16 ∧ Q (some (.int (bI (wtN k m x)))) I L
set_option maxRecDepth 100000 in
theorem kX4_wouldTake : ∀ l, xCon l mX4_wouldTake sX4_wouldTake := by
  refine xcon_of okX4_wouldTake hX4_wouldTake rfl hhX4_wouldTake kkX4_wouldTake ?_
  rintro as n0 I L P Q ⟨hn9, rfl, k, m, x, rfl, hk, hm, hx, hQ⟩
  obtain ⟨e9, rfl⟩ := xe9 hn9
  refine ⟨Nat.le_of_ble_eq_true rfl, xrun okX4_wouldTake hhX4_wouldTake [] 60 ?_⟩
  refine ⟨rfl, rfl, k, m, x, rfl, hk, hm, hx, rfl, rfl, k, rfl, hk, ?_⟩
  have h1 := lkN_le (k := k) (x := x) hm
  have h2 := lsN_le k
  unfold wtN at hQ
  by_cases h : lsN k ≤ lkN k m x
  · rw [decide_eq_true h] at hQ
    repeat (first | (refine xbr_f ?_ ?_; (focus ((simp (disch := omega) only [ix_lt, ix_le, ix_eq, ix_0, nI_clamp, nI_toInt, ng_T, nI_add, nI_mul, nI_sub', Int.neg_zero, not_false_eq_true, not_true_eq_false] <;> omega); done))) | (refine xbr_t ?_ ?_; (focus ((simp (disch := omega) only [ix_lt, ix_le, ix_eq, ix_0, nI_clamp, nI_toInt, ng_T, nI_add, nI_mul, nI_sub', Int.neg_zero, not_false_eq_true, not_true_eq_false] <;> omega); done))) | refine ⟨Or.inl rfl, ?_⟩ | refine ⟨Or.inr rfl, ?_⟩ | (refine ⟨?_, ?_⟩; (focus (exact in_nI (by omega) (by omega)))))
    exact hQ
  · rw [decide_eq_false h] at hQ
    repeat (first | (refine xbr_f ?_ ?_; (focus ((simp (disch := omega) only [ix_lt, ix_le, ix_eq, ix_0, nI_clamp, nI_toInt, ng_T, nI_add, nI_mul, nI_sub', Int.neg_zero, not_false_eq_true, not_true_eq_false] <;> omega); done))) | (refine xbr_t ?_ ?_; (focus ((simp (disch := omega) only [ix_lt, ix_le, ix_eq, ix_0, nI_clamp, nI_toInt, ng_T, nI_add, nI_mul, nI_sub', Int.neg_zero, not_false_eq_true, not_true_eq_false] <;> omega); done))) | refine ⟨Or.inl rfl, ?_⟩ | refine ⟨Or.inr rfl, ?_⟩ | (refine ⟨?_, ?_⟩; (focus (exact in_nI (by omega) (by omega)))))
    exact hQ
def csX4_isA : xCs := []
theorem okX4_isA : xOkM mX4_isA csX4_isA := ⟨dX4_isA, by decide +kernel, by decide +kernel, trivial⟩
theorem hhX4_isA : ∀ q ∈ csX4_isA, xHd q.1 := xall0
theorem kkX4_isA : ∀ q ∈ csX4_isA, ∀ l, xCon l q.1 q.2 := xall0
def sX4_isA : xSpec := xReg fun as I L Q => ∃ k w : Nat, as = [.int (nI k), .int (nI w)] ∧ k < 8 ∧ w < 8 ∧ Q (some (.int (bI (isN k w)))) I L
set_option maxRecDepth 100000 in
theorem kX4_isA : ∀ l, xCon l mX4_isA sX4_isA := by
  refine xcon_of okX4_isA hX4_isA rfl hhX4_isA kkX4_isA ?_
  rintro as n0 I L P Q ⟨hn9, rfl, k, w, rfl, hk, hw, hQ⟩
  obtain ⟨e9, rfl⟩ := xe9 hn9
  refine ⟨Nat.le_of_ble_eq_true rfl, xrun okX4_isA hhX4_isA [] 60 ?_⟩
  unfold isN at hQ
  rcases (by omega : w = 0 ∨ w = 1 ∨ w = 2 ∨ w = 3 ∨ w = 4 ∨ w = 5 ∨ w = 6 ∨ w = 7) with rfl | rfl | rfl | rfl | rfl | rfl | rfl | rfl <;>
  rcases (by omega : k = 0 ∨ k = 1 ∨ k = 2 ∨ k = 3 ∨ k = 4 ∨ k = 5 ∨ k = 6 ∨ k = 7) with rfl | rfl | rfl | rfl | rfl | rfl | rfl | rfl <;> (
    repeat (first | (refine xbr_f ?_ ?_; (focus ((simp (disch := omega) only [ix_lt, ix_le, ix_eq, ix_0, nI_clamp, nI_toInt, ng_T, nI_add, nI_mul, nI_sub', Int.neg_zero, not_false_eq_true, not_true_eq_false] <;> omega); done))) | (refine xbr_t ?_ ?_; (focus ((simp (disch := omega) only [ix_lt, ix_le, ix_eq, ix_0, nI_clamp, nI_toInt, ng_T, nI_add, nI_mul, nI_sub', Int.neg_zero, not_false_eq_true, not_true_eq_false] <;> omega); done))) | refine ⟨Or.inl rfl, ?_⟩ | refine ⟨Or.inr rfl, ?_⟩ | (refine ⟨?_, ?_⟩; (focus (exact in_nI (by omega) (by omega)))))
    exact hQ)
