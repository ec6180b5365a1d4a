/-! the library's counts of bits -/
theorem u_n {a k : Nat} (ha : a < 2 ^ 32) (hk : k < 32) : ((nI a).toUInt32 >>> ((nI k).toUInt32 &&& Int32.toUInt32 31)).toInt32 = nI (a / 2 ^ k) := pk_ushrN ha (nI k) k (s_u k hk)
theorem and_63 (x : Nat) : x &&& 63 = x % 64 := Nat.and_two_pow_sub_one_eq_mod x 6
theorem and_127 (x : Nat) : x &&& 127 = x % 128 := Nat.and_two_pow_sub_one_eq_mod x 7
theorem fold4 {y b0 b1 b2 b3 : Nat} (h0 : b0 ≤ 8) (h1 : b1 ≤ 8) (h2 : b2 ≤ 8) (h3 : b3 ≤ 8) (hy : y = b0 + 256 * (b1 + 256 * (b2 + 256 * b3))) : y + y / 2 ^ 8 < 2 ^ 32 ∧ ((y + y / 2 ^ 8) + (y + y / 2 ^ 8) / 2 ^ 16) % 64 = b0 + b1 + b2 + b3 := by
  have e1 : y / 2 ^ 8 = b1 + 256 * (b2 + 256 * b3) := by omega
  rw [e1]
  have e2 : (y + (b1 + 256 * (b2 + 256 * b3))) / 2 ^ 16 = (b2 + b3) + 256 * b3 := by omega
  rw [e2]
  omega
theorem dv1 {a m : Nat} (h : a < 256) : (a + 256 * m) / 2 ^ 8 = m := by omega
theorem dv2 {a b m : Nat} (h : a < 256) (h2 : b < 256) : (a + 256 * (b + 256 * m)) / 2 ^ 16 = m := by omega
theorem dv4 {a b c d m : Nat} (h : a < 256) (h2 : b < 256) (h3 : c < 256) (h4 : d < 256) : (a + 256 * (b + 256 * (c + 256 * (d + 256 * m)))) / 2 ^ 32 = m := by
  rw [show (2 : Nat) ^ 32 = 2 ^ 16 * 2 ^ 16 from rfl, ← Nat.div_div_eq_div_mul, dv2 h h2, dv2 h3 h4]
theorem md1 {A M : Nat} (h : A < 128) : (A + 256 * M) % 128 = A := by omega
theorem fold8 {y b0 b1 b2 b3 b4 b5 b6 b7 : Nat} (h0 : b0 ≤ 8) (h1 : b1 ≤ 8) (h2 : b2 ≤ 8) (h3 : b3 ≤ 8) (h4 : b4 ≤ 8) (h5 : b5 ≤ 8) (h6 : b6 ≤ 8) (h7 : b7 ≤ 8) (hy : y = b0 + 256 * (b1 + 256 * (b2 + 256 * (b3 + 256 * (b4 + 256 * (b5 + 256 * (b6 + 256 * b7))))))) {z : Nat} (hz : z = y + y / 2 ^ 8) : z + z / 2 ^ 16 < 2 ^ 64 ∧ ((z + z / 2 ^ 16) + (z + z / 2 ^ 16) / 2 ^ 32) % 128 = b0 + b1 + b2 + b3 + (b4 + b5 + b6 + b7) := by
  have e1 : y / 2 ^ 8 = b1 + 256 * (b2 + 256 * (b3 + 256 * (b4 + 256 * (b5 + 256 * (b6 + 256 * b7))))) := by rw [hy]; exact dv1 (by omega)
  have ez : z = (b0 + b1) + 256 * ((b1 + b2) + 256 * ((b2 + b3) + 256 * ((b3 + b4) + 256 * ((b4 + b5) + 256 * ((b5 + b6) + 256 * ((b6 + b7) + 256 * b7)))))) := by
    rw [hz, e1, hy]
    clear hz e1 hy
    omega
  have e2 : z / 2 ^ 16 = (b2 + b3) + 256 * ((b3 + b4) + 256 * ((b4 + b5) + 256 * ((b5 + b6) + 256 * ((b6 + b7) + 256 * b7)))) := by rw [ez]; exact dv2 (by omega) (by omega)
  have ew : z + z / 2 ^ 16 = (b0 + b1 + b2 + b3) + 256 * ((b1 + b2 + b3 + b4) + 256 * ((b2 + b3 + b4 + b5) + 256 * ((b3 + b4 + b5 + b6) + 256 * ((b4 + b5 + b6 + b7) + 256 * ((b5 + b6 + b7) + 256 * ((b6 + b7) + 256 * b7)))))) := by
    rw [e2, ez]
    clear hz e1 hy ez e2
    omega
  have e3 : (z + z / 2 ^ 16) / 2 ^ 32 = (b4 + b5 + b6 + b7) + 256 * ((b5 + b6 + b7) + 256 * ((b6 + b7) + 256 * b7)) := by rw [ew]; exact dv4 (by omega) (by omega) (by omega) (by omega)
  have eu : (z + z / 2 ^ 16) + (z + z / 2 ^ 16) / 2 ^ 32 = (b0 + b1 + b2 + b3 + (b4 + b5 + b6 + b7)) + 256 * ((b1 + b2 + b3 + b4 + (b5 + b6 + b7)) + 256 * ((b2 + b3 + b4 + b5 + (b6 + b7)) + 256 * ((b3 + b4 + b5 + b6 + b7) + 256 * ((b4 + b5 + b6 + b7) + 256 * ((b5 + b6 + b7) + 256 * ((b6 + b7) + 256 * b7)))))) := by
    rw [e3, ew]
    clear hz e1 hy ez e2 ew e3
    omega
  refine ⟨?_, ?_⟩
  · rw [ew]
    clear hz e1 hy ez e2 ew e3 eu
    omega
  · rw [eu]
    exact md1 (by clear hz e1 hy ez e2 ew e3 eu; omega)
def csJ6_bitCount_0f7a4 : xCs := []
theorem okJ6_bitCount_0f7a4 : xOkM mJ6_bitCount_0f7a4 csJ6_bitCount_0f7a4 := ⟨dJ6_bitCount_0f7a4, by decide +kernel, by decide +kernel, ⟨wdJ6_265, wdJ6_266, wdJ6_266, wdJ6_267, trivial⟩⟩
theorem hhJ6_bitCount_0f7a4 : ∀ q ∈ csJ6_bitCount_0f7a4, xHd q.1 := xall0
theorem kkJ6_bitCount_0f7a4 : ∀ q ∈ csJ6_bitCount_0f7a4, ∀ l, xCon l q.1 q.2 := xall0
def sJ6_bitCount_0f7a4 : xSpec := xReg fun as I L Q => ∃ n : Nat, as = [.int (nI n)] ∧ n < 2 ^ 31 ∧ Q (some (.int (nI (pcf 32 n)))) I L
set_option maxRecDepth 100000 in
theorem kJ6_bitCount_0f7a4 : ∀ l, xCon l mJ6_bitCount_0f7a4 sJ6_bitCount_0f7a4 := by
  refine xcon_of okJ6_bitCount_0f7a4 hJ6_bitCount_0f7a4 rfl hhJ6_bitCount_0f7a4 kkJ6_bitCount_0f7a4 ?_
  rintro as n0 I L P Q ⟨hn9, rfl, n, rfl, hn, hQ⟩
  obtain ⟨e9, rfl⟩ := xe9 hn9
  refine ⟨Nat.le_of_ble_eq_true rfl, ?_⟩
  obtain ⟨b0, b1, b2, b3, c0, c1, c2, c3, hg, hp⟩ := gdn8_4 n (by omega)
  have g2 : gdn 2 16 n < 2 ^ 32 := gdn_lt 2 (fun m => Nat.lt_of_le_of_lt (pcf_le 2 m) (by decide)) 16 n
  have g4 : gdn 4 8 n < 2 ^ 32 := gdn_lt 4 (fun m => Nat.lt_of_le_of_lt (pcf_le 4 m) (by decide)) 8 n
  obtain ⟨s1, s2⟩ := swA 16 n (by omega)
  have s3 := swB 8 n
  have s4 := swC 4 n
  have h48 : ∀ y, y % 64 = pcf 32 n → xGo mJ6_bitCount_0f7a4 csJ6_bitCount_0f7a4 48 Q [some (.int (nI y))] [] 0 (e9 + 26) I L xP0 := by
    intro y hy
    refine xrun okJ6_bitCount_0f7a4 hhJ6_bitCount_0f7a4 [] 20 ?_
    have e : nI y &&& nI 63 = nI (pcf 32 n) := by rw [fa_and, and_63, hy]
    show Q (some (.int (nI y &&& nI 63))) (e9 + 26) I L xP0
    rw [e]
    exact hQ
  have h41 : ∀ y, y < 2 ^ 32 → (y + y / 2 ^ 16) % 64 = pcf 32 n → xGo mJ6_bitCount_0f7a4 csJ6_bitCount_0f7a4 41 Q [some (.int (nI y))] [] 0 (e9 + 26) I L xP0 := by
    intro y h1 hy
    refine xrun okJ6_bitCount_0f7a4 hhJ6_bitCount_0f7a4 [(48, [true])] 20 ?_
    have e : nI y + ((nI y).toUInt32 >>> ((nI 16).toUInt32 &&& Int32.toUInt32 31)).toInt32 = nI (y + y / 2 ^ 16) := by rw [u_n h1 (by decide), nI_add]
    have h := h48 _ hy
    rw [← e] at h
    exact h
  have h34 : ∀ y, y + y / 2 ^ 8 < 2 ^ 32 → ((y + y / 2 ^ 8) + (y + y / 2 ^ 8) / 2 ^ 16) % 64 = pcf 32 n → xGo mJ6_bitCount_0f7a4 csJ6_bitCount_0f7a4 34 Q [some (.int (nI y))] [] 0 (e9 + 26) I L xP0 := by
    intro y h1 hy
    refine xrun okJ6_bitCount_0f7a4 hhJ6_bitCount_0f7a4 [(41, [true])] 20 ?_
    have e : nI y + ((nI y).toUInt32 >>> ((nI 8).toUInt32 &&& Int32.toUInt32 31)).toInt32 = nI (y + y / 2 ^ 8) := by rw [u_n (by omega) (by decide), nI_add]
    have h := h41 _ h1 hy
    rw [← e] at h
    exact h
  have h24 : xGo mJ6_bitCount_0f7a4 csJ6_bitCount_0f7a4 24 Q [some (.int (nI (gdn 4 8 n)))] [] 0 (e9 + 26) I L xP0 := by
    refine xrun okJ6_bitCount_0f7a4 hhJ6_bitCount_0f7a4 [(34, [true])] 20 ?_
    have e : (nI (gdn 4 8 n) + ((nI (gdn 4 8 n)).toUInt32 >>> ((nI 4).toUInt32 &&& Int32.toUInt32 31)).toInt32) &&& nI 252645135 = nI (gdn 8 4 n) := by
      rw [u_n g4 (by decide), nI_add, fa_and]
      exact congrArg nI s4
    obtain ⟨f1, f2⟩ := fold4 c0 c1 c2 c3 hg
    have h := h34 (gdn 8 4 n) f1 (by rw [f2, hp])
    rw [← e] at h
    exact h
  have h10 : xGo mJ6_bitCount_0f7a4 csJ6_bitCount_0f7a4 10 Q [some (.int (nI (gdn 2 16 n)))] [] 0 (e9 + 26) I L xP0 := by
    refine xrun okJ6_bitCount_0f7a4 hhJ6_bitCount_0f7a4 [(24, [true])] 20 ?_
    have e : (nI (gdn 2 16 n) &&& nI 858993459) + (((nI (gdn 2 16 n)).toUInt32 >>> ((nI 2).toUInt32 &&& Int32.toUInt32 31)).toInt32 &&& nI 858993459) = nI (gdn 4 8 n) := by
      rw [u_n g2 (by decide), fa_and, fa_and, nI_add]
      exact congrArg nI s3
    have h := h24
    rw [← e] at h
    exact h
  refine xrun okJ6_bitCount_0f7a4 hhJ6_bitCount_0f7a4 [(10, [true])] 20 ?_
  have e : nI n - (((nI n).toUInt32 >>> ((nI 1).toUInt32 &&& Int32.toUInt32 31)).toInt32 &&& nI 1431655765) = nI (gdn 2 16 n) := by
    rw [u_n (by omega) (by decide), fa_and]
    have s1' : (n / 2 ^ 1 &&& 1431655765) ≤ n := s1
    have s2' : n - (n / 2 ^ 1 &&& 1431655765) = gdn 2 16 n := s2
    rw [nI_sub' s1', s2']
  have h := h10
  rw [← e] at h
  exact h
theorem lu_n {a k : Nat} (ha : a < 2 ^ 64) (hk : k < 64) : ((lN a).toUInt64 >>> ((nI k).toInt64.toUInt64 &&& Int64.toUInt64 63)).toInt64 = lN (a / 2 ^ k) := wb_shr ha hk
def csJ13_bitCount_95d88 : xCs := []
theorem okJ13_bitCount_95d88 : xOkM mJ13_bitCount_95d88 csJ13_bitCount_95d88 := ⟨dJ13_bitCount_95d88, by decide +kernel, by decide +kernel, ⟨wdJ13_314, wdJ13_316, wdJ13_316, wdJ13_318, trivial⟩⟩
theorem hhJ13_bitCount_95d88 : ∀ q ∈ csJ13_bitCount_95d88, xHd q.1 := xall0
theorem kkJ13_bitCount_95d88 : ∀ q ∈ csJ13_bitCount_95d88, ∀ l, xCon l q.1 q.2 := xall0
def sJ13_bitCount_95d88 : xSpec := xReg fun as I L Q => ∃ n : Nat, as = [.long (lN n)] ∧ n < 2 ^ 63 ∧ Q (some (.int (nI (pcf 64 n)))) I L
set_option maxRecDepth 100000 in
theorem kJ13_bitCount_95d88 : ∀ l, xCon l mJ13_bitCount_95d88 sJ13_bitCount_95d88 := by
  refine xcon_of okJ13_bitCount_95d88 hJ13_bitCount_95d88 rfl hhJ13_bitCount_95d88 kkJ13_bitCount_95d88 ?_
  rintro as n0 I L P Q ⟨hn9, rfl, n, rfl, hn, hQ⟩
  obtain ⟨e9, rfl⟩ := xe9 hn9
  refine ⟨Nat.le_of_ble_eq_true rfl, ?_⟩
  obtain ⟨b0, b1, b2, b3, b4, b5, b6, b7, c0, c1, c2, c3, c4, c5, c6, c7, hg, hp⟩ := gdn8_8 n
  have g2 : gdn 2 32 n < 2 ^ 64 := gdn_lt 2 (fun m => Nat.lt_of_le_of_lt (pcf_le 2 m) (by decide)) 32 n
  have g4 : gdn 4 16 n < 2 ^ 64 := gdn_lt 4 (fun m => Nat.lt_of_le_of_lt (pcf_le 4 m) (by decide)) 16 n
  obtain ⟨s1, s2⟩ := swA 32 n (by omega)
  have s3 := swB 16 n
  have s4 := swC 8 n
  have h55 : ∀ y, y % 128 = pcf 64 n → xGo mJ13_bitCount_95d88 csJ13_bitCount_95d88 55 Q [some (.long (lN y)), none] [] 0 (e9 + 26) I L xP0 := by
    intro y hy
    refine xrun okJ13_bitCount_95d88 hhJ13_bitCount_95d88 [] 20 ?_
    have e : (lN y).toInt32 &&& nI 127 = nI (pcf 64 n) := by rw [lN_i, fa_and, and_127, hy]
    show Q (some (.int ((lN y).toInt32 &&& nI 127))) (e9 + 26) I L xP0
    rw [e]
    exact hQ
  have h48 : ∀ y, y < 2 ^ 64 → (y + y / 2 ^ 32) % 128 = pcf 64 n → xGo mJ13_bitCount_95d88 csJ13_bitCount_95d88 48 Q [some (.long (lN y)), none] [] 0 (e9 + 26) I L xP0 := by
    intro y h1 hy
    refine xrun okJ13_bitCount_95d88 hhJ13_bitCount_95d88 [(55, [true, false])] 20 ?_
    have e : lN y + ((lN y).toUInt64 >>> ((nI 32).toInt64.toUInt64 &&& Int64.toUInt64 63)).toInt64 = lN (y + y / 2 ^ 32) := by rw [lu_n h1 (by decide), lN_add]
    have h := h55 _ hy
    rw [← e] at h
    exact h
  have h41 : ∀ y, y + y / 2 ^ 16 < 2 ^ 64 → ((y + y / 2 ^ 16) + (y + y / 2 ^ 16) / 2 ^ 32) % 128 = pcf 64 n → xGo mJ13_bitCount_95d88 csJ13_bitCount_95d88 41 Q [some (.long (lN y)), none] [] 0 (e9 + 26) I L xP0 := by
    intro y h1 hy
    refine xrun okJ13_bitCount_95d88 hhJ13_bitCount_95d88 [(48, [true, false])] 20 ?_
    have e : lN y + ((lN y).toUInt64 >>> ((nI 16).toInt64.toUInt64 &&& Int64.toUInt64 63)).toInt64 = lN (y + y / 2 ^ 16) := by rw [lu_n (by omega) (by decide), lN_add]
    have h := h48 _ h1 hy
    rw [← e] at h
    exact h
  have h34 : ∀ y z, z = y + y / 2 ^ 8 → z + z / 2 ^ 16 < 2 ^ 64 → ((z + z / 2 ^ 16) + (z + z / 2 ^ 16) / 2 ^ 32) % 128 = pcf 64 n → xGo mJ13_bitCount_95d88 csJ13_bitCount_95d88 34 Q [some (.long (lN y)), none] [] 0 (e9 + 26) I L xP0 := by
    intro y z hz h1 hy
    refine xrun okJ13_bitCount_95d88 hhJ13_bitCount_95d88 [(41, [true, false])] 20 ?_
    have e : lN y + ((lN y).toUInt64 >>> ((nI 8).toInt64.toUInt64 &&& Int64.toUInt64 63)).toInt64 = lN z := by rw [lu_n (by omega) (by decide), lN_add, hz]
    have h := h41 _ h1 hy
    rw [← e] at h
    exact h
  have h24 : xGo mJ13_bitCount_95d88 csJ13_bitCount_95d88 24 Q [some (.long (lN (gdn 4 16 n))), none] [] 0 (e9 + 26) I L xP0 := by
    refine xrun okJ13_bitCount_95d88 hhJ13_bitCount_95d88 [(34, [true, false])] 20 ?_
    have e : (lN (gdn 4 16 n) + ((lN (gdn 4 16 n)).toUInt64 >>> ((nI 4).toInt64.toUInt64 &&& Int64.toUInt64 63)).toInt64) &&& lN 1085102592571150095 = lN (gdn 8 8 n) := by
      have s4' : (gdn 4 16 n + gdn 4 16 n / 2 ^ 4 &&& 1085102592571150095) = gdn 8 8 n := s4
      rw [lu_n g4 (by decide), lN_add, ← s4', wb_mod (gdn 4 16 n + gdn 4 16 n / 2 ^ 4), wb_and (Nat.mod_lt _ (by decide)) (by decide)]
      have e2 : (gdn 4 16 n + gdn 4 16 n / 2 ^ 4) % 2 ^ 64 &&& 1085102592571150095 = (gdn 4 16 n + gdn 4 16 n / 2 ^ 4) &&& 1085102592571150095 := by
        apply Nat.eq_of_testBit_eq
        intro i
        rw [Nat.testBit_and, Nat.testBit_and, Nat.testBit_mod_two_pow]
        by_cases hi : i < 64
        · simp [hi]
        · rw [Nat.testBit_lt_two_pow (x := 1085102592571150095) (Nat.lt_of_lt_of_le (by decide : 1085102592571150095 < 2 ^ 64) (Nat.pow_le_pow_right (by omega) (by omega)))]
          simp
      rw [e2]
    obtain ⟨f1, f2⟩ := fold8 c0 c1 c2 c3 c4 c5 c6 c7 hg rfl
    have h := h34 (gdn 8 8 n) _ rfl f1 (by rw [f2, hp])
    rw [← e] at h
    exact h
  have h10 : xGo mJ13_bitCount_95d88 csJ13_bitCount_95d88 10 Q [some (.long (lN (gdn 2 32 n))), none] [] 0 (e9 + 26) I L xP0 := by
    refine xrun okJ13_bitCount_95d88 hhJ13_bitCount_95d88 [(24, [true, false])] 20 ?_
    have e : (lN (gdn 2 32 n) &&& lN 3689348814741910323) + (((lN (gdn 2 32 n)).toUInt64 >>> ((nI 2).toInt64.toUInt64 &&& Int64.toUInt64 63)).toInt64 &&& lN 3689348814741910323) = lN (gdn 4 16 n) := by
      rw [lu_n g2 (by decide), wb_and g2 (by decide), wb_and (by omega) (by decide), lN_add]
      exact congrArg lN s3
    have h := h24
    rw [← e] at h
    exact h
  refine xrun okJ13_bitCount_95d88 hhJ13_bitCount_95d88 [(10, [true, false])] 20 ?_
  have e : lN n - (((lN n).toUInt64 >>> ((nI 1).toInt64.toUInt64 &&& Int64.toUInt64 63)).toInt64 &&& lN 6148914691236517205) = lN (gdn 2 32 n) := by
    rw [lu_n (by omega) (by decide), wb_and (by omega) (by decide)]
    have s1' : (n / 2 ^ 1 &&& 6148914691236517205) ≤ n := s1
    have s2' : n - (n / 2 ^ 1 &&& 6148914691236517205) = gdn 2 32 n := s2
    rw [lN_sub s1', s2']
  have h := h10
  rw [← e] at h
  exact h
