/-! STATE: what both sides keep -/
def DD : Type := Nat × Nat × Nat × (Nat → Nat)
def DD.X (D : DD) : Nat := D.1
def DD.b (D : DD) : Nat := D.2.1
def DD.z (D : DD) : Nat := D.2.2.1
def DD.be (D : DD) : Nat → Nat := D.2.2.2
def mkD (X b z : Nat) (be : Nat → Nat) : DD := (X, b, z, be)
def ST : Type := PD × DD × (Nat → DD) × (Nat → Nat) × (Nat → Int32) × (Nat → Nat) × (Nat → Int32) × (Nat → Int32) × Int32 × Int32 × Int64 × Int64
def ST.d (S : ST) : PD := S.1
def ST.D (S : ST) : DD := S.2.1
def ST.kp (S : ST) : Nat → DD := S.2.2.1
def ST.rz (S : ST) : Nat → Nat := S.2.2.2.1
def ST.rv (S : ST) : Nat → Int32 := S.2.2.2.2.1
def ST.tz (S : ST) : Nat → Nat := S.2.2.2.2.2.1
def ST.tv (S : ST) : Nat → Int32 := S.2.2.2.2.2.2.1
def ST.fc (S : ST) : Nat → Int32 := S.2.2.2.2.2.2.2.1
def ST.lf (S : ST) : Int32 := S.2.2.2.2.2.2.2.2.1
def ST.to (S : ST) : Int32 := S.2.2.2.2.2.2.2.2.2.1
def ST.ov (S : ST) : Int64 := S.2.2.2.2.2.2.2.2.2.2.1
def ST.un (S : ST) : Int64 := S.2.2.2.2.2.2.2.2.2.2.2
def mkS (d : PD) (D : DD) (kp : Nat → DD) (rz : Nat → Nat) (rv : Nat → Int32) (tz : Nat → Nat) (tv : Nat → Int32) (fc : Nat → Int32) (lf to : Int32) (ov un : Int64) : ST := (d, D, kp, rz, rv, tz, tv, fc, lf, to, ov, un)
def ST.wR (S : ST) (z : Nat → Nat) (v : Nat → Int32) : ST := mkS S.d S.D S.kp z v S.tz S.tv S.fc S.lf S.to S.ov S.un
def ST.wX (S : ST) (z : Nat → Nat) (v : Nat → Int32) : ST := mkS S.d S.D S.kp S.rz S.rv z v S.fc S.lf S.to S.ov S.un
def ST.wT (S : ST) (v : Int32) : ST := mkS S.d S.D S.kp S.rz S.rv S.tz S.tv S.fc S.lf v S.ov S.un
def ST.wF (S : ST) (f : Nat) : ST := mkS S.d S.D S.kp S.rz S.rv S.tz S.tv (fun t => if t = f then S.fc f + nI 1 else S.fc t) (nI f) S.to S.ov S.un
def ST.wD (S : ST) (D : DD) : ST := mkS S.d D S.kp S.rz S.rv S.tz S.tv S.fc S.lf S.to S.ov S.un
def ST.wK (S : ST) (kp : Nat → DD) : ST := mkS S.d S.D kp S.rz S.rv S.tz S.tv S.fc S.lf S.to S.ov S.un
def ST.wP (S : ST) (d : PD) (D : DD) (kp : Nat → DD) : ST := mkS d D kp S.rz S.rv S.tz S.tv S.fc S.lf S.to S.ov S.un
def ST.wC (S : ST) (ov un : Int64) : ST := mkS S.d S.D S.kp S.rz S.rv S.tz S.tv S.fc S.lf S.to ov un
def XOk (X : Nat) : Prop := X < 2 ^ 63 ∧ (∀ i, i < 4 → inN X i < 5) ∧ (∀ l, l < 5 → plN X l < 5)
def DOk (D : DD) : Prop := D.z ≤ 41 ∧ (0 < D.z → XOk D.X ∧ D.b < 2 ^ (D.z - 1) ∧ ∀ n, n < D.z - 1 → XOk (D.be n))
def SOk (S : ST) : Prop := S.d.ok ∧ DOk S.D ∧ 0 < S.D.z ∧ (∀ k, k < 3 → DOk (S.kp k)) ∧ (∀ r, r < 6 → S.rz r ≤ 41) ∧ (∀ t, t < 4 → S.tz t ≤ 61) ∧ (∀ k, -128 ≤ (S.tv k).toInt ∧ (S.tv k).toInt < 128) ∧ (S.d.nL = 0 ↔ S.d.nA = 0)
theorem SOk.d {S : ST} (h : SOk S) : S.d.ok := h.1
theorem SOk.D {S : ST} (h : SOk S) : DOk S.D := h.2.1
theorem SOk.z {S : ST} (h : SOk S) : 0 < S.D.z := h.2.2.1
theorem SOk.kp {S : ST} (h : SOk S) : ∀ k, k < 3 → DOk (S.kp k) := h.2.2.2.1
theorem SOk.rz {S : ST} (h : SOk S) : ∀ r, r < 6 → S.rz r ≤ 41 := h.2.2.2.2.1
theorem SOk.tz {S : ST} (h : SOk S) : ∀ t, t < 4 → S.tz t ≤ 61 := h.2.2.2.2.2.1
theorem SOk.tv {S : ST} (h : SOk S) : ∀ k, -128 ≤ (S.tv k).toInt ∧ (S.tv k).toInt < 128 := h.2.2.2.2.2.2.1
theorem SOk.nl {S : ST} (h : SOk S) : S.d.nL = 0 ↔ S.d.nA = 0 := h.2.2.2.2.2.2.2
theorem SOk.X {S : ST} (h : SOk S) : XOk S.D.X := (h.D.2 h.z).1
theorem SOk.b {S : ST} (h : SOk S) : S.D.b < 2 ^ (S.D.z - 1) := (h.D.2 h.z).2.1
theorem SOk.be {S : ST} (h : SOk S) : ∀ n, n < S.D.z - 1 → XOk (S.D.be n) := (h.D.2 h.z).2.2
theorem DOk.b63 {D : DD} (h : DOk D) (h0 : 0 < D.z) : D.b < 2 ^ 63 := Nat.lt_of_lt_of_le (h.2 h0).2.1 (Nat.pow_le_pow_right (by decide) (by have := h.1; omega))
def dcl (c : Nat) (D : DD) (I : xI) (L : xL) : Prop := I c 3 = szI D.z ∧ (0 < D.z → L c 1 = lN D.X ∧ L c 2 = lN D.b ∧ ∀ n, n < D.z - 1 → L (c + 1) n = lN (D.be n))
def Cls (S : ST) (I : xI) (L : xL) : Prop := SOk S ∧ xPl S.d I ∧ dcl 12 S.D I L ∧ (dcl 21 (S.kp 0) I L ∧ dcl 23 (S.kp 1) I L ∧ dcl 25 (S.kp 2) I L) ∧ (I 2 0 = nI 40 ∧ (∀ r, r < 6 → I 3 r = szI (S.rz r)) ∧ I 4 = S.rv) ∧ (I 5 0 = nI 60 ∧ (∀ t, t < 4 → I 6 t = szI (S.tz t)) ∧ I 7 = S.tv) ∧ I 20 = S.fc ∧ I 1 10 = S.lf ∧ I 1 11 = S.to ∧ L 19 0 = S.ov ∧ L 19 1 = S.un
theorem Cls.ok {S : ST} {I : xI} {L : xL} (h : Cls S I L) : SOk S := h.1
theorem Cls.pl {S : ST} {I : xI} {L : xL} (h : Cls S I L) : xPl S.d I := h.2.1
theorem Cls.D {S : ST} {I : xI} {L : xL} (h : Cls S I L) : dcl 12 S.D I L := h.2.2.1
theorem Cls.sz {S : ST} {I : xI} {L : xL} (h : Cls S I L) : I 12 3 = nI (S.D.z - 1) := by
  have h1 := h.D.1
  have h2 := h.ok.z
  obtain ⟨s, hs⟩ : ∃ s, S.D.z = s + 1 := ⟨S.D.z - 1, by omega⟩
  rw [hs, szI_s] at h1
  rw [hs]
  exact h1
theorem Cls.X {S : ST} {I : xI} {L : xL} (h : Cls S I L) : L 12 1 = lN S.D.X := (h.D.2 h.ok.z).1
theorem Cls.b {S : ST} {I : xI} {L : xL} (h : Cls S I L) : L 12 2 = lN S.D.b := (h.D.2 h.ok.z).2.1
theorem Cls.be {S : ST} {I : xI} {L : xL} (h : Cls S I L) : ∀ n, n < S.D.z - 1 → L 13 n = lN (S.D.be n) := (h.D.2 h.ok.z).2.2
theorem Cls.k0 {S : ST} {I : xI} {L : xL} (h : Cls S I L) : dcl 21 (S.kp 0) I L := h.2.2.2.1.1
theorem Cls.k1 {S : ST} {I : xI} {L : xL} (h : Cls S I L) : dcl 23 (S.kp 1) I L := h.2.2.2.1.2.1
theorem Cls.k2 {S : ST} {I : xI} {L : xL} (h : Cls S I L) : dcl 25 (S.kp 2) I L := h.2.2.2.1.2.2
theorem Cls.m2 {S : ST} {I : xI} {L : xL} (h : Cls S I L) : I 2 0 = nI 40 := h.2.2.2.2.1.1
theorem Cls.rz {S : ST} {I : xI} {L : xL} (h : Cls S I L) : ∀ r, r < 6 → I 3 r = szI (S.rz r) := h.2.2.2.2.1.2.1
theorem Cls.rv {S : ST} {I : xI} {L : xL} (h : Cls S I L) : I 4 = S.rv := h.2.2.2.2.1.2.2
theorem Cls.m5 {S : ST} {I : xI} {L : xL} (h : Cls S I L) : I 5 0 = nI 60 := h.2.2.2.2.2.1.1
theorem Cls.tz {S : ST} {I : xI} {L : xL} (h : Cls S I L) : ∀ t, t < 4 → I 6 t = szI (S.tz t) := h.2.2.2.2.2.1.2.1
theorem Cls.tv {S : ST} {I : xI} {L : xL} (h : Cls S I L) : I 7 = S.tv := h.2.2.2.2.2.1.2.2
theorem Cls.fc {S : ST} {I : xI} {L : xL} (h : Cls S I L) : I 20 = S.fc := h.2.2.2.2.2.2.1
theorem Cls.lf {S : ST} {I : xI} {L : xL} (h : Cls S I L) : I 1 10 = S.lf := h.2.2.2.2.2.2.2.1
theorem Cls.to {S : ST} {I : xI} {L : xL} (h : Cls S I L) : I 1 11 = S.to := h.2.2.2.2.2.2.2.2.1
theorem Cls.ov {S : ST} {I : xI} {L : xL} (h : Cls S I L) : L 19 0 = S.ov := h.2.2.2.2.2.2.2.2.2.1
theorem Cls.un {S : ST} {I : xI} {L : xL} (h : Cls S I L) : L 19 1 = S.un := h.2.2.2.2.2.2.2.2.2.2
def frC (I : xI) (L : xL) (I' : xI) (L' : xL) : Prop := ∀ c, c = 0 ∨ 27 ≤ c → I' c = I c ∧ L' c = L c
theorem frC_0 (I : xI) (L : xL) : frC I L I L := fun _ _ => ⟨rfl, rfl⟩
theorem frC_t {I I' I'' : xI} {L L' L'' : xL} (h : frC I L I' L') (h2 : frC I' L' I'' L'') : frC I L I'' L'' := fun c a => ⟨(h2 c a).1.trans (h c a).1, (h2 c a).2.trans (h c a).2⟩
theorem frC_I {k : Nat} (hk : 0 < k ∧ k < 27) (I : xI) (L : xL) (j : Nat) (x : Int32) : frC I L (xup I k j x) L := fun c a => ⟨xup_c _ _ _ _ (by omega), rfl⟩
theorem frC_W {k : Nat} (hk : 0 < k ∧ k < 27) (I : xI) (L : xL) (f : Nat → Int32) : frC I L (xrw I k f) L := fun c a => ⟨xrw_c _ _ _ (by omega), rfl⟩
theorem frC_L {k : Nat} (hk : 0 < k ∧ k < 27) (I : xI) (L : xL) (j : Nat) (x : Int64) : frC I L I (xup L k j x) := fun c a => ⟨rfl, xup_c _ _ _ _ (by omega)⟩
theorem frC_M {k : Nat} (hk : 0 < k ∧ k < 27) (I : xI) (L : xL) (f : Nat → Int64) : frC I L I (xrw L k f) := fun c a => ⟨rfl, xrw_c _ _ _ (by omega)⟩
theorem frC_D {I I' : xI} {L L' : xL} (h : frD I L I' L') : frC I L I' L' := fun c a => ⟨h.1 c (by omega) (by omega) (by omega), h.2 c (by omega)⟩
/-- cells that no state speaks of may change -/
theorem Cls_s {S : ST} {I I' : xI} {L L' : xL} (h : Cls S I L) (hI : ∀ c, c ≠ 8 → c ≠ 9 → c ≠ 10 → c ≠ 18 → I' c = I c) (hL : ∀ c, c ≠ 8 → c ≠ 16 → L' c = L c) : Cls S I' L' := by
  unfold Cls xPl dcl at *
  rw [hI 11 (by decide) (by decide) (by decide) (by decide), hI 12 (by decide) (by decide) (by decide) (by decide), hI 21 (by decide) (by decide) (by decide) (by decide), hI 23 (by decide) (by decide) (by decide) (by decide), hI 25 (by decide) (by decide) (by decide) (by decide), hI 2 (by decide) (by decide) (by decide) (by decide), hI 3 (by decide) (by decide) (by decide) (by decide), hI 4 (by decide) (by decide) (by decide) (by decide), hI 5 (by decide) (by decide) (by decide) (by decide), hI 6 (by decide) (by decide) (by decide) (by decide), hI 7 (by decide) (by decide) (by decide) (by decide), hI 20 (by decide) (by decide) (by decide) (by decide), hI 1 (by decide) (by decide) (by decide) (by decide),
    hL 12 (by decide) (by decide), hL 21 (by decide) (by decide), hL 23 (by decide) (by decide), hL 25 (by decide) (by decide), hL (12 + 1) (by decide) (by decide), hL (21 + 1) (by decide) (by decide), hL (23 + 1) (by decide) (by decide), hL (25 + 1) (by decide) (by decide), hL 19 (by decide) (by decide)]
  exact h
theorem Cls_T {S : ST} {I : xI} {L : xL} (h : Cls S I L) (v : Int32) : Cls (S.wT v) (xup I 1 11 v) L := ⟨h.ok, h.pl, h.D, ⟨h.k0, h.k1, h.k2⟩, ⟨h.m2, h.rz, h.rv⟩, ⟨h.m5, h.tz, h.tv⟩, h.fc, h.lf, rfl, h.ov, h.un⟩
theorem Cls_F {S : ST} {I : xI} {L : xL} (h : Cls S I L) (f : Nat) : Cls (S.wF f) (xup (xup I 1 10 (nI f)) 20 f (I 20 f + nI 1)) L := ⟨h.ok, h.pl, h.D, ⟨h.k0, h.k1, h.k2⟩, ⟨h.m2, h.rz, h.rv⟩, ⟨h.m5, h.tz, h.tv⟩, by
  show (fun t => if t = f then I 20 f + nI 1 else I 20 t) = _
  rw [h.fc]
  rfl, rfl, h.to, h.ov, h.un⟩
theorem Cls_R {S : ST} {I : xI} {L : xL} (h : Cls S I L) {g : Nat → Int32} {z : Nat → Nat} {v : Nat → Int32} (hg : ∀ r, r < 6 → g r = szI (z r)) (hz : ∀ r, r < 6 → z r ≤ 41) : Cls (S.wR z v) (xrw (xrw I 3 g) 4 v) L := ⟨⟨h.ok.1, h.ok.2.1, h.ok.2.2.1, h.ok.kp, hz, h.ok.2.2.2.2.2⟩, h.pl, h.D, ⟨h.k0, h.k1, h.k2⟩, ⟨h.m2, hg, rfl⟩, ⟨h.m5, h.tz, h.tv⟩, h.fc, h.lf, h.to, h.ov, h.un⟩
theorem Cls_X {S : ST} {I : xI} {L : xL} (h : Cls S I L) {g : Nat → Int32} {z : Nat → Nat} {v : Nat → Int32} (hg : ∀ r, r < 4 → g r = szI (z r)) (hz : ∀ r, r < 4 → z r ≤ 61) (hv : ∀ k, -128 ≤ (v k).toInt ∧ (v k).toInt < 128) : Cls (S.wX z v) (xrw (xrw I 6 g) 7 v) L := ⟨⟨h.ok.1, h.ok.2.1, h.ok.2.2.1, h.ok.kp, h.ok.rz, hz, hv, h.ok.nl⟩, h.pl, h.D, ⟨h.k0, h.k1, h.k2⟩, ⟨h.m2, h.rz, h.rv⟩, ⟨h.m5, hg, rfl⟩, h.fc, h.lf, h.to, h.ov, h.un⟩
theorem Cls_C {S : ST} {I : xI} {L : xL} (h : Cls S I L) (a b : Int64) : Cls (S.wC a b) I (xup (xup L 19 0 a) 19 1 b) := ⟨h.ok, h.pl, h.D, ⟨h.k0, h.k1, h.k2⟩, ⟨h.m2, h.rz, h.rv⟩, ⟨h.m5, h.tz, h.tv⟩, h.fc, h.lf, h.to, rfl, rfl⟩
