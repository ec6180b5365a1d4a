theorem xby {i : Int} (h1 : -128 ≤ i) (h2 : i < 128) : (Int8.ofInt i).toInt32 = Int32.ofInt i := by
  apply Int32.toInt_inj.mp
  rw [Int8.toInt_toInt32, Int8.toInt_ofInt, Int32.toInt_ofInt]
  have e8 : ((Int8.size : Nat) : Int) = 256 := rfl
  have e16 : ((Int16.size : Nat) : Int) = 65536 := rfl
  have e32 : ((Int32.size : Nat) : Int) = 4294967296 := rfl
  rw [Int.bmod_eq_of_le (by omega) (by omega), Int.bmod_eq_of_le (by omega) (by omega)]
theorem xsh {i : Int} (h1 : -32768 ≤ i) (h2 : i < 32768) : (Int16.ofInt i).toInt32 = Int32.ofInt i := by
  apply Int32.toInt_inj.mp
  rw [Int16.toInt_toInt32, Int16.toInt_ofInt, Int32.toInt_ofInt]
  have e8 : ((Int8.size : Nat) : Int) = 256 := rfl
  have e16 : ((Int16.size : Nat) : Int) = 65536 := rfl
  have e32 : ((Int32.size : Nat) : Int) = 4294967296 := rfl
  rw [Int.bmod_eq_of_le (by omega) (by omega), Int.bmod_eq_of_le (by omega) (by omega)]
/-! each instruction's step is sound -/
section STEPS
variable {p : Program} {l : Launch} {e : Env} {s : State} {m : MethodId} {args : Array Value} {below : List Frame} {meth : Method} {c : Code} {D : va_G} {cI cJ cD : ClassId} {b base n0 : Nat} {scr : Nat → Int32} {M : xM} {cs : xCs} {Q : xQ} {Z : State → Prop}
variable {pc : Nat} {K : xK} {J : Nat → xK} {ls : xV} {st : List Value} {k n : Nat} {I : xI} {L : xL} {P : xR}
theorem xs_iadd (X : xCtx p l e s m args below meth c D cI cJ cD b base n0 scr M cs) (hd : decode (mC M) pc = .ok (.iadd, 1)) (hK : ∀ ls st k n I L P, K Q ls st k n I L P → xAt p l e s m args below meth c D cI cJ cD b base n0 scr M Z (pc + 1) ls st k n I L P) (h : xpI st fun y st => xpI st fun x st => K Q ls (.int (x + y) :: st) k n I L P) : xAt p l e s m args below meth c D cI cJ cD b base n0 scr M Z pc ls st k n I L P := by
  obtain ⟨y, r1, e1, h1⟩ := xpI_e h
  subst e1
  obtain ⟨x, r2, e2, h2⟩ := xpI_e h1
  subst e2
  intro hn hk hI hl H locs lsA hP hS hL
  exact lv_iadd X.1 X.2.1 hd (hK _ _ _ _ _ _ _ h2 hn hk hI hl H locs lsA hP hS hL)
theorem xs_isub (X : xCtx p l e s m args below meth c D cI cJ cD b base n0 scr M cs) (hd : decode (mC M) pc = .ok (.isub, 1)) (hK : ∀ ls st k n I L P, K Q ls st k n I L P → xAt p l e s m args below meth c D cI cJ cD b base n0 scr M Z (pc + 1) ls st k n I L P) (h : xpI st fun y st => xpI st fun x st => K Q ls (.int (x - y) :: st) k n I L P) : xAt p l e s m args below meth c D cI cJ cD b base n0 scr M Z pc ls st k n I L P := by
  obtain ⟨y, r1, e1, h1⟩ := xpI_e h
  subst e1
  obtain ⟨x, r2, e2, h2⟩ := xpI_e h1
  subst e2
  intro hn hk hI hl H locs lsA hP hS hL
  exact lv_isub X.1 X.2.1 hd (hK _ _ _ _ _ _ _ h2 hn hk hI hl H locs lsA hP hS hL)
theorem xs_imul (X : xCtx p l e s m args below meth c D cI cJ cD b base n0 scr M cs) (hd : decode (mC M) pc = .ok (.imul, 1)) (hK : ∀ ls st k n I L P, K Q ls st k n I L P → xAt p l e s m args below meth c D cI cJ cD b base n0 scr M Z (pc + 1) ls st k n I L P) (h : xpI st fun y st => xpI st fun x st => K Q ls (.int (x * y) :: st) k n I L P) : xAt p l e s m args below meth c D cI cJ cD b base n0 scr M Z pc ls st k n I L P := by
  obtain ⟨y, r1, e1, h1⟩ := xpI_e h
  subst e1
  obtain ⟨x, r2, e2, h2⟩ := xpI_e h1
  subst e2
  intro hn hk hI hl H locs lsA hP hS hL
  exact lv_imul X.1 X.2.1 hd (hK _ _ _ _ _ _ _ h2 hn hk hI hl H locs lsA hP hS hL)
theorem xs_iand (X : xCtx p l e s m args below meth c D cI cJ cD b base n0 scr M cs) (hd : decode (mC M) pc = .ok (.iand, 1)) (hK : ∀ ls st k n I L P, K Q ls st k n I L P → xAt p l e s m args below meth c D cI cJ cD b base n0 scr M Z (pc + 1) ls st k n I L P) (h : xpI st fun y st => xpI st fun x st => K Q ls (.int (x &&& y) :: st) k n I L P) : xAt p l e s m args below meth c D cI cJ cD b base n0 scr M Z pc ls st k n I L P := by
  obtain ⟨y, r1, e1, h1⟩ := xpI_e h
  subst e1
  obtain ⟨x, r2, e2, h2⟩ := xpI_e h1
  subst e2
  intro hn hk hI hl H locs lsA hP hS hL
  exact lv_iand X.1 X.2.1 hd (hK _ _ _ _ _ _ _ h2 hn hk hI hl H locs lsA hP hS hL)
theorem xs_ior (X : xCtx p l e s m args below meth c D cI cJ cD b base n0 scr M cs) (hd : decode (mC M) pc = .ok (.ior, 1)) (hK : ∀ ls st k n I L P, K Q ls st k n I L P → xAt p l e s m args below meth c D cI cJ cD b base n0 scr M Z (pc + 1) ls st k n I L P) (h : xpI st fun y st => xpI st fun x st => K Q ls (.int (x ||| y) :: st) k n I L P) : xAt p l e s m args below meth c D cI cJ cD b base n0 scr M Z pc ls st k n I L P := by
  obtain ⟨y, r1, e1, h1⟩ := xpI_e h
  subst e1
  obtain ⟨x, r2, e2, h2⟩ := xpI_e h1
  subst e2
  intro hn hk hI hl H locs lsA hP hS hL
  exact lv_ior X.1 X.2.1 hd (hK _ _ _ _ _ _ _ h2 hn hk hI hl H locs lsA hP hS hL)
theorem xs_ixor (X : xCtx p l e s m args below meth c D cI cJ cD b base n0 scr M cs) (hd : decode (mC M) pc = .ok (.ixor, 1)) (hK : ∀ ls st k n I L P, K Q ls st k n I L P → xAt p l e s m args below meth c D cI cJ cD b base n0 scr M Z (pc + 1) ls st k n I L P) (h : xpI st fun y st => xpI st fun x st => K Q ls (.int (x ^^^ y) :: st) k n I L P) : xAt p l e s m args below meth c D cI cJ cD b base n0 scr M Z pc ls st k n I L P := by
  obtain ⟨y, r1, e1, h1⟩ := xpI_e h
  subst e1
  obtain ⟨x, r2, e2, h2⟩ := xpI_e h1
  subst e2
  intro hn hk hI hl H locs lsA hP hS hL
  exact lv_ixor X.1 X.2.1 hd (hK _ _ _ _ _ _ _ h2 hn hk hI hl H locs lsA hP hS hL)
theorem xs_ishl (X : xCtx p l e s m args below meth c D cI cJ cD b base n0 scr M cs) (hd : decode (mC M) pc = .ok (.ishl, 1)) (hK : ∀ ls st k n I L P, K Q ls st k n I L P → xAt p l e s m args below meth c D cI cJ cD b base n0 scr M Z (pc + 1) ls st k n I L P) (h : xpI st fun y st => xpI st fun x st => K Q ls (.int (x <<< (y &&& 31)) :: st) k n I L P) : xAt p l e s m args below meth c D cI cJ cD b base n0 scr M Z pc ls st k n I L P := by
  obtain ⟨y, r1, e1, h1⟩ := xpI_e h
  subst e1
  obtain ⟨x, r2, e2, h2⟩ := xpI_e h1
  subst e2
  intro hn hk hI hl H locs lsA hP hS hL
  exact lv_ishl X.1 X.2.1 hd (hK _ _ _ _ _ _ _ h2 hn hk hI hl H locs lsA hP hS hL)
theorem xs_ishr (X : xCtx p l e s m args below meth c D cI cJ cD b base n0 scr M cs) (hd : decode (mC M) pc = .ok (.ishr, 1)) (hK : ∀ ls st k n I L P, K Q ls st k n I L P → xAt p l e s m args below meth c D cI cJ cD b base n0 scr M Z (pc + 1) ls st k n I L P) (h : xpI st fun y st => xpI st fun x st => K Q ls (.int (x >>> (y &&& 31)) :: st) k n I L P) : xAt p l e s m args below meth c D cI cJ cD b base n0 scr M Z pc ls st k n I L P := by
  obtain ⟨y, r1, e1, h1⟩ := xpI_e h
  subst e1
  obtain ⟨x, r2, e2, h2⟩ := xpI_e h1
  subst e2
  intro hn hk hI hl H locs lsA hP hS hL
  exact lv_ishr X.1 X.2.1 hd (hK _ _ _ _ _ _ _ h2 hn hk hI hl H locs lsA hP hS hL)
theorem xs_ladd (X : xCtx p l e s m args below meth c D cI cJ cD b base n0 scr M cs) (hd : decode (mC M) pc = .ok (.ladd, 1)) (hK : ∀ ls st k n I L P, K Q ls st k n I L P → xAt p l e s m args below meth c D cI cJ cD b base n0 scr M Z (pc + 1) ls st k n I L P) (h : xpL st fun y st => xpL st fun x st => K Q ls (.long (x + y) :: st) k n I L P) : xAt p l e s m args below meth c D cI cJ cD b base n0 scr M Z pc ls st k n I L P := by
  obtain ⟨y, r1, e1, h1⟩ := xpL_e h
  subst e1
  obtain ⟨x, r2, e2, h2⟩ := xpL_e h1
  subst e2
  intro hn hk hI hl H locs lsA hP hS hL
  exact lv_ladd X.1 X.2.1 hd (hK _ _ _ _ _ _ _ h2 hn hk hI hl H locs lsA hP hS hL)
theorem xs_lsub (X : xCtx p l e s m args below meth c D cI cJ cD b base n0 scr M cs) (hd : decode (mC M) pc = .ok (.lsub, 1)) (hK : ∀ ls st k n I L P, K Q ls st k n I L P → xAt p l e s m args below meth c D cI cJ cD b base n0 scr M Z (pc + 1) ls st k n I L P) (h : xpL st fun y st => xpL st fun x st => K Q ls (.long (x - y) :: st) k n I L P) : xAt p l e s m args below meth c D cI cJ cD b base n0 scr M Z pc ls st k n I L P := by
  obtain ⟨y, r1, e1, h1⟩ := xpL_e h
  subst e1
  obtain ⟨x, r2, e2, h2⟩ := xpL_e h1
  subst e2
  intro hn hk hI hl H locs lsA hP hS hL
  exact lv_lsub X.1 X.2.1 hd (hK _ _ _ _ _ _ _ h2 hn hk hI hl H locs lsA hP hS hL)
theorem xs_lmul (X : xCtx p l e s m args below meth c D cI cJ cD b base n0 scr M cs) (hd : decode (mC M) pc = .ok (.lmul, 1)) (hK : ∀ ls st k n I L P, K Q ls st k n I L P → xAt p l e s m args below meth c D cI cJ cD b base n0 scr M Z (pc + 1) ls st k n I L P) (h : xpL st fun y st => xpL st fun x st => K Q ls (.long (x * y) :: st) k n I L P) : xAt p l e s m args below meth c D cI cJ cD b base n0 scr M Z pc ls st k n I L P := by
  obtain ⟨y, r1, e1, h1⟩ := xpL_e h
  subst e1
  obtain ⟨x, r2, e2, h2⟩ := xpL_e h1
  subst e2
  intro hn hk hI hl H locs lsA hP hS hL
  exact lv_lmul X.1 X.2.1 hd (hK _ _ _ _ _ _ _ h2 hn hk hI hl H locs lsA hP hS hL)
theorem xs_land (X : xCtx p l e s m args below meth c D cI cJ cD b base n0 scr M cs) (hd : decode (mC M) pc = .ok (.land, 1)) (hK : ∀ ls st k n I L P, K Q ls st k n I L P → xAt p l e s m args below meth c D cI cJ cD b base n0 scr M Z (pc + 1) ls st k n I L P) (h : xpL st fun y st => xpL st fun x st => K Q ls (.long (x &&& y) :: st) k n I L P) : xAt p l e s m args below meth c D cI cJ cD b base n0 scr M Z pc ls st k n I L P := by
  obtain ⟨y, r1, e1, h1⟩ := xpL_e h
  subst e1
  obtain ⟨x, r2, e2, h2⟩ := xpL_e h1
  subst e2
  intro hn hk hI hl H locs lsA hP hS hL
  exact lv_land X.1 X.2.1 hd (hK _ _ _ _ _ _ _ h2 hn hk hI hl H locs lsA hP hS hL)
theorem xs_lor (X : xCtx p l e s m args below meth c D cI cJ cD b base n0 scr M cs) (hd : decode (mC M) pc = .ok (.lor, 1)) (hK : ∀ ls st k n I L P, K Q ls st k n I L P → xAt p l e s m args below meth c D cI cJ cD b base n0 scr M Z (pc + 1) ls st k n I L P) (h : xpL st fun y st => xpL st fun x st => K Q ls (.long (x ||| y) :: st) k n I L P) : xAt p l e s m args below meth c D cI cJ cD b base n0 scr M Z pc ls st k n I L P := by
  obtain ⟨y, r1, e1, h1⟩ := xpL_e h
  subst e1
  obtain ⟨x, r2, e2, h2⟩ := xpL_e h1
  subst e2
  intro hn hk hI hl H locs lsA hP hS hL
  exact lv_lor X.1 X.2.1 hd (hK _ _ _ _ _ _ _ h2 hn hk hI hl H locs lsA hP hS hL)
theorem xs_lxor (X : xCtx p l e s m args below meth c D cI cJ cD b base n0 scr M cs) (hd : decode (mC M) pc = .ok (.lxor, 1)) (hK : ∀ ls st k n I L P, K Q ls st k n I L P → xAt p l e s m args below meth c D cI cJ cD b base n0 scr M Z (pc + 1) ls st k n I L P) (h : xpL st fun y st => xpL st fun x st => K Q ls (.long (x ^^^ y) :: st) k n I L P) : xAt p l e s m args below meth c D cI cJ cD b base n0 scr M Z pc ls st k n I L P := by
  obtain ⟨y, r1, e1, h1⟩ := xpL_e h
  subst e1
  obtain ⟨x, r2, e2, h2⟩ := xpL_e h1
  subst e2
  intro hn hk hI hl H locs lsA hP hS hL
  exact lv_lxor X.1 X.2.1 hd (hK _ _ _ _ _ _ _ h2 hn hk hI hl H locs lsA hP hS hL)
theorem xs_lcmp (X : xCtx p l e s m args below meth c D cI cJ cD b base n0 scr M cs) (hd : decode (mC M) pc = .ok (.lcmp, 1)) (hK : ∀ ls st k n I L P, K Q ls st k n I L P → xAt p l e s m args below meth c D cI cJ cD b base n0 scr M Z (pc + 1) ls st k n I L P) (h : xpL st fun y st => xpL st fun x st => K Q ls (.int (lg_cmp x y) :: st) k n I L P) : xAt p l e s m args below meth c D cI cJ cD b base n0 scr M Z pc ls st k n I L P := by
  obtain ⟨y, r1, e1, h1⟩ := xpL_e h
  subst e1
  obtain ⟨x, r2, e2, h2⟩ := xpL_e h1
  subst e2
  intro hn hk hI hl H locs lsA hP hS hL
  exact W.lcmp X.1 X.2.1 hd (hK _ _ _ _ _ _ _ h2 hn hk hI hl H locs lsA hP hS hL)
theorem xs_iushr (X : xCtx p l e s m args below meth c D cI cJ cD b base n0 scr M cs) (hd : decode (mC M) pc = .ok (.iushr, 1)) (hK : ∀ ls st k n I L P, K Q ls st k n I L P → xAt p l e s m args below meth c D cI cJ cD b base n0 scr M Z (pc + 1) ls st k n I L P) (h : xpI st fun y st => xpI st fun x st => K Q ls (.int (x.toUInt32 >>> (y.toUInt32 &&& Int32.toUInt32 31)).toInt32 :: st) k n I L P) : xAt p l e s m args below meth c D cI cJ cD b base n0 scr M Z pc ls st k n I L P := by
  obtain ⟨y, r1, e1, h1⟩ := xpI_e h
  subst e1
  obtain ⟨x, r2, e2, h2⟩ := xpI_e h1
  subst e2
  intro hn hk hI hl H locs lsA hP hS hL
  exact lv_iushr X.1 X.2.1 hd rfl (hK _ _ _ _ _ _ _ h2 hn hk hI hl H locs lsA hP hS hL)
theorem xs_lushr (X : xCtx p l e s m args below meth c D cI cJ cD b base n0 scr M cs) (hd : decode (mC M) pc = .ok (.lushr, 1)) (hK : ∀ ls st k n I L P, K Q ls st k n I L P → xAt p l e s m args below meth c D cI cJ cD b base n0 scr M Z (pc + 1) ls st k n I L P) (h : xpI st fun y st => xpL st fun x st => K Q ls (.long (x.toUInt64 >>> (y.toInt64.toUInt64 &&& Int64.toUInt64 63)).toInt64 :: st) k n I L P) : xAt p l e s m args below meth c D cI cJ cD b base n0 scr M Z pc ls st k n I L P := by
  obtain ⟨y, r1, e1, h1⟩ := xpI_e h
  subst e1
  obtain ⟨x, r2, e2, h2⟩ := xpL_e h1
  subst e2
  intro hn hk hI hl H locs lsA hP hS hL
  exact lv_lushr X.1 X.2.1 hd rfl (hK _ _ _ _ _ _ _ h2 hn hk hI hl H locs lsA hP hS hL)
theorem xs_lshl (X : xCtx p l e s m args below meth c D cI cJ cD b base n0 scr M cs) (hd : decode (mC M) pc = .ok (.lshl, 1)) (hK : ∀ ls st k n I L P, K Q ls st k n I L P → xAt p l e s m args below meth c D cI cJ cD b base n0 scr M Z (pc + 1) ls st k n I L P) (h : xpI st fun y st => xpL st fun x st => K Q ls (.long (x <<< (y.toInt64 &&& 63)) :: st) k n I L P) : xAt p l e s m args below meth c D cI cJ cD b base n0 scr M Z pc ls st k n I L P := by
  obtain ⟨y, r1, e1, h1⟩ := xpI_e h
  subst e1
  obtain ⟨x, r2, e2, h2⟩ := xpL_e h1
  subst e2
  intro hn hk hI hl H locs lsA hP hS hL
  exact lv_lshl X.1 X.2.1 hd rfl (hK _ _ _ _ _ _ _ h2 hn hk hI hl H locs lsA hP hS hL)
theorem xs_idiv (X : xCtx p l e s m args below meth c D cI cJ cD b base n0 scr M cs) (hd : decode (mC M) pc = .ok (.idiv, 1)) (hK : ∀ ls st k n I L P, K Q ls st k n I L P → xAt p l e s m args below meth c D cI cJ cD b base n0 scr M Z (pc + 1) ls st k n I L P) (h : xpI st fun y st => xpI st fun x st => ¬ y = 0 ∧ K Q ls (.int (x / y) :: st) k n I L P) : xAt p l e s m args below meth c D cI cJ cD b base n0 scr M Z pc ls st k n I L P := by
  obtain ⟨y, r1, e1, h1⟩ := xpI_e h
  subst e1
  obtain ⟨x, r2, e2, h0, h2⟩ := xpI_e h1
  subst e2
  intro hn hk hI hl H locs lsA hP hS hL
  exact lv_idiv X.1 X.2.1 hd h0 (hK _ _ _ _ _ _ _ h2 hn hk hI hl H locs lsA hP hS hL)
theorem xs_irem (X : xCtx p l e s m args below meth c D cI cJ cD b base n0 scr M cs) (hd : decode (mC M) pc = .ok (.irem, 1)) (hK : ∀ ls st k n I L P, K Q ls st k n I L P → xAt p l e s m args below meth c D cI cJ cD b base n0 scr M Z (pc + 1) ls st k n I L P) (h : xpI st fun y st => xpI st fun x st => ¬ y = 0 ∧ K Q ls (.int (x - x / y * y) :: st) k n I L P) : xAt p l e s m args below meth c D cI cJ cD b base n0 scr M Z pc ls st k n I L P := by
  obtain ⟨y, r1, e1, h1⟩ := xpI_e h
  subst e1
  obtain ⟨x, r2, e2, h0, h2⟩ := xpI_e h1
  subst e2
  intro hn hk hI hl H locs lsA hP hS hL
  exact lv_irem X.1 X.2.1 hd h0 (hK _ _ _ _ _ _ _ h2 hn hk hI hl H locs lsA hP hS hL)
theorem xs_ldiv (X : xCtx p l e s m args below meth c D cI cJ cD b base n0 scr M cs) (hd : decode (mC M) pc = .ok (.ldiv, 1)) (hK : ∀ ls st k n I L P, K Q ls st k n I L P → xAt p l e s m args below meth c D cI cJ cD b base n0 scr M Z (pc + 1) ls st k n I L P) (h : xpL st fun y st => xpL st fun x st => ¬ y = 0 ∧ K Q ls (.long (x / y) :: st) k n I L P) : xAt p l e s m args below meth c D cI cJ cD b base n0 scr M Z pc ls st k n I L P := by
  obtain ⟨y, r1, e1, h1⟩ := xpL_e h
  subst e1
  obtain ⟨x, r2, e2, h0, h2⟩ := xpL_e h1
  subst e2
  intro hn hk hI hl H locs lsA hP hS hL
  exact lv_ldiv X.1 X.2.1 hd h0 (hK _ _ _ _ _ _ _ h2 hn hk hI hl H locs lsA hP hS hL)
theorem xs_lrem (X : xCtx p l e s m args below meth c D cI cJ cD b base n0 scr M cs) (hd : decode (mC M) pc = .ok (.lrem, 1)) (hK : ∀ ls st k n I L P, K Q ls st k n I L P → xAt p l e s m args below meth c D cI cJ cD b base n0 scr M Z (pc + 1) ls st k n I L P) (h : xpL st fun y st => xpL st fun x st => ¬ y = 0 ∧ K Q ls (.long (x - x / y * y) :: st) k n I L P) : xAt p l e s m args below meth c D cI cJ cD b base n0 scr M Z pc ls st k n I L P := by
  obtain ⟨y, r1, e1, h1⟩ := xpL_e h
  subst e1
  obtain ⟨x, r2, e2, h0, h2⟩ := xpL_e h1
  subst e2
  intro hn hk hI hl H locs lsA hP hS hL
  exact lv_lrem X.1 X.2.1 hd h0 (hK _ _ _ _ _ _ _ h2 hn hk hI hl H locs lsA hP hS hL)
theorem xs_i2l (X : xCtx p l e s m args below meth c D cI cJ cD b base n0 scr M cs) (hd : decode (mC M) pc = .ok (.i2l, 1)) (hK : ∀ ls st k n I L P, K Q ls st k n I L P → xAt p l e s m args below meth c D cI cJ cD b base n0 scr M Z (pc + 1) ls st k n I L P) (h : xpI st fun x st => K Q ls (.long x.toInt64 :: st) k n I L P) : xAt p l e s m args below meth c D cI cJ cD b base n0 scr M Z pc ls st k n I L P := by
  obtain ⟨x, r, rfl, h⟩ := xpI_e h
  intro hn hk hI hl H locs lsA hP hS hL
  exact lv_i2l X.1 X.2.1 hd rfl (hK _ _ _ _ _ _ _ h hn hk hI hl H locs lsA hP hS hL)
theorem xs_l2i (X : xCtx p l e s m args below meth c D cI cJ cD b base n0 scr M cs) (hd : decode (mC M) pc = .ok (.l2i, 1)) (hK : ∀ ls st k n I L P, K Q ls st k n I L P → xAt p l e s m args below meth c D cI cJ cD b base n0 scr M Z (pc + 1) ls st k n I L P) (h : xpL st fun x st => K Q ls (.int x.toInt32 :: st) k n I L P) : xAt p l e s m args below meth c D cI cJ cD b base n0 scr M Z pc ls st k n I L P := by
  obtain ⟨x, r, rfl, h⟩ := xpL_e h
  intro hn hk hI hl H locs lsA hP hS hL
  exact lv_l2i X.1 X.2.1 hd rfl (hK _ _ _ _ _ _ _ h hn hk hI hl H locs lsA hP hS hL)
theorem xs_i2b (X : xCtx p l e s m args below meth c D cI cJ cD b base n0 scr M cs) (hd : decode (mC M) pc = .ok (.i2b, 1)) (hK : ∀ ls st k n I L P, K Q ls st k n I L P → xAt p l e s m args below meth c D cI cJ cD b base n0 scr M Z (pc + 1) ls st k n I L P) (h : xpI st fun x st => K Q ls (.int x.toInt8.toInt32 :: st) k n I L P) : xAt p l e s m args below meth c D cI cJ cD b base n0 scr M Z pc ls st k n I L P := by
  obtain ⟨x, r, rfl, h⟩ := xpI_e h
  intro hn hk hI hl H locs lsA hP hS hL
  exact lv_i2b X.1 X.2.1 hd rfl (hK _ _ _ _ _ _ _ h hn hk hI hl H locs lsA hP hS hL)
theorem xs_pop (X : xCtx p l e s m args below meth c D cI cJ cD b base n0 scr M cs) (hd : decode (mC M) pc = .ok (.pop, 1)) (hK : ∀ ls st k n I L P, K Q ls st k n I L P → xAt p l e s m args below meth c D cI cJ cD b base n0 scr M Z (pc + 1) ls st k n I L P) (h : xp1 st fun _ st => K Q ls st k n I L P) : xAt p l e s m args below meth c D cI cJ cD b base n0 scr M Z pc ls st k n I L P := by
  obtain ⟨v, r, rfl, hv, hc, h⟩ := xp1_e h
  intro hn hk hI hl H locs lsA hP hS hL
  exact lv_pop X.1 X.2.1 hd (hc b base) (hK _ _ _ _ _ _ _ h hn hk hI hl H locs lsA hP hS hL)
theorem xs_dup (X : xCtx p l e s m args below meth c D cI cJ cD b base n0 scr M cs) (hd : decode (mC M) pc = .ok (.dup, 1)) (hK : ∀ ls st k n I L P, K Q ls st k n I L P → xAt p l e s m args below meth c D cI cJ cD b base n0 scr M Z (pc + 1) ls st k n I L P) (h : xp1 st fun v st => K Q ls (v :: v :: st) k n I L P) : xAt p l e s m args below meth c D cI cJ cD b base n0 scr M Z pc ls st k n I L P := by
  obtain ⟨v, r, rfl, hv, hc, h⟩ := xp1_e h
  intro hn hk hI hl H locs lsA hP hS hL
  exact lv_dup X.1 X.2.1 hd (hc b base) (hK _ _ _ _ _ _ _ h hn hk hI hl H locs lsA hP hS hL)
theorem xs_dup2 (X : xCtx p l e s m args below meth c D cI cJ cD b base n0 scr M cs) (hd : decode (mC M) pc = .ok (.dup2, 1)) (hK : ∀ ls st k n I L P, K Q ls st k n I L P → xAt p l e s m args below meth c D cI cJ cD b base n0 scr M Z (pc + 1) ls st k n I L P) (h : xp1 st fun v st => xp1 st fun w st => K Q ls (v :: w :: v :: w :: st) k n I L P) : xAt p l e s m args below meth c D cI cJ cD b base n0 scr M Z pc ls st k n I L P := by
  obtain ⟨v, r1, e1, hv, hc, h1⟩ := xp1_e h
  subst e1
  obtain ⟨w, r2, e2, hv2, hc2, h2⟩ := xp1_e h1
  subst e2
  intro hn hk hI hl H locs lsA hP hS hL
  exact lv_dup2_11 X.1 X.2.1 hd (hc b base) (hc2 b base) (hK _ _ _ _ _ _ _ h2 hn hk hI hl H locs lsA hP hS hL)
theorem xs_null (X : xCtx p l e s m args below meth c D cI cJ cD b base n0 scr M cs) (hd : decode (mC M) pc = .ok (.aconst_null, 1)) (hK : ∀ ls st k n I L P, K Q ls st k n I L P → xAt p l e s m args below meth c D cI cJ cD b base n0 scr M Z (pc + 1) ls st k n I L P) (h : K Q ls (.null :: st) k n I L P) : xAt p l e s m args below meth c D cI cJ cD b base n0 scr M Z pc ls st k n I L P := by
  intro hn hk hI hl H locs lsA hP hS hL
  exact lv_null X.1 X.2.1 hd (hK _ _ _ _ _ _ _ h hn hk hI hl H locs lsA hP hS hL)
theorem xs_iconst (X : xCtx p l e s m args below meth c D cI cJ cD b base n0 scr M cs) {i : Int} {a : Nat} (ha : i.natAbs = a) (hd : decode (mC M) pc = .ok (.iconst i, 1)) (hK : ∀ ls st k n I L P, K Q ls st k n I L P → xAt p l e s m args below meth c D cI cJ cD b base n0 scr M Z (pc + 1) ls st k n I L P) (h : xci i a fun v => K Q ls (.int v :: st) k n I L P) : xAt p l e s m args below meth c D cI cJ cD b base n0 scr M Z pc ls st k n I L P := by
  have h := xci_e h ha
  intro hn hk hI hl H locs lsA hP hS hL
  exact lv_iconst X.1 X.2.1 hd rfl (hK _ _ _ _ _ _ _ h hn hk hI hl H locs lsA hP hS hL)
theorem xs_bipush (X : xCtx p l e s m args below meth c D cI cJ cD b base n0 scr M cs) {i : Int} {a : Nat} (ha : i.natAbs = a) (hr : a < 129) (hr2 : i < 128) (hd : decode (mC M) pc = .ok (.bipush i, 2)) (hK : ∀ ls st k n I L P, K Q ls st k n I L P → xAt p l e s m args below meth c D cI cJ cD b base n0 scr M Z (pc + 2) ls st k n I L P) (h : xci i a fun v => K Q ls (.int v :: st) k n I L P) : xAt p l e s m args below meth c D cI cJ cD b base n0 scr M Z pc ls st k n I L P := by
  have h := xci_e h ha
  intro hn hk hI hl H locs lsA hP hS hL
  exact lv_bipush X.1 X.2.1 hd (xby (by omega) hr2) (hK _ _ _ _ _ _ _ h hn hk hI hl H locs lsA hP hS hL)
theorem xs_sipush (X : xCtx p l e s m args below meth c D cI cJ cD b base n0 scr M cs) {i : Int} {a : Nat} (ha : i.natAbs = a) (hr : a < 32769) (hr2 : i < 32768) (hd : decode (mC M) pc = .ok (.sipush i, 3)) (hK : ∀ ls st k n I L P, K Q ls st k n I L P → xAt p l e s m args below meth c D cI cJ cD b base n0 scr M Z (pc + 3) ls st k n I L P) (h : xci i a fun v => K Q ls (.int v :: st) k n I L P) : xAt p l e s m args below meth c D cI cJ cD b base n0 scr M Z pc ls st k n I L P := by
  have h := xci_e h ha
  intro hn hk hI hl H locs lsA hP hS hL
  exact lv_sipush X.1 X.2.1 hd (xsh (by omega) hr2) (hK _ _ _ _ _ _ _ h hn hk hI hl H locs lsA hP hS hL)
theorem xs_lconst (X : xCtx p l e s m args below meth c D cI cJ cD b base n0 scr M cs) {i : Fin 2} {a : Nat} (ha : i.val = a) (hd : decode (mC M) pc = .ok (.lconst i, 1)) (hK : ∀ ls st k n I L P, K Q ls st k n I L P → xAt p l e s m args below meth c D cI cJ cD b base n0 scr M Z (pc + 1) ls st k n I L P) (h : K Q ls (.long (lN a) :: st) k n I L P) : xAt p l e s m args below meth c D cI cJ cD b base n0 scr M Z pc ls st k n I L P := by
  subst ha
  intro hn hk hI hl H locs lsA hP hS hL
  exact lv_lconst X.1 X.2.1 hd rfl (hK _ _ _ _ _ _ _ h hn hk hI hl H locs lsA hP hS hL)
theorem xs_ldc (X : xCtx p l e s m args below meth c D cI cJ cD b base n0 scr M cs) {i a : Nat} (hw : Cond.constant (mY M).cls i (nI a) ∈ xG) (hd : decode (mC M) pc = .ok (.ldc i, 2)) (hK : ∀ ls st k n I L P, K Q ls st k n I L P → xAt p l e s m args below meth c D cI cJ cD b base n0 scr M Z (pc + 2) ls st k n I L P) (h : K Q ls (.int (nI a) :: st) k n I L P) : xAt p l e s m args below meth c D cI cJ cD b base n0 scr M Z pc ls st k n I L P := by
  intro hn hk hI hl H locs lsA hP hS hL
  exact lv_ldc X.1 X.2.1 X.2.2.2.1 (X.2.2.2.2.1 _ hw) hd (hK _ _ _ _ _ _ _ h hn hk hI hl H locs lsA hP hS hL)
theorem xs_ldcw (X : xCtx p l e s m args below meth c D cI cJ cD b base n0 scr M cs) {i a : Nat} (hw : Cond.constant (mY M).cls i (nI a) ∈ xG) (hd : decode (mC M) pc = .ok (.ldc_w i, 3)) (hK : ∀ ls st k n I L P, K Q ls st k n I L P → xAt p l e s m args below meth c D cI cJ cD b base n0 scr M Z (pc + 3) ls st k n I L P) (h : K Q ls (.int (nI a) :: st) k n I L P) : xAt p l e s m args below meth c D cI cJ cD b base n0 scr M Z pc ls st k n I L P := by
  intro hn hk hI hl H locs lsA hP hS hL
  exact lv_ldcw X.1 X.2.1 X.2.2.2.1 (X.2.2.2.2.1 _ hw) hd (hK _ _ _ _ _ _ _ h hn hk hI hl H locs lsA hP hS hL)
theorem xs_ldc2 (X : xCtx p l e s m args below meth c D cI cJ cD b base n0 scr M cs) {i a c9 : Nat} (hw : Cond.constantLong (mY M).cls i (xcv c9 a) ∈ xG) (hd : decode (mC M) pc = .ok (.ldc2_w i, 3)) (hK : ∀ ls st k n I L P, K Q ls st k n I L P → xAt p l e s m args below meth c D cI cJ cD b base n0 scr M Z (pc + 3) ls st k n I L P) (h : xcl c9 a fun v => K Q ls (.long v :: st) k n I L P) : xAt p l e s m args below meth c D cI cJ cD b base n0 scr M Z pc ls st k n I L P := by
  have h := xcl_e h
  intro hn hk hI hl H locs lsA hP hS hL
  exact lv_ldc2 X.1 X.2.1 X.2.2.2.1 (X.2.2.2.2.1 _ hw) hd (hK _ _ _ _ _ _ _ h hn hk hI hl H locs lsA hP hS hL)
theorem xs_iload (X : xCtx p l e s m args below meth c D cI cJ cD b base n0 scr M cs) {i a : Nat} (ha : i = a) (hd : decode (mC M) pc = .ok (.iload i, 2)) (hK : ∀ ls st k n I L P, K Q ls st k n I L P → xAt p l e s m args below meth c D cI cJ cD b base n0 scr M Z (pc + 2) ls st k n I L P) (h : xgt ls a fun v => xpI [v] fun x _ => K Q ls (.int x :: st) k n I L P) : xAt p l e s m args below meth c D cI cJ cD b base n0 scr M Z pc ls st k n I L P := by
  subst ha
  obtain ⟨v, hv, h⟩ := xgt_e h
  obtain ⟨x, r, hx, h⟩ := xpI_e h
  cases hx
  intro hn hk hI hl H locs lsA hP hS hL
  exact lv_iload X.1 X.2.1 hd (hL.2.2 _ _ hv) (hK _ _ _ _ _ _ _ h hn hk hI hl H locs lsA hP hS hL)
theorem xs_iload_n (X : xCtx p l e s m args below meth c D cI cJ cD b base n0 scr M cs) {i : Fin 4} {a : Nat} (ha : i.val = a) (hd : decode (mC M) pc = .ok (.iload_n i, 1)) (hK : ∀ ls st k n I L P, K Q ls st k n I L P → xAt p l e s m args below meth c D cI cJ cD b base n0 scr M Z (pc + 1) ls st k n I L P) (h : xgt ls a fun v => xpI [v] fun x _ => K Q ls (.int x :: st) k n I L P) : xAt p l e s m args below meth c D cI cJ cD b base n0 scr M Z pc ls st k n I L P := by
  obtain ⟨v, hv, h⟩ := xgt_e h
  obtain ⟨x, r, hx, h⟩ := xpI_e h
  cases hx
  intro hn hk hI hl H locs lsA hP hS hL
  exact lv_iload_n X.1 X.2.1 hd ha (hL.2.2 _ _ hv) (hK _ _ _ _ _ _ _ h hn hk hI hl H locs lsA hP hS hL)
theorem xs_lload (X : xCtx p l e s m args below meth c D cI cJ cD b base n0 scr M cs) {i a : Nat} (ha : i = a) (hd : decode (mC M) pc = .ok (.lload i, 2)) (hK : ∀ ls st k n I L P, K Q ls st k n I L P → xAt p l e s m args below meth c D cI cJ cD b base n0 scr M Z (pc + 2) ls st k n I L P) (h : xgt ls a fun v => xpL [v] fun x _ => K Q ls (.long x :: st) k n I L P) : xAt p l e s m args below meth c D cI cJ cD b base n0 scr M Z pc ls st k n I L P := by
  subst ha
  obtain ⟨v, hv, h⟩ := xgt_e h
  obtain ⟨x, r, hx, h⟩ := xpL_e h
  cases hx
  intro hn hk hI hl H locs lsA hP hS hL
  exact lv_lload X.1 X.2.1 hd (hL.2.2 _ _ hv) (hK _ _ _ _ _ _ _ h hn hk hI hl H locs lsA hP hS hL)
theorem xs_lload_n (X : xCtx p l e s m args below meth c D cI cJ cD b base n0 scr M cs) {i : Fin 4} {a : Nat} (ha : i.val = a) (hd : decode (mC M) pc = .ok (.lload_n i, 1)) (hK : ∀ ls st k n I L P, K Q ls st k n I L P → xAt p l e s m args below meth c D cI cJ cD b base n0 scr M Z (pc + 1) ls st k n I L P) (h : xgt ls a fun v => xpL [v] fun x _ => K Q ls (.long x :: st) k n I L P) : xAt p l e s m args below meth c D cI cJ cD b base n0 scr M Z pc ls st k n I L P := by
  obtain ⟨v, hv, h⟩ := xgt_e h
  obtain ⟨x, r, hx, h⟩ := xpL_e h
  cases hx
  intro hn hk hI hl H locs lsA hP hS hL
  exact lv_lload_n X.1 X.2.1 hd ha (hL.2.2 _ _ hv) (hK _ _ _ _ _ _ _ h hn hk hI hl H locs lsA hP hS hL)
theorem xs_aload (X : xCtx p l e s m args below meth c D cI cJ cD b base n0 scr M cs) {i a : Nat} (ha : i = a) (hd : decode (mC M) pc = .ok (.aload i, 2)) (hK : ∀ ls st k n I L P, K Q ls st k n I L P → xAt p l e s m args below meth c D cI cJ cD b base n0 scr M Z (pc + 2) ls st k n I L P) (h : xgt ls a fun v => xpN [v] (fun _ => K Q ls (.null :: st) k n I L P) fun x _ => K Q ls (.ref x :: st) k n I L P) : xAt p l e s m args below meth c D cI cJ cD b base n0 scr M Z pc ls st k n I L P := by
  subst ha
  obtain ⟨v, hv, h⟩ := xgt_e h
  rcases xpN_e h with ⟨r, hx, h⟩ | ⟨x, r, hx, h⟩
  · cases hx
    intro hn hk hI hl H locs lsA hP hS hL
    exact lv_aloadN X.1 X.2.1 hd (hL.2.2 _ _ hv) (hK _ _ _ _ _ _ _ h hn hk hI hl H locs lsA hP hS hL)
  · cases hx
    intro hn hk hI hl H locs lsA hP hS hL
    exact lv_aload X.1 X.2.1 hd (hL.2.2 _ _ hv) (hK _ _ _ _ _ _ _ h hn hk hI hl H locs lsA hP hS hL)
theorem xs_aload_n (X : xCtx p l e s m args below meth c D cI cJ cD b base n0 scr M cs) {i : Fin 4} {a : Nat} (ha : i.val = a) (hd : decode (mC M) pc = .ok (.aload_n i, 1)) (hK : ∀ ls st k n I L P, K Q ls st k n I L P → xAt p l e s m args below meth c D cI cJ cD b base n0 scr M Z (pc + 1) ls st k n I L P) (h : xgt ls a fun v => xpN [v] (fun _ => K Q ls (.null :: st) k n I L P) fun x _ => K Q ls (.ref x :: st) k n I L P) : xAt p l e s m args below meth c D cI cJ cD b base n0 scr M Z pc ls st k n I L P := by
  obtain ⟨v, hv, h⟩ := xgt_e h
  rcases xpN_e h with ⟨r, hx, h⟩ | ⟨x, r, hx, h⟩
  · cases hx
    intro hn hk hI hl H locs lsA hP hS hL
    exact lv_aload_nN X.1 X.2.1 hd ha (hL.2.2 _ _ hv) (hK _ _ _ _ _ _ _ h hn hk hI hl H locs lsA hP hS hL)
  · cases hx
    intro hn hk hI hl H locs lsA hP hS hL
    exact lv_aload_n X.1 X.2.1 hd ha (hL.2.2 _ _ hv) (hK _ _ _ _ _ _ _ h hn hk hI hl H locs lsA hP hS hL)
theorem xs_istore (X : xCtx p l e s m args below meth c D cI cJ cD b base n0 scr M cs) {i a : Nat} (ha : i = a) (hd : decode (mC M) pc = .ok (.istore i, 2)) (hK : ∀ ls st k n I L P, K Q ls st k n I L P → xAt p l e s m args below meth c D cI cJ cD b base n0 scr M Z (pc + 2) ls st k n I L P) (h : xpI st fun x st => xs1 (.int x) ls a fun ls => K Q ls st k n I L P) : xAt p l e s m args below meth c D cI cJ cD b base n0 scr M Z pc ls st k n I L P := by
  subst ha
  obtain ⟨x, r, rfl, h⟩ := xpI_e h
  obtain ⟨ls2, h, h1, h2, h4⟩ := xs1_e h
  intro hn hk hI hl H locs lsA hP hS hL
  exact lv_istore X.1 X.2.1 hd hL.has h2 rfl (fun lsB hB => hK _ _ _ _ _ _ _ h hn hk hI (h1.trans hl) H locs lsB hP hS (xLR.st1 h1 h4 hB))
theorem xs_istore_n (X : xCtx p l e s m args below meth c D cI cJ cD b base n0 scr M cs) {i : Fin 4} {a : Nat} (ha : i.val = a) (hd : decode (mC M) pc = .ok (.istore_n i, 1)) (hK : ∀ ls st k n I L P, K Q ls st k n I L P → xAt p l e s m args below meth c D cI cJ cD b base n0 scr M Z (pc + 1) ls st k n I L P) (h : xpI st fun x st => xs1 (.int x) ls a fun ls => K Q ls st k n I L P) : xAt p l e s m args below meth c D cI cJ cD b base n0 scr M Z pc ls st k n I L P := by
  obtain ⟨x, r, rfl, h⟩ := xpI_e h
  obtain ⟨ls2, h, h1, h2, h4⟩ := xs1_e h
  intro hn hk hI hl H locs lsA hP hS hL
  exact lv_istore_n X.1 X.2.1 hd ha hL.has h2 rfl (fun lsB hB => hK _ _ _ _ _ _ _ h hn hk hI (h1.trans hl) H locs lsB hP hS (xLR.st1 h1 h4 hB))
theorem xs_lstore (X : xCtx p l e s m args below meth c D cI cJ cD b base n0 scr M cs) {i a : Nat} (ha : i = a) (hd : decode (mC M) pc = .ok (.lstore i, 2)) (hK : ∀ ls st k n I L P, K Q ls st k n I L P → xAt p l e s m args below meth c D cI cJ cD b base n0 scr M Z (pc + 2) ls st k n I L P) (h : xpL st fun x st => xs2 (.long x) ls a fun ls => K Q ls st k n I L P) : xAt p l e s m args below meth c D cI cJ cD b base n0 scr M Z pc ls st k n I L P := by
  subst ha
  obtain ⟨x, r, rfl, h⟩ := xpL_e h
  obtain ⟨ls2, h, h1, h2, h4⟩ := xs2_e h
  intro hn hk hI hl H locs lsA hP hS hL
  exact lv_lstore X.1 X.2.1 hd hL.has h2 rfl (fun lsB hB => hK _ _ _ _ _ _ _ h hn hk hI (h1.trans hl) H locs lsB hP hS (xLR.st2 h1 h4 hB))
theorem xs_lstore_n (X : xCtx p l e s m args below meth c D cI cJ cD b base n0 scr M cs) {i : Fin 4} {a : Nat} (ha : i.val = a) (hd : decode (mC M) pc = .ok (.lstore_n i, 1)) (hK : ∀ ls st k n I L P, K Q ls st k n I L P → xAt p l e s m args below meth c D cI cJ cD b base n0 scr M Z (pc + 1) ls st k n I L P) (h : xpL st fun x st => xs2 (.long x) ls a fun ls => K Q ls st k n I L P) : xAt p l e s m args below meth c D cI cJ cD b base n0 scr M Z pc ls st k n I L P := by
  obtain ⟨x, r, rfl, h⟩ := xpL_e h
  obtain ⟨ls2, h, h1, h2, h4⟩ := xs2_e h
  intro hn hk hI hl H locs lsA hP hS hL
  exact lv_lstore_n X.1 X.2.1 hd ha hL.has h2 rfl (fun lsB hB => hK _ _ _ _ _ _ _ h hn hk hI (h1.trans hl) H locs lsB hP hS (xLR.st2 h1 h4 hB))
theorem xs_astore (X : xCtx p l e s m args below meth c D cI cJ cD b base n0 scr M cs) {i a : Nat} (ha : i = a) (hd : decode (mC M) pc = .ok (.astore i, 2)) (hK : ∀ ls st k n I L P, K Q ls st k n I L P → xAt p l e s m args below meth c D cI cJ cD b base n0 scr M Z (pc + 2) ls st k n I L P) (h : xpN st (fun st => xs1 .null ls a fun ls => K Q ls st k n I L P) fun x st => xs1 (.ref x) ls a fun ls => K Q ls st k n I L P) : xAt p l e s m args below meth c D cI cJ cD b base n0 scr M Z pc ls st k n I L P := by
  subst ha
  rcases xpN_e h with ⟨r, rfl, h⟩ | ⟨x, r, rfl, h⟩
  · obtain ⟨ls2, h, h1, h2, h4⟩ := xs1_e h
    intro hn hk hI hl H locs lsA hP hS hL
    exact lv_astoreN X.1 X.2.1 hd hL.has h2 rfl (fun lsB hB => hK _ _ _ _ _ _ _ h hn hk hI (h1.trans hl) H locs lsB hP hS (xLR.st1 h1 h4 hB))
  · obtain ⟨ls2, h, h1, h2, h4⟩ := xs1_e h
    intro hn hk hI hl H locs lsA hP hS hL
    exact lv_astore X.1 X.2.1 hd hL.has h2 rfl (fun lsB hB => hK _ _ _ _ _ _ _ h hn hk hI (h1.trans hl) H locs lsB hP hS (xLR.st1 h1 h4 hB))

theorem xs_astore_n (X : xCtx p l e s m args below meth c D cI cJ cD b base n0 scr M cs) {i : Fin 4} {a : Nat} (ha : i.val = a) (hd : decode (mC M) pc = .ok (.astore_n i, 1)) (hK : ∀ ls st k n I L P, K Q ls st k n I L P → xAt p l e s m args below meth c D cI cJ cD b base n0 scr M Z (pc + 1) ls st k n I L P) (h : xpN st (fun st => xs1 .null ls a fun ls => K Q ls st k n I L P) fun x st => xs1 (.ref x) ls a fun ls => K Q ls st k n I L P) : xAt p l e s m args below meth c D cI cJ cD b base n0 scr M Z pc ls st k n I L P := by
  rcases xpN_e h with ⟨r, rfl, h⟩ | ⟨x, r, rfl, h⟩
  · obtain ⟨ls2, h, h1, h2, h4⟩ := xs1_e h
    intro hn hk hI hl H locs lsA hP hS hL
    exact lv_astore_nN X.1 X.2.1 hd ha hL.has h2 rfl (fun lsB hB => hK _ _ _ _ _ _ _ h hn hk hI (h1.trans hl) H locs lsB hP hS (xLR.st1 h1 h4 hB))
  · obtain ⟨ls2, h, h1, h2, h4⟩ := xs1_e h
    intro hn hk hI hl H locs lsA hP hS hL
    exact lv_astore_n X.1 X.2.1 hd ha hL.has h2 rfl (fun lsB hB => hK _ _ _ _ _ _ _ h hn hk hI (h1.trans hl) H locs lsB hP hS (xLR.st1 h1 h4 hB))

theorem xs_iinc (X : xCtx p l e s m args below meth c D cI cJ cD b base n0 scr M cs) {i a b9 : Nat} {d : Int} (ha : i = a) (hb9 : d.natAbs = b9) (hd : decode (mC M) pc = .ok (.iinc i d, 3)) (hK : ∀ ls st k n I L P, K Q ls st k n I L P → xAt p l e s m args below meth c D cI cJ cD b base n0 scr M Z (pc + 3) ls st k n I L P) (h : xgt ls a fun v => xpI [v] fun x _ => (match d with
  | .ofNat _ => xs1 (.int (x + nI b9)) ls a fun ls => K Q ls st k n I L P
  | .negSucc _ => xs1 (.int (x - nI b9)) ls a fun ls => K Q ls st k n I L P)) : xAt p l e s m args below meth c D cI cJ cD b base n0 scr M Z pc ls st k n I L P := by
  subst ha
  obtain ⟨v, hv, h⟩ := xgt_e h
  obtain ⟨x, r, hx, h⟩ := xpI_e h
  cases hx
  have h : xs1 (.int (x + Int32.ofInt d)) ls i fun ls => K Q ls st k n I L P := by
    subst hb9
    cases d with
    | ofNat j =>
      rw [show Int32.ofInt (Int.ofNat j) = nI (Int.ofNat j).natAbs from Int32.ofInt_eq_ofNat]
      exact h
    | negSucc j =>
      have e1 : Int32.ofInt (Int.negSucc j) = -(nI (Int.negSucc j).natAbs) := xci_e (i := Int.negSucc j) (k := fun z => z = -(nI (Int.negSucc j).natAbs)) rfl rfl
      rw [e1, ← Int32.sub_eq_add_neg]
      exact h
  obtain ⟨ls2, h, h1, h2, h4⟩ := xs1_e h
  intro hn hk hI hl H locs lsA hP hS hL
  obtain ⟨q, hq⟩ := List.getElem?_of_mem (xas_mem (b := b) (base := base) hv)
  exact lv_iinc X.1 X.2.1 hd hL.has (k := q) hq rfl h2 rfl (fun lsB hB => hK _ _ _ _ _ _ _ h hn hk hI (h1.trans hl) H locs lsB hP hS (xLR.st1 h1 h4 hB))
theorem xs_goto (X : xCtx p l e s m args below meth c D cI cJ cD b base n0 scr M cs) {off : Int} {a : Nat} (ht : (pc : Int) + off = (a : Int)) (hd : decode (mC M) pc = .ok (.goto off, 3)) (hJ : ∀ ls st k n I L P, J a Q ls st k n I L P → xAt p l e s m args below meth c D cI cJ cD b base n0 scr M Z a ls st k n I L P) (h : J a Q ls st k n I L P) : xAt p l e s m args below meth c D cI cJ cD b base n0 scr M Z pc ls st k n I L P := by
  intro hn hk hI hl H locs lsA hP hS hL
  exact lv_goto X.1 X.2.1 hd ht (hJ _ _ _ _ _ _ _ h hn hk hI hl H locs lsA hP hS hL)
theorem xs_icmp (X : xCtx p l e s m args below meth c D cI cJ cD b base n0 scr M cs) {cnd : ClassFile.Cond} {off : Int} {a : Nat} (ht : (pc : Int) + off = (a : Int)) (hd : decode (mC M) pc = .ok (.if_icmp cnd off, 3)) (hK : ∀ ls st k n I L P, K Q ls st k n I L P → xAt p l e s m args below meth c D cI cJ cD b base n0 scr M Z (pc + 3) ls st k n I L P) (hJ : ∀ ls st k n I L P, J a Q ls st k n I L P → xAt p l e s m args below meth c D cI cJ cD b base n0 scr M Z a ls st k n I L P) (h : xpI st fun y st => xpI st fun x st => xcmp cnd x y (J a Q ls st k n I L P) (K Q ls st k n I L P)) : xAt p l e s m args below meth c D cI cJ cD b base n0 scr M Z pc ls st k n I L P := by
  obtain ⟨y, r1, e1, h1⟩ := xpI_e h
  subst e1
  obtain ⟨x, r2, e2, h2⟩ := xpI_e h1
  subst e2
  intro hn hk hI hl H locs lsA hP hS hL
  cases cnd
  case eq => exact lv_icmp_eq X.1 X.2.1 hd ht (fun q => hJ _ _ _ _ _ _ _ (h2.1 q) hn hk hI hl H locs lsA hP hS hL) (fun q => hK _ _ _ _ _ _ _ (h2.2 q) hn hk hI hl H locs lsA hP hS hL)
  case ne => exact lv_icmp_ne X.1 X.2.1 hd ht (fun q => hJ _ _ _ _ _ _ _ (h2.2 q) hn hk hI hl H locs lsA hP hS hL) (fun q => hK _ _ _ _ _ _ _ (h2.1 q) hn hk hI hl H locs lsA hP hS hL)
  case lt => exact lv_icmp_lt X.1 X.2.1 hd ht (fun q => hJ _ _ _ _ _ _ _ (h2.1 q) hn hk hI hl H locs lsA hP hS hL) (fun q => hK _ _ _ _ _ _ _ (h2.2 q) hn hk hI hl H locs lsA hP hS hL)
  case ge => exact lv_icmp_ge X.1 X.2.1 hd ht (fun q => hJ _ _ _ _ _ _ _ (h2.1 q) hn hk hI hl H locs lsA hP hS hL) (fun q => hK _ _ _ _ _ _ _ (h2.2 q) hn hk hI hl H locs lsA hP hS hL)
  case gt => exact lv_icmp_gt X.1 X.2.1 hd ht (fun q => hJ _ _ _ _ _ _ _ (h2.1 q) hn hk hI hl H locs lsA hP hS hL) (fun q => hK _ _ _ _ _ _ _ (h2.2 q) hn hk hI hl H locs lsA hP hS hL)
  case le => exact lv_icmp_le X.1 X.2.1 hd ht (fun q => hJ _ _ _ _ _ _ _ (h2.1 q) hn hk hI hl H locs lsA hP hS hL) (fun q => hK _ _ _ _ _ _ _ (h2.2 q) hn hk hI hl H locs lsA hP hS hL)

theorem xs_if (X : xCtx p l e s m args below meth c D cI cJ cD b base n0 scr M cs) {cnd : ClassFile.Cond} {off : Int} {a : Nat} (ht : (pc : Int) + off = (a : Int)) (hd : decode (mC M) pc = .ok (.ifCond cnd off, 3)) (hK : ∀ ls st k n I L P, K Q ls st k n I L P → xAt p l e s m args below meth c D cI cJ cD b base n0 scr M Z (pc + 3) ls st k n I L P) (hJ : ∀ ls st k n I L P, J a Q ls st k n I L P → xAt p l e s m args below meth c D cI cJ cD b base n0 scr M Z a ls st k n I L P) (h : xpI st fun x st => xcmp cnd x 0 (J a Q ls st k n I L P) (K Q ls st k n I L P)) : xAt p l e s m args below meth c D cI cJ cD b base n0 scr M Z pc ls st k n I L P := by
  obtain ⟨x, r, rfl, h⟩ := xpI_e h
  intro hn hk hI hl H locs lsA hP hS hL
  cases cnd
  case eq => exact lv_if_eq X.1 X.2.1 hd ht (fun q => hJ _ _ _ _ _ _ _ (h.1 q) hn hk hI hl H locs lsA hP hS hL) (fun q => hK _ _ _ _ _ _ _ (h.2 q) hn hk hI hl H locs lsA hP hS hL)
  case ne => exact lv_if_ne X.1 X.2.1 hd ht (fun q => hJ _ _ _ _ _ _ _ (h.2 q) hn hk hI hl H locs lsA hP hS hL) (fun q => hK _ _ _ _ _ _ _ (h.1 q) hn hk hI hl H locs lsA hP hS hL)
  case lt => exact lv_if_lt X.1 X.2.1 hd ht (fun q => hJ _ _ _ _ _ _ _ (h.1 q) hn hk hI hl H locs lsA hP hS hL) (fun q => hK _ _ _ _ _ _ _ (h.2 q) hn hk hI hl H locs lsA hP hS hL)
  case ge => exact lv_if_ge X.1 X.2.1 hd ht (fun q => hJ _ _ _ _ _ _ _ (h.1 q) hn hk hI hl H locs lsA hP hS hL) (fun q => hK _ _ _ _ _ _ _ (h.2 q) hn hk hI hl H locs lsA hP hS hL)
  case gt => exact lv_if_gt X.1 X.2.1 hd ht (fun q => hJ _ _ _ _ _ _ _ (h.1 q) hn hk hI hl H locs lsA hP hS hL) (fun q => hK _ _ _ _ _ _ _ (h.2 q) hn hk hI hl H locs lsA hP hS hL)
  case le => exact lv_if_le X.1 X.2.1 hd ht (fun q => hJ _ _ _ _ _ _ _ (h.1 q) hn hk hI hl H locs lsA hP hS hL) (fun q => hK _ _ _ _ _ _ _ (h.2 q) hn hk hI hl H locs lsA hP hS hL)

theorem xs_ifnull (X : xCtx p l e s m args below meth c D cI cJ cD b base n0 scr M cs) {off : Int} {a : Nat} (ht : (pc : Int) + off = (a : Int)) (hd : decode (mC M) pc = .ok (.ifnull off, 3)) (hK : ∀ ls st k n I L P, K Q ls st k n I L P → xAt p l e s m args below meth c D cI cJ cD b base n0 scr M Z (pc + 3) ls st k n I L P) (hJ : ∀ ls st k n I L P, J a Q ls st k n I L P → xAt p l e s m args below meth c D cI cJ cD b base n0 scr M Z a ls st k n I L P) (h : xpN st (fun st => J a Q ls st k n I L P) fun _ st => K Q ls st k n I L P) : xAt p l e s m args below meth c D cI cJ cD b base n0 scr M Z pc ls st k n I L P := by
  rcases xpN_e h with ⟨r, rfl, h⟩ | ⟨x, r, rfl, h⟩
  · intro hn hk hI hl H locs lsA hP hS hL
    exact lv_ifnullN X.1 X.2.1 hd ht (hJ _ _ _ _ _ _ _ h hn hk hI hl H locs lsA hP hS hL)
  · intro hn hk hI hl H locs lsA hP hS hL
    exact lv_ifnull X.1 X.2.1 hd (hK _ _ _ _ _ _ _ h hn hk hI hl H locs lsA hP hS hL)
theorem xs_ifnonnull (X : xCtx p l e s m args below meth c D cI cJ cD b base n0 scr M cs) {off : Int} {a : Nat} (ht : (pc : Int) + off = (a : Int)) (hd : decode (mC M) pc = .ok (.ifnonnull off, 3)) (hK : ∀ ls st k n I L P, K Q ls st k n I L P → xAt p l e s m args below meth c D cI cJ cD b base n0 scr M Z (pc + 3) ls st k n I L P) (hJ : ∀ ls st k n I L P, J a Q ls st k n I L P → xAt p l e s m args below meth c D cI cJ cD b base n0 scr M Z a ls st k n I L P) (h : xpN st (fun st => K Q ls st k n I L P) fun _ st => J a Q ls st k n I L P) : xAt p l e s m args below meth c D cI cJ cD b base n0 scr M Z pc ls st k n I L P := by
  rcases xpN_e h with ⟨r, rfl, h⟩ | ⟨x, r, rfl, h⟩
  · intro hn hk hI hl H locs lsA hP hS hL
    exact lv_ifnonnullN X.1 X.2.1 hd (hK _ _ _ _ _ _ _ h hn hk hI hl H locs lsA hP hS hL)
  · intro hn hk hI hl H locs lsA hP hS hL
    exact lv_ifnonnull X.1 X.2.1 hd ht (hJ _ _ _ _ _ _ _ h hn hk hI hl H locs lsA hP hS hL)
end STEPS
