/-! a walk is sound; a contract out of a walk -/
def xChain : List xE → Bool
  | e :: r => (match r with
    | [] => true
    | e' :: _ => Nat.beq e'.1 (e.1 + e.2.1)) && xChain r
  | [] => true
def xNeed (i : Instr) : Bool := match i with
  | .ldc _ => true
  | .ldc_w _ => true
  | .ldc2_w _ => true
  | .getfield _ => true
  | .putfield _ => true
  | .new _ => true
  | .newarray _ => true
  | .anewarray _ => true
  | .invokevirtual _ => true
  | .invokespecial _ => true
  | .invokestatic _ => true
  | _ => false
def xWs (M : xM) (cs : xCs) : List xE → Prop
  | [] => True
  | e :: r => match xNeed e.2.2.1 with
    | true => xWrd M cs e ∧ xWs M cs r
    | false => xWs M cs r
def xDec (cc : ByteArray) (t : List xE) : Bool := t.all fun e => decide (decode cc e.1 = .ok (e.2.2.1, e.2.1))
def xOkM (M : xM) (cs : xCs) : Prop := xDec (mC M) (mP M) = true ∧ (mP M).all (xChk M cs) = true ∧ xChain (mP M) = true ∧ xWs M cs (mP M)
theorem xNeed_n {M : xM} {cs : xCs} {e : xE} (h : xNeed e.2.2.1 = false) : xWrd M cs e := by
  obtain ⟨pc, len, ins, a, b, c, tb⟩ := e
  cases ins <;> first | exact trivial | exact Bool.noConfusion h
theorem xWs_e {M : xM} {cs : xCs} : ∀ {t : List xE}, xWs M cs t → ∀ e ∈ t, xWrd M cs e
  | [], _, e, he => absurd he List.not_mem_nil
  | e0 :: r, h, e, he => by
    unfold xWs at h
    rcases List.mem_cons.mp he with rfl | he
    · cases hn : xNeed e.2.2.1 with
      | false => exact xNeed_n hn
      | true => rw [hn] at h; exact h.1
    · cases hn : xNeed e0.2.2.1 with
      | false => rw [hn] at h; exact xWs_e h e he
      | true => rw [hn] at h; exact xWs_e h.2 e he
theorem xChain_e {e e' : xE} {r : List xE} : ∀ {pre : List xE}, xChain (pre ++ e :: e' :: r) = true → e'.1 = e.1 + e.2.1
  | [], h => by
    unfold xChain at h
    exact xbeq (xand h).1
  | p :: pre, h => by
    have h : xChain (p :: (pre ++ e :: e' :: r)) = true := h
    unfold xChain at h
    exact xChain_e (xand h).2
section WALK
variable {p : Program} {l : Launch} {e : Env} {s : State} {m : MethodId} {args : Array Value} {below : List Frame} {meth : Method} {c : Code} {D : va_G} {cI cJ cD : ClassId} {b base n0 : Nat} {scr : Nat → Int32} {M : xM} {cs : xCs} {Q : xQ} {Z : State → Prop}
theorem xAt_mask {ls : xV} {st : List Value} {k n pc : Nat} {I : xI} {L : xL} {P : xR} {mk : List Bool} (h : xAt p l e s m args below meth c D cI cJ cD b base n0 scr M Z pc (xmask mk ls) st k n I L P) : xAt p l e s m args below meth c D cI cJ cD b base n0 scr M Z pc ls st k n I L P :=
  fun hn hk hI hl H locs lsA hP hS hL => h hn hk hI (by rw [xmask_len]; exact hl) H locs lsA hP hS ⟨by rw [xmask_len]; exact hL.1, hL.2.1, fun i v hv => hL.2.2 i v (xmask_e hv)⟩
theorem xfe_e {t : Nat} {k : xE → Option Nat → Prop} : ∀ {c : List xE}, xfe t c k → ∃ pre e r q, c = pre ++ e :: r ∧ e.1 = t ∧ k e q ∧ (∀ e' r', r = e' :: r' → q = some e'.1) ∧ (r = [] → q = none)
  | [], h => absurd h (fun q => q)
  | e0 :: r0, h => by
    unfold xfe at h
    cases hb : Nat.beq e0.1 t with
    | true =>
      rw [hb] at h
      cases r0 with
      | nil => exact ⟨[], e0, [], none, rfl, xbeq hb, h, fun e' r' q => (by cases q), fun _ => rfl⟩
      | cons e1 r1 => exact ⟨[], e0, e1 :: r1, some e1.1, rfl, xbeq hb, h, fun e' r' q => (by cases q; rfl), fun q => (by cases q)⟩
    | false =>
      rw [hb] at h
      obtain ⟨pre, e, r, q, h1, h2, h3, h4, h5⟩ := xfe_e (c := r0) h
      exact ⟨e0 :: pre, e, r, q, by rw [h1]; rfl, h2, h3, h4, h5⟩
theorem xnx_e {cut : List (Nat × List Bool)} {g : Nat → xK} {w : Nat → xK} {t : Nat} {ls : xV} {st : List Value} {k n : Nat} {I : xI} {L : xL} {P : xR} (hg : ∀ pc ls st k n I L P, g pc Q ls st k n I L P → xAt p l e s m args below meth c D cI cJ cD b base n0 scr M Z pc ls st k n I L P)
    (hw : ∀ t ls st k n I L P, w t Q ls st k n I L P → xAt p l e s m args below meth c D cI cJ cD b base n0 scr M Z t ls st k n I L P) (h : xnx cut g w t Q ls st k n I L P) : xAt p l e s m args below meth c D cI cJ cD b base n0 scr M Z t ls st k n I L P := by
  unfold xnx at h
  split at h
  · exact xAt_mask (hg _ _ _ _ _ _ _ _ h)
  · exact hw _ _ _ _ _ _ _ _ h
theorem xwp_ok (X : xCtx p l e s m args below meth c D cI cJ cD b base n0 scr M cs) (R : xRt p l e s m args below meth c D cI cJ cD b base n0 scr M Q Z) (hh : ∀ q ∈ cs, xHd q.1) (hM : xOkM M cs) {g : Nat → xK} {cut : List (Nat × List Bool)} (hg : ∀ pc ls st k n I L P, g pc Q ls st k n I L P → xAt p l e s m args below meth c D cI cJ cD b base n0 scr M Z pc ls st k n I L P) :
    ∀ (f t : Nat) (ls : xV) (st : List Value) (k n : Nat) (I : xI) (L : xL) (P : xR), xwp M cs g cut f t Q ls st k n I L P → xAt p l e s m args below meth c D cI cJ cD b base n0 scr M Z t ls st k n I L P := by
  intro f
  induction f with
  | zero =>
    intro t ls st k n I L P h
    exact hg _ _ _ _ _ _ _ _ h
  | succ f ih =>
    intro t ls st k n I L P h
    unfold xwp at h
    obtain ⟨pre, e0, r, q, hpre, ht, h9, hq, hq0⟩ := xfe_e h
    subst ht
    have hmem : e0 ∈ mP M := by rw [hpre]; exact List.mem_append_right _ List.mem_cons_self
    obtain ⟨h1, h2, h3, h4⟩ := hM
    have hd : decode (mC M) e0.1 = .ok (e0.2.2.1, e0.2.1) := of_decide_eq_true (List.all_eq_true.mp h1 e0 hmem)
    have hc : xChk M cs e0 = true := List.all_eq_true.mp h2 e0 hmem
    refine xstep_ok X R hh hd hc (xWs_e h4 e0 hmem) (fun ls st k n I L P h => ?_) (fun t ls st k n I L P h => ?_) h9
    · cases r with
      | nil =>
        rw [hq0 rfl] at h
        exact absurd h (fun q => q)
      | cons e1 r1 =>
        rw [hq e1 r1 rfl] at h
        have hat := xnx_e (M := M) (Z := Z) hg ih h
        rw [xChain_e (pre := pre) (by rw [← hpre]; exact h3)] at hat
        exact hat
    · exact xnx_e (M := M) (Z := Z) hg ih h
end WALK
/-- go on by computation -/
theorem xrun {M : xM} {cs : xCs} {Q : xQ} (hM : xOkM M cs) (hh : ∀ q ∈ cs, xHd q.1) (cut : List (Nat × List Bool)) (f : Nat) {pc : Nat} {ls : xV} {st : List Value} {k n : Nat} {I : xI} {L : xL} {P : xR} (h : xwp M cs (xGo M cs) cut f pc Q ls st k n I L P) : xGo M cs pc Q ls st k n I L P := by
  intro p l e s m args below meth c D cI cJ cD b base n0 scr Z X R
  exact xwp_ok X R hh hM (fun pc ls st k n I L P h => h p l e s m args below meth c D cI cJ cD b base n0 scr Z X R) f pc ls st k n I L P h
def xlay : List Value → xV
  | [] => []
  | v :: r => match v with
    | .long x => some (.long x) :: none :: xlay r
    | .double x => some (.double x) :: none :: xlay r
    | v => some v :: xlay r
def xpad (n : Nat) (as : List Value) : xV := xlay as ++ List.replicate (n - (xlay as).length) none
theorem xlay_at {b base : Nat} : ∀ {as : List Value} {o i : Nat} {v : Value}, (xlay as)[i]? = some (some v) → (o + i, xv b base v) ∈ lv_args o (as.map (xv b base))
  | [], o, i, v, h => by simp [xlay] at h
  | w :: r, o, i, v, h => by
    have one : w.category = 1 → (some w :: xlay r)[i]? = some (some v) → (o + i, xv b base v) ∈ lv_args o ((w :: r).map (xv b base)) := fun hc h => by
      rw [List.map_cons]
      unfold lv_args
      rw [xv_cat, hc]
      cases i with
      | zero => simp at h; subst h; exact List.mem_cons_self
      | succ i =>
        refine List.mem_cons_of_mem _ ?_
        have := xlay_at (b := b) (base := base) (as := r) (o := o + 1) (i := i) (v := v) (by simpa using h)
        rw [show o + (i + 1) = o + 1 + i by omega]
        simpa using this
    have two : w.category = 2 → (some w :: none :: xlay r)[i]? = some (some v) → (o + i, xv b base v) ∈ lv_args o ((w :: r).map (xv b base)) := fun hc h => by
      rw [List.map_cons]
      unfold lv_args
      rw [xv_cat, hc]
      match i, h with
      | 0, h => simp at h; subst h; exact List.mem_cons_self
      | 1, h => simp at h
      | i + 2, h =>
        refine List.mem_cons_of_mem _ ?_
        have := xlay_at (b := b) (base := base) (as := r) (o := o + 2) (i := i) (v := v) (by simpa using h)
        rw [show o + (i + 2) = o + 2 + i by omega]
        simpa using this
    cases w with
    | long x => exact two rfl h
    | double x => exact two rfl h
    | int x => exact one rfl h
    | float x => exact one rfl h
    | null => exact one rfl h
    | ref x => exact one rfl h
    | retAddr x => exact one rfl h
theorem xlay_len {b base : Nat} : ∀ {as : List Value}, (lg_sl (as.map (xv b base))).length = (xlay as).length
  | [] => rfl
  | w :: r => by
    have ih := xlay_len (b := b) (base := base) (as := r)
    cases w <;> (simp only [List.map_cons, lg_sl, List.flatMap_cons, List.length_append] at ih ⊢; rw [ih]; simp [xlay, xv, Value.category]; try omega)
theorem xentry {b base n : Nat} {as : List Value} (h : (xlay as).length ≤ n) : xLR b base ((lg_sl (as.map (xv b base)) ++ List.replicate (n - (lg_sl (as.map (xv b base))).length) Slot.unset).toArray) (xpad n as) := by
  have hl := lv_entry (as.map (xv b base)) (n := n) (by rw [xlay_len]; exact h)
  refine ⟨by rw [hl.1, xpad]; simp; omega, hl.2.1, fun i v hv => ?_⟩
  have hv2 : (xlay as)[i]? = some (some v) := by
    unfold xpad at hv
    by_cases hi : i < (xlay as).length
    · rwa [List.getElem?_append_left hi] at hv
    · rw [List.getElem?_append_right (by omega), List.getElem?_replicate] at hv
      split at hv <;> simp at hv
  have := hl.2.2 (0 + i, xv b base v) (xlay_at hv2)
  simpa using this
theorem xcon_of {M : xM} {cs : xCs} {sp : xSpec} (hM : xOkM M cs) (hd : xHd M) (hp : plainName (mY M).cls = true) (hh : ∀ q ∈ cs, xHd q.1) (hcs : ∀ q ∈ cs, ∀ l, xCon l q.1 q.2)
    (hgo : ∀ (as : List Value) (n : Nat) (I : xI) (L : xL) (P : xR) (Q : xQ), sp as n I L P Q → (xlay as).length ≤ mL M ∧ xGo M cs 0 Q (xpad (mL M) as) [] 0 n I L P) : ∀ l, xCon l M sp := by
  intro l D cI cJ cD b base n as I L P Q hsp
  obtain ⟨hlen, hgo⟩ := hgo as n I L P Q hsp
  refine Met.ofW (cc := mC M) (maxL := mL M) (ret := mT M) hp rfl ?_
  intro p e s m args below meth c s₁ B hml hv
  obtain ⟨rfl, hsz, hP, hK, hX0⟩ := hv
  have hts : ∀ w ∈ xG, w.before (as.map (xv b base)).toArray s = true := fun w hw => atoms_spec (ws := mWs M) B.pre w (List.mem_cons_of_mem _ hw)
  have hlocks := B.notSynchronized
  have hr := B.returns
  have X : xCtx p l e s m (as.map (xv b base)).toArray below meth c D cI cJ cD b base n (I 0) M cs := ⟨B.exec, B.bytes, hml, findClass_of_methodNamed B.named, hts, hK, hsz, fun hn => (name_of_methodNamed B.named B.method).1.trans hn, fun q hq => hcs q hq l, hX0⟩
  have R : xRt p l e s m (as.map (xv b base)).toArray below meth c D cI cJ cD b base n (I 0) M Q (MQ below (fun _ st oc t => (∃ (r : Option Value) (I' : xI) (L' : xL) (P' : xR), oc = .returned (r.map (xv b base)) ∧ Q r (n + mN M) I' L' P' ∧ I' 0 = I 0 ∧ va_P D vwCl (xws b base cI cJ cD (n + mN M) I' L' P') t.heap) ∧ va_F (xA base) st t) (as.map (xv b base)).toArray s (mN M) (xS (n + mN M) - xS n) (xA base)) := by
    intro r pc n1 ins I1 L1 P1 hdg hrw hq hn1 hI1 H locs lsA hP1 hS1
    subst hn1
    have post : ∀ t : State, t.heap = H → s.WarmedH t.vm → (∃ (r' : Option Value) (I' : xI) (L' : xL) (P' : xR), Outcome.returned (r.map (xv b base)) = .returned (r'.map (xv b base)) ∧ Q r' (n + mN M) I' L' P' ∧ I' 0 = I 0 ∧ va_P D vwCl (xws b base cI cJ cD (n + mN M) I' L' P') t.heap) ∧ va_F (xA base) s t := fun t ht hW => ⟨⟨r, I1, L1, P1, rfl, hq, hI1, by rw [ht]; exact hP1⟩, hS1.F ht⟩
    unfold xRw at hrw
    split at hrw
    · exact W.vret B.exec B.bytes (hr.trans hrw) post hS1.2.2 hdg
    · rename_i x
      rcases hrw with ht | ⟨ht, hx⟩
      · exact W.iret B.exec B.bytes (hr.trans ht) post hS1.2.2 hdg
      · exact W.zret B.exec B.bytes (hr.trans ht) (by rcases hx with rfl | rfl <;> rfl) post hS1.2.2 hdg
    · exact W.lret B.exec B.bytes (hr.trans hrw) post hS1.2.2 hdg
    · obtain ⟨C, ht⟩ := hrw
      exact W.aret B.exec B.bytes (hr.trans ht) (Or.inl ⟨C, rfl⟩) (Or.inr ⟨_, rfl⟩) post hS1.2.2 hdg
    · obtain ⟨C, ht⟩ := hrw
      exact W.aret B.exec B.bytes (hr.trans ht) (Or.inl ⟨C, rfl⟩) (Or.inl rfl) post hS1.2.2 hdg
    · exact absurd hrw (fun q => q)
  have hS : va_S (xA base) s.heap s.heap [] := va_S.rf
  rw [lg_entry_eq]
  have go := hgo p l e s m _ below meth c D cI cJ cD b base n (I 0) _ X R rfl (Nat.zero_le _) rfl (by unfold xpad; simp; omega) s.heap [] _ hP hS (xentry hlen)
  rw [Nat.sub_self] at go
  exact go
