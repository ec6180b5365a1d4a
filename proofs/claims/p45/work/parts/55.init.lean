/-! THE CONSTRUCTORS -/
def csX0_init : xCs := []
theorem okX0_init : xOkM mX0_init csX0_init := ⟨dX0_init, by decide +kernel, by decide +kernel, ⟨⟨wdX0_3, wdObj.1, wdObj.2⟩, ⟨wdX0_9, fun h => Bool.noConfusion h⟩, ⟨wdX0_15, fun h => Bool.noConfusion h⟩, trivial⟩⟩
theorem hhX0_init : ∀ q ∈ csX0_init, xHd q.1 := xall0
theorem kkX0_init : ∀ q ∈ csX0_init, ∀ l, xCon l q.1 q.2 := xall0
def sX0_init : xSpec := xTr mX0_init csX0_init 20
theorem kX0_init : ∀ l, xCon l mX0_init sX0_init := xTr_con okX0_init hX0_init rfl rfl hhX0_init kkX0_init
def csX1_init : xCs := []
theorem okX1_init : xOkM mX1_init csX1_init := ⟨dX1_init, by decide +kernel, by decide +kernel, ⟨⟨wdX1_3, wdObj.1, wdObj.2⟩, wdAl, ⟨wdX1_9, fun _ => ⟨rfl, rfl⟩⟩, ⟨wdX1_15, fun h => Bool.noConfusion h⟩, trivial⟩⟩
theorem hhX1_init : ∀ q ∈ csX1_init, xHd q.1 := xall0
theorem kkX1_init : ∀ q ∈ csX1_init, ∀ l, xCon l q.1 q.2 := xall0
def sX1_init : xSpec := xTr mX1_init csX1_init 20
theorem kX1_init : ∀ l, xCon l mX1_init sX1_init := xTr_con okX1_init hX1_init rfl rfl hhX1_init kkX1_init
def csX2_init : xCs := []
theorem okX2_init : xOkM mX2_init csX2_init := ⟨dX2_init, by decide +kernel, by decide +kernel, ⟨⟨wdX2_3, wdObj.1, wdObj.2⟩, wdAl, ⟨wdX2_9, fun _ => ⟨rfl, rfl⟩⟩, trivial⟩⟩
theorem hhX2_init : ∀ q ∈ csX2_init, xHd q.1 := xall0
theorem kkX2_init : ∀ q ∈ csX2_init, ∀ l, xCon l q.1 q.2 := xall0
def sX2_init : xSpec := xTr mX2_init csX2_init 20
theorem kX2_init : ∀ l, xCon l mX2_init sX2_init := xTr_con okX2_init hX2_init rfl rfl hhX2_init kkX2_init
def csX5_init : xCs := []
theorem okX5_init : xOkM mX5_init csX5_init := ⟨dX5_init, by decide +kernel, by decide +kernel, ⟨⟨wdX5_3, wdObj.1, wdObj.2⟩, trivial⟩⟩
theorem hhX5_init : ∀ q ∈ csX5_init, xHd q.1 := xall0
theorem kkX5_init : ∀ q ∈ csX5_init, ∀ l, xCon l q.1 q.2 := xall0
def sX5_init : xSpec := xTr mX5_init csX5_init 20
theorem kX5_init : ∀ l, xCon l mX5_init sX5_init := xTr_con okX5_init hX5_init rfl rfl hhX5_init kkX5_init
def csX9_init : xCs := []
theorem okX9_init : xOkM mX9_init csX9_init := ⟨dX9_init, by decide +kernel, by decide +kernel, ⟨⟨wdX9_3, wdObj.1, wdObj.2⟩, wdAi, ⟨wdX9_11, fun _ => ⟨rfl, rfl⟩⟩, trivial⟩⟩
theorem hhX9_init : ∀ q ∈ csX9_init, xHd q.1 := xall0
theorem kkX9_init : ∀ q ∈ csX9_init, ∀ l, xCon l q.1 q.2 := xall0
def sX9_init : xSpec := xTr mX9_init csX9_init 20
theorem kX9_init : ∀ l, xCon l mX9_init sX9_init := xTr_con okX9_init hX9_init rfl rfl hhX9_init kkX9_init
def csX6_init : xCs := [(mX5_init, sX5_init)]
theorem okX6_init : xOkM mX6_init csX6_init := ⟨dX6_init, by decide +kernel, by decide +kernel, ⟨⟨wdX6_3, wdObj.1, wdObj.2⟩, wdAi, ⟨wdX6_9, fun _ => ⟨rfl, rfl⟩⟩, ⟨wdX6_15, wdN3.1, wdN3.2, by decide⟩, wdX6_17, ⟨wdX6_18, fun _ => ⟨rfl, rfl⟩⟩, trivial⟩⟩
theorem hhX6_init : ∀ q ∈ csX6_init, xHd q.1 := xall1 hX5_init (xall0)
theorem kkX6_init : ∀ q ∈ csX6_init, ∀ l, xCon l q.1 q.2 := xall1 kX5_init (xall0)
def sX6_init : xSpec := xTr mX6_init csX6_init 40
theorem kX6_init : ∀ l, xCon l mX6_init sX6_init := xTr_con okX6_init hX6_init rfl rfl hhX6_init kkX6_init
def csX8_init : xCs := []
theorem okX8_init : xOkM mX8_init csX8_init := ⟨dX8_init, by decide +kernel, by decide +kernel, ⟨⟨wdX8_3, wdObj.1, wdObj.2⟩, ⟨wdX8_9, wdMax.1, wdMax.2.1, wdMax.2.2⟩, ⟨wdX8_15, fun _ => ⟨rfl, rfl⟩⟩, ⟨wdX8_9, wdMax.1, wdMax.2.1, wdMax.2.2⟩, wdAi, ⟨wdX8_21, fun _ => ⟨rfl, rfl⟩⟩, wdX8_21, wdX8_15, ⟨wdX8_9, wdMax.1, wdMax.2.1, wdMax.2.2⟩, wdAi, ⟨wdX8_25, fun _ => ⟨rfl, rfl⟩⟩, wdX8_21, wdX8_21, trivial⟩⟩
theorem hhX8_init : ∀ q ∈ csX8_init, xHd q.1 := xall0
theorem kkX8_init : ∀ q ∈ csX8_init, ∀ l, xCon l q.1 q.2 := xall0
def sX8_init : xSpec := xTr mX8_init csX8_init 200
theorem kX8_init : ∀ l, xCon l mX8_init sX8_init := xTr_con okX8_init hX8_init rfl rfl hhX8_init kkX8_init
def xPL (l : List (List (Option Nat))) : xR := fun k j => (l.getD k []).getD j none
/-- a cell made anew (none), a reference put (some) -/
abbrev xOp : Type := Nat × Option (Nat × Nat)
def xop1 (P : xR) (o : xOp) : xR := match o.2 with
  | none => xrw P o.1 fun _ => none
  | some (j, v) => xup P o.1 j (some v)
def xopP : List xOp → xR → xR
  | [], P => P
  | o :: r, P => xopP r (xop1 P o)
def xlst (r : List (Option Nat)) (j v : Nat) : List (Option Nat) := (r ++ List.replicate (j + 1 - r.length) none).set j (some v)
def xol1 (l : List (List (Option Nat))) (o : xOp) : List (List (Option Nat)) := match o.2 with
  | none => l.set o.1 []
  | some (j, v) => l.set o.1 (xlst (l.getD o.1 []) j v)
def xopL : List xOp → List (List (Option Nat)) → List (List (Option Nat))
  | [], l => l
  | o :: r, l => xopL r (xol1 l o)
theorem xget_set {l : List (List (Option Nat))} {k : Nat} (hk : k < l.length) (r : List (Option Nat)) (k' : Nat) : (l.set k r).getD k' [] = if k' = k then r else l.getD k' [] := by
  rw [List.getD_eq_getElem?_getD, List.getD_eq_getElem?_getD, List.getElem?_set]
  by_cases e : k = k'
  · subst e
    simp [hk]
  · rw [if_neg e, if_neg (fun q => e q.symm)]
theorem xlst_get (r : List (Option Nat)) (j v j' : Nat) : (xlst r j v).getD j' none = if j' = j then some v else r.getD j' none := by
  unfold xlst
  rw [List.getD_eq_getElem?_getD, List.getD_eq_getElem?_getD, List.getElem?_set]
  by_cases e : j = j'
  · subst e
    rw [if_pos rfl, if_pos rfl, if_pos (by rw [List.length_append, List.length_replicate]; omega)]
    rfl
  · rw [if_neg e, if_neg (fun q => e q.symm), List.getElem?_append]
    by_cases h : j' < r.length
    · rw [if_pos h]
    · rw [if_neg h, List.getElem?_eq_none (show r.length ≤ j' by omega), List.getElem?_replicate]
      split <;> rfl
theorem xop1_PL {l : List (List (Option Nat))} (o : xOp) (h : o.1 < l.length) : xop1 (xPL l) o = xPL (xol1 l o) ∧ (xol1 l o).length = l.length := by
  obtain ⟨k, q⟩ := o
  cases q with
  | none =>
    refine ⟨?_, List.length_set⟩
    funext k' j'
    show (if k' = k then (fun _ => none) else xPL l k') j' = ((l.set k []).getD k' []).getD j' none
    rw [xget_set h]
    by_cases e : k' = k
    · rw [if_pos e, if_pos e]
      rfl
    · rw [if_neg e, if_neg e]
      rfl
  | some q =>
    obtain ⟨j, v⟩ := q
    refine ⟨?_, List.length_set⟩
    funext k' j'
    show xup (xPL l) k j (some v) k' j' = ((l.set k (xlst (l.getD k []) j v)).getD k' []).getD j' none
    rw [xget_set h, xup_at]
    by_cases e : k' = k
    · rw [if_pos e, xlst_get]
      by_cases e2 : j' = j
      · rw [if_pos ⟨e, e2⟩, if_pos e2]
      · rw [if_neg (fun q => e2 q.2), if_neg e2, e]
        rfl
    · rw [if_neg (fun q => e q.1), if_neg e]
      rfl
theorem xop_PL : ∀ (ops : List xOp) (l : List (List (Option Nat))), (∀ o ∈ ops, o.1 < l.length) → xopP ops (xPL l) = xPL (xopL ops l)
  | [], l, _ => rfl
  | o :: r, l, h => by
    obtain ⟨e1, e2⟩ := xop1_PL o (h o List.mem_cons_self)
    show xopP r (xop1 (xPL l) o) = xPL (xopL r (xol1 l o))
    rw [e1]
    exact xop_PL r _ (fun o' ho => by rw [e2]; exact h o' (List.mem_cons_of_mem _ ho))
def opsC : List xOp := [(1, none), (2, none), (2, some (1, 3)), (2, some (2, 4)), (1, some (0, 2)), (5, none), (5, some (1, 6)), (5, some (2, 7)), (1, some (1, 5)), (8, none), (8, some (0, 9)), (10, none), (8, some (1, 10)), (1, some (2, 8)), (11, none), (1, some (3, 11)), (12, none), (12, some (0, 13)), (1, some (4, 12)), (14, none), (1, some (5, 14)), (15, none), (15, some (0, 16)), (1, some (6, 15)), (17, none), (17, some (0, 18)), (1, some (7, 17)), (19, none), (1, some (8, 19)), (1, some (9, 20)), (21, none), (21, some (0, 22)), (14, some (0, 21)), (23, none), (23, some (0, 24)), (14, some (1, 23)), (25, none), (25, some (0, 26)), (14, some (2, 25))]
theorem opsC_ok : xopP opsC xP0 = xP0 := (xop_PL opsC xP0L (by decide)).trans (congrArg xPL (by decide))
def S0 : ST := mkS (mkP 0 0 0 0 0) (mkD 0 0 1 (fun _ => 0)) (fun _ => mkD 0 0 0 (fun _ => 0)) (fun _ => 0) (fun _ => 0) (fun _ => 0) (fun _ => 0) (fun _ => 0) 0 0 (lN 0) (lN 1)
theorem zgN (f k : Nat) : getN 0 f k = 0 := by
  unfold getN
  rw [Nat.zero_div, Nat.zero_mod]
theorem PD0_ok : (mkP 0 0 0 0 0).ok := by
  refine ⟨by decide, by decide, by decide, by decide, by decide, fun i => ?_, fun i => ?_, fun i => ?_⟩
  · show getN 0 (3 * i) 3 < 6
    rw [zgN]
    decide
  · show getN 0 (3 * i) 3 < 5
    rw [zgN]
    decide
  · show getN 0 (3 * i) 3 < 5
    rw [zgN]
    decide
theorem S0_ok : SOk S0 := by
  refine ⟨PD0_ok, ⟨by decide, fun _ => ⟨XOk_0, by decide, fun n hn => absurd hn (Nat.not_lt_zero _)⟩⟩, by decide, fun k _ => ⟨by show 0 ≤ 41; decide, fun q => absurd q (Nat.lt_irrefl 0)⟩, fun r _ => by show 0 ≤ 41; decide, fun t _ => by show 0 ≤ 61; decide, fun k => by show -128 ≤ (0 : Int32).toInt ∧ (0 : Int32).toInt < 128; decide, Iff.rfl⟩
theorem xqP_eq {Q : xQ} {r : Option Value} {n : Nat} {I : xI} {L : xL} {P P' : xR} (h : Q r n I L P) (e : P' = P) : Q r n I L P' := by
  rw [e]
  exact h
theorem lcmp_0 (x : Int64) : lg_cmp x x = 0 := by rw [lg_cmp_eq]
theorem z0 : (0 : Int32) = nI 0 := by decide
theorem zL : (0 : Int64) = lN 0 := by decide
theorem mx40 : (if nI 0 < nI 40 then nI 40 else nI 0) = nI 40 := by decide
theorem mx60 : (if nI 0 < nI 60 then nI 60 else nI 0) = nI 60 := by decide
theorem six_1 {f : Nat → Int32} (h0 : f 0 = -(nI 1)) (h1 : f 1 = -(nI 1)) (h2 : f 2 = -(nI 1)) (h3 : f 3 = -(nI 1)) (h4 : f 4 = -(nI 1)) (h5 : f 5 = -(nI 1)) : ∀ r, r < 6 → f r = szI 0 := by
  intro r hr
  rcases (show r = 0 ∨ r = 1 ∨ r = 2 ∨ r = 3 ∨ r = 4 ∨ r = 5 by omega) with rfl | rfl | rfl | rfl | rfl | rfl <;> assumption
theorem four_1 {f : Nat → Int32} (h0 : f 0 = -(nI 1)) (h1 : f 1 = -(nI 1)) (h2 : f 2 = -(nI 1)) (h3 : f 3 = -(nI 1)) : ∀ r, r < 4 → f r = szI 0 := by
  intro r hr
  rcases (show r = 0 ∨ r = 1 ∨ r = 2 ∨ r = 3 by omega) with rfl | rfl | rfl | rfl <;> assumption
theorem three_1 {f : Nat → Int32} (h0 : f 0 = -(nI 1)) (h1 : f 1 = -(nI 1)) (h2 : f 2 = -(nI 1)) : ∀ r, r < 3 → f r = szI 0 := by
  intro r hr
  rcases (show r = 0 ∨ r = 1 ∨ r = 2 by omega) with rfl | rfl | rfl <;> assumption
def csX10_init : xCs := [(mX8_init, sX8_init), (mX6_init, sX6_init), (mX5_init, sX5_init), (mX1_init, sX1_init), (mX2_init, sX2_init), (mX9_init, sX9_init), (mX0_init, sX0_init), (mX1_begin, sX1_begin)]
theorem okX10_init : xOkM mX10_init csX10_init := ⟨dX10_init, by decide +kernel, by decide +kernel, ⟨⟨wdX10_1, wdObj.1, wdObj.2⟩, ⟨wdX10_7, wdN5.1, wdN5.2, by decide⟩, wdX10_11, ⟨wdX10_14, fun _ => ⟨rfl, rfl⟩⟩, ⟨wdX10_7, wdN5.1, wdN5.2, by decide⟩, wdX10_11, ⟨wdX10_18, fun _ => ⟨rfl, rfl⟩⟩, ⟨wdX10_21, wdN4.1, wdN4.2, by decide⟩, wdX10_23, ⟨wdX10_24, fun _ => ⟨rfl, rfl⟩⟩, ⟨wdX10_28, wdN3.1, wdN3.2, by decide⟩, wdX10_30, ⟨wdX10_31, fun _ => ⟨rfl, rfl⟩⟩, ⟨wdX10_35, wdN1.1, wdN1.2, by decide⟩, wdX10_37, ⟨wdX10_38, fun _ => ⟨rfl, rfl⟩⟩, wdX10_35, ⟨wdX10_42, fun _ => ⟨rfl, rfl⟩⟩, ⟨wdX10_46, wdN2.1, wdN2.2, by decide⟩, wdX10_48, ⟨wdX10_49, fun _ => ⟨rfl, rfl⟩⟩, ⟨wdX10_53, wdN6.1, wdN6.2, by decide⟩, wdX10_55, ⟨wdX10_56, fun _ => ⟨rfl, rfl⟩⟩, ⟨wdX10_60, wdN0.1, wdN0.2, by decide⟩, wdX10_62, ⟨wdX10_63, fun _ => ⟨rfl, rfl⟩⟩, wdAi, ⟨wdX10_67, fun _ => ⟨rfl, rfl⟩⟩, wdX10_38, wdX10_71, wdX10_42, wdX10_42, ⟨wdX10_35, wdN1.1, wdN1.2, by decide⟩, wdX10_37, trivial⟩⟩
theorem hhX10_init : ∀ q ∈ csX10_init, xHd q.1 := xall1 hX8_init (xall1 hX6_init (xall1 hX5_init (xall1 hX1_init (xall1 hX2_init (xall1 hX9_init (xall1 hX0_init (xall1 hX1_begin (xall0))))))))
theorem kkX10_init : ∀ q ∈ csX10_init, ∀ l, xCon l q.1 q.2 := xall1 kX8_init (xall1 kX6_init (xall1 kX5_init (xall1 kX1_init (xall1 kX2_init (xall1 kX9_init (xall1 kX0_init (xall1 kX1_begin (xall0))))))))
def sX10_init : xSpec := fun as n I L P Q => as = [.ref 1] ∧ n = 1 ∧ P = xrw xP0 1 (fun _ => none) ∧ I 1 = (fun _ => 0) ∧ ∀ I' L', I' 0 = I 0 → Cls S0 I' L' → Q none 26 I' L' xP0
set_option maxHeartbeats 4000000 in
set_option maxRecDepth 100000 in
theorem kX10_init : ∀ l, xCon l mX10_init sX10_init := by
  refine xcon_of okX10_init hX10_init rfl hhX10_init kkX10_init ?_
  rintro as n I L P Q ⟨rfl, rfl, rfl, hI, hQ⟩
  refine ⟨Nat.le_of_ble_eq_true rfl, ?_⟩
  refine xrun okX10_init hhX10_init [] 200 ?_
  repeat (first | refine ⟨rfl, ?_⟩ | (first | (refine xbr_f ?_ ?_; (focus ((simp (disch := omega) only [ix_lt, ix_le, ix_eq, ix_0, nI_clamp, nI_toInt, ng_T, nI_add, nI_mul, nI_sub', Int.neg_zero, not_false_eq_true, not_true_eq_false, nI_add] <;> omega); done))) | (refine xbr_t ?_ ?_; (focus ((simp (disch := omega) only [ix_lt, ix_le, ix_eq, ix_0, nI_clamp, nI_toInt, ng_T, nI_add, nI_mul, nI_sub', Int.neg_zero, not_false_eq_true, not_true_eq_false, nI_add] <;> omega); done))) | refine ⟨Or.inl rfl, ?_⟩ | refine ⟨Or.inr rfl, ?_⟩ | (refine ⟨?_, ?_⟩; (focus ((try simp (disch := omega) only [nI_add, nI_mul, nI_add, nI_sub']); exact in_nI (by omega) (by omega))))) | refine ⟨(by show vp_in _ 3; (try simp only [nI_add]); exact in_nI (by omega) (by omega)), ?_⟩)
  refine xqP_eq (hQ _ _ rfl ?_) opsC_ok
  refine ⟨S0_ok, ⟨z0, z0, z0, z0, z0, PD0_ok⟩, ⟨rfl, fun _ => ⟨rfl, rfl, fun n hn => absurd hn (Nat.not_lt_zero _)⟩⟩, ⟨⟨rfl, fun q => absurd q (Nat.lt_irrefl 0)⟩, ⟨rfl, fun q => absurd q (Nat.lt_irrefl 0)⟩, ⟨rfl, fun q => absurd q (Nat.lt_irrefl 0)⟩⟩, ⟨mx40, ?_, rfl⟩, ⟨mx60, ?_, rfl⟩, rfl, congrFun hI 10, congrFun hI 11, rfl, rfl⟩
  · exact six_1 rfl rfl rfl rfl rfl rfl
  · exact four_1 rfl rfl rfl rfl
