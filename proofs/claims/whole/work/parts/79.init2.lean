/-! THE CONSTRUCTORS, 2 -/
theorem zrd (k : Nat) : nI (rdN (mkP 0 0 0 0 0) k) = nI 0 := by
  show nI (getN 0 _ 3) = nI 0
  rw [zgN]
def csX11_init : xCs := []
theorem okX11_init : xOkM mX11_init csX11_init := ⟨dX11_init, by decide +kernel, by decide +kernel, ⟨⟨wdX11_1, wdObj.1, wdObj.2⟩, wdAi, ⟨wdX11_7, fun _ => ⟨rfl, rfl⟩⟩, wdAi, ⟨wdX11_13, fun _ => ⟨rfl, rfl⟩⟩, wdAi, ⟨wdX11_16, fun _ => ⟨rfl, rfl⟩⟩, wdAi, ⟨wdX11_19, fun _ => ⟨rfl, rfl⟩⟩, wdAi, ⟨wdX11_22, fun _ => ⟨rfl, rfl⟩⟩, wdAi, ⟨wdX11_25, fun _ => ⟨rfl, rfl⟩⟩, wdAi, ⟨wdX11_28, fun _ => ⟨rfl, rfl⟩⟩, wdAi, ⟨wdX11_31, fun _ => ⟨rfl, rfl⟩⟩, wdAi, ⟨wdX11_34, fun _ => ⟨rfl, rfl⟩⟩, wdAi, ⟨wdX11_37, fun _ => ⟨rfl, rfl⟩⟩, wdAi, ⟨wdX11_40, fun _ => ⟨rfl, rfl⟩⟩, wdAi, ⟨wdX11_43, fun _ => ⟨rfl, rfl⟩⟩, wdAi, ⟨wdX11_46, fun _ => ⟨rfl, rfl⟩⟩, wdAi, ⟨wdX11_49, fun _ => ⟨rfl, rfl⟩⟩, wdAi, ⟨wdX11_52, fun _ => ⟨rfl, rfl⟩⟩, wdAi, ⟨wdX11_55, fun _ => ⟨rfl, rfl⟩⟩, wdAl, ⟨wdX11_58, fun _ => ⟨rfl, rfl⟩⟩, wdAi, ⟨wdX11_62, fun _ => ⟨rfl, rfl⟩⟩, wdAi, ⟨wdX11_65, fun _ => ⟨rfl, rfl⟩⟩, wdAi, ⟨wdX11_68, fun _ => ⟨rfl, rfl⟩⟩, wdAi, ⟨wdX11_71, fun _ => ⟨rfl, rfl⟩⟩, ⟨wdX11_74, fun h => Bool.noConfusion h⟩, wdX11_13, wdX11_19, wdX11_49, trivial⟩⟩
theorem hhX11_init : ∀ q ∈ csX11_init, xHd q.1 := xall0
theorem kkX11_init : ∀ q ∈ csX11_init, ∀ l, xCon l q.1 q.2 := xall0
def sX11_init : xSpec := fun as n I L P Q => as = [.ref 27] ∧ n = 27 ∧ P = xrw xP0 27 (fun _ => none) ∧ I 27 = (fun _ => 0) ∧ L 27 = (fun _ => 0) ∧ ∀ I' L', frM I L I' L' → Ref S0 I' L' → Q none 48 I' L' xP0
set_option maxHeartbeats 4000000 in
set_option maxRecDepth 100000 in
theorem kX11_init : ∀ l, xCon l mX11_init sX11_init := by
  refine xcon_of okX11_init hX11_init rfl (by decide) hhX11_init kkX11_init ?_
  rintro as n I L P Q ⟨rfl, rfl, rfl, hI, hL, hQ⟩
  refine ⟨Nat.le_of_ble_eq_true rfl, ?_⟩
  refine xrun okX11_init hhX11_init [] 300 ?_
  repeat (first | refine ⟨rfl, ?_⟩ | (first | (refine xbr_f ?_ ?_; (focus ((simp (disch := omega) only [ix_lt, ix_le, ix_eq, ix_0, nI_clamp, nI_toInt, ng_T, nI_add, nI_mul, nI_sub', Int.neg_zero, not_false_eq_true, not_true_eq_false, nI_add] <;> omega); done))) | (refine xbr_t ?_ ?_; (focus ((simp (disch := omega) only [ix_lt, ix_le, ix_eq, ix_0, nI_clamp, nI_toInt, ng_T, nI_add, nI_mul, nI_sub', Int.neg_zero, not_false_eq_true, not_true_eq_false, nI_add] <;> omega); done))) | refine ⟨Or.inl rfl, ?_⟩ | refine ⟨Or.inr rfl, ?_⟩ | (refine ⟨?_, ?_⟩; (focus ((try simp (disch := omega) only [nI_add, nI_mul, nI_add, nI_sub']); exact in_nI (by omega) (by omega))))))
  have fI : ∀ {J : xI} {M : xL} (k j : Nat) (x : Int32), 27 ≤ k → frM I L J M → frM I L (xup J k j x) M := fun k j x h f => frM_t f (frM_I h _ _ _ _)
  have fW : ∀ {J : xI} {M : xL} (k : Nat) (g : Nat → Int32), 27 ≤ k → frM I L J M → frM I L (xrw J k g) M := fun k g h f => frM_t f (frM_W h _ _ _)
  have fL : ∀ {J : xI} {M : xL} (k j : Nat) (x : Int64), 27 ≤ k → frM I L J M → frM I L J (xup M k j x) := fun k j x h f => frM_t f (frM_L h _ _ _ _)
  have fM : ∀ {J : xI} {M : xL} (k : Nat) (g : Nat → Int64), 27 ≤ k → frM I L J M → frM I L J (xrw M k g) := fun k g h f => frM_t f (frM_M h _ _ _)
  refine xqP_eq (hQ _ _ ?_ ?_) opsM_ok
  · repeat (first | refine fI _ _ _ (by decide) ?_ | refine fW _ _ (by decide) ?_ | refine fL _ _ _ (by decide) ?_ | refine fM _ _ (by decide) ?_)
    exact frM_0 _ _
  · refine ⟨S0_ok, ⟨(congrFun hI 10).trans z0, (congrFun hI 11).trans z0, fun k _ => z0.trans (zrd k).symm, fun i hi => absurd hi (Nat.not_lt_zero _), fun l hl => absurd hl (Nat.not_lt_zero _), PD0_ok⟩, ⟨⟨z0, fun i hi => absurd hi (Nat.not_lt_zero _), fun l hl => absurd hl (Nat.not_lt_zero _)⟩, (congrFun hI 22).trans z0, fun n hn => absurd hn (Nat.not_lt_zero _)⟩, ?_, ?_, ?_, fun _ _ => rfl, congrFun hI 3, congrFun hI 0, (congrFun hL 1).trans zL, rfl⟩
    · exact fun k hk => ⟨three_1 (f := _) rfl rfl rfl k hk, fun q => absurd q (Nat.lt_irrefl 0)⟩
    · exact fun r hr => ⟨six_1 (f := _) rfl rfl rfl rfl rfl rfl r hr, fun k hk => absurd hk (Nat.not_lt_zero _)⟩
    · exact fun r hr => ⟨four_1 (f := _) rfl rfl rfl rfl r hr, fun k hk => absurd hk (Nat.not_lt_zero _)⟩
