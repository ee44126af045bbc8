/-! the law: its end, and its loop for the answer true -/
theorem bkL_1533 : zBk mLaw_law 1533 [(0, 0, 0, 0, 1)] = some 1534 := by decide +kernel
theorem bdL_1534 : decode mLaw_law.2.2.1 1534 = .ok (.ireturn, 1) := by decide +kernel
def lawQ (rr : Option Value) (_ : zHp) : Prop := rr = some (.int 1)
theorem law_done (sg : zSig) (i : Int32) : zG mLaw_law 411 lawQ 1533 [(0, .ref 100001), (1, .ref 0), (2, .ref 393), (3, .int i)] [] (zN sg) :=
  zb_zret bkL_1533 bdL_1534 rfl (lv' := [(0, .ref 100001), (1, .ref 0), (2, .ref 393), (3, .int i)]) (h' := zN sg) (x := 1) (Ps := []) rfl trivial rfl (Or.inr rfl) rfl
theorem law_18 {sg : zSig} (h : R2 sg sg) (l0 : 0 ≤ sg 100001 (-1)) (l1 : sg 100001 (-1) ≤ 4608) : zG mLaw_law 411 lawQ 18 [(0, .ref 100001), (1, .ref 0), (2, .ref 393), (3, .int 0)] [] (zN sg) :=
  law_loop law_done (0, sg) ⟨h, (by decide : (0 : Int32) ≤ 0), (by decide : (0 : Int32) ≤ 5000), l0, l1⟩
