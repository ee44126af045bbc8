/-! the law: its start -/
theorem bdL_0 : decode mLaw_law.2.2.1 0 = .ok (.new 7, 3) := by decide +kernel
theorem bkL_3 : zBk mLaw_law 3 [(18, 0, 0, 0, 0)] = some 4 := by decide +kernel
theorem bdL_4 : decode mLaw_law.2.2.1 4 = .ok (.invokespecial 9, 3) := by decide +kernel
theorem bkL_7 : zBk mLaw_law 7 [(2, 1, 1, 0, 0)] = some 8 := by decide +kernel
theorem bdL_8 : decode mLaw_law.2.2.1 8 = .ok (.new 10, 3) := by decide +kernel
theorem bkL_11 : zBk mLaw_law 11 [(18, 0, 0, 0, 0)] = some 12 := by decide +kernel
theorem bdL_12 : decode mLaw_law.2.2.1 12 = .ok (.invokespecial 12, 3) := by decide +kernel
theorem bkL_15 : zBk mLaw_law 15 [(2, 2, 1, 0, 0), (0, 0, 0, 0, 0), (2, 3, 0, 0, 0)] = some 18 := by decide +kernel
/-- when all is made every reference stands -/
theorem zG_all {M : zMT} {N : Nat} {Q : Option Value → zHp → Prop} {pc : Nat} {lv : zLv} {st : List Value} {sg : zSig} {f : Nat → Nat → Bool} (hf : ∀ a j, a < 411 → zrv a j = true → f a j = true) (kk : zG M N Q pc lv st (zN sg)) : zG M N Q pc lv st (sg, 411, f) := by
  have e : ∀ k : zKT, zWs k (sg, 411, f) = zWs k (zN sg) := fun k => by
    unfold zWs
    apply List.map_congr_left
    intro a ha
    have := zE_all (k := k) (sg := sg) (n1 := 411) (n2 := 411) (f := f) (fun j hj => hf a j (List.mem_range.mp ha) hj)
    rw [this]
  intro k p l e' R s m args below meth c H ls locs cells slots Qf C P S L Z F
  exact kk k p l e' R s m args below meth c H ls locs cells slots Qf C ⟨by rw [← e]; exact P.1, P.2⟩ S L Z F
theorem law_0 {sg : zSig} (hz : ∀ c, c < 100000 → ∀ j, sg c j = 0) (hm : okM sg) (l0 : 0 ≤ sg 100001 (-1)) (l1 : sg 100001 (-1) ≤ 4608) : zG mLaw_law 411 lawQ 0 [(0, .ref 100001)] [] (sg, 0, fun _ _ => false) := by
  have f0 : zFA (sg, 0 + 1, fun _ _ => false) 0 := fun c _ h2 => ⟨hz c h2, fun _ => rfl⟩
  refine zs_new (x := 7) (c := 9) bdL_0 (by decide +kernel) (by show zSh 0 = _; decide +kernel) (by show 0 < 411; decide) (by decide) ⟨hz 0 (by decide), fun _ => rfl⟩ ?_
  refine zG_run bkL_3 (lv' := [(0, .ref 100001)]) (st' := [.ref 0, .ref 0]) (h' := (sg, 0 + 1, fun _ _ => false)) (Ps := []) rfl trivial ?_
  refine zG_calli (a := 0) (rest := [.ref 0]) (N2 := 393) bdL_4 okSR_init li13_9 ⟨rfl, rfl⟩ (And.intro (by decide) (by decide)) rfl (Nat.le_of_ble_eq_true rfl) (by decide) (by show 0 + 1 ≤ 393; decide) (by decide) (cSR_init rfl f0) ?_
  rintro rr g ⟨rfl, m1, m2, m3, m4, m5, m6⟩ -
  refine zG_run bkL_7 (lv' := [(1, .ref 0), (0, .ref 100001)]) (st' := []) (h' := g) (Ps := []) rfl trivial ?_
  obtain ⟨s1, n1, f1⟩ := g
  have m1 : n1 = 393 := m1
  subst m1
  have f1z : zFA (s1, 393 + 1, f1) 393 := fun c h1 h2 => m5 c h1 h2
  refine zs_new (x := 10) (c := 10) bdL_8 (by decide +kernel) (by show zSh 393 = _; decide +kernel) (by show 393 < 411; decide) (by decide) (m5 393 (Nat.le_refl _) (by decide)) ?_
  refine zG_run bkL_11 (lv' := [(1, .ref 0), (0, .ref 100001)]) (st' := [.ref 393, .ref 393]) (h' := (s1, 393 + 1, f1)) (Ps := []) rfl trivial ?_
  refine zG_calli (a := 393) (rest := [.ref 393]) (N2 := 411) bdL_12 okMo_init li13_12 ⟨rfl, rfl⟩ (And.intro (by decide) (by decide)) rfl (Nat.le_of_ble_eq_true rfl) (by decide) (by show 393 + 1 ≤ 411; decide) (by decide) (cMo_init rfl f1z) ?_
  rintro rr g ⟨rfl, k1, k2, k3, k4, k5, k6⟩ -
  refine zG_run bkL_15 (lv' := [(3, .int 0), (2, .ref 393), (1, .ref 0), (0, .ref 100001)]) (st' := []) (h' := g) (Ps := []) rfl trivial ?_
  refine zG_pick (lv' := [(0, .ref 100001), (1, .ref 0), (2, .ref 393), (3, .int 0)]) [3, 2, 1, 0] rfl ?_
  obtain ⟨s2, n2, f2⟩ := g
  have k1 : n2 = 411 := k1
  subst k1
  have k2 : ∀ c, c < 393 ∨ 100000 ≤ c → s2 c = s1 c := k2
  have m2 : ∀ c, c < 0 ∨ 100000 ≤ c → s1 c = sg c := m2
  have e0 : s2 100000 = sg 100000 := (k2 _ (Or.inr (by decide))).trans (m2 _ (Or.inr (by decide)))
  have e1 : s2 100001 = sg 100001 := (k2 _ (Or.inr (by decide))).trans (m2 _ (Or.inr (by decide)))
  refine zG_all (fun a j ha hj => ?_) (law_18 (R2_0 (fun c j hc => ?_) (okM_move hm (fun j => by rw [e0]))) (by rw [e1]; exact l0) (by rw [e1]; exact l1))
  · rcases Nat.lt_or_ge a 393 with q | q
    · have k3 : f2 a = f1 a := k3 a q
      rw [k3]; exact m6 a j (Nat.zero_le _) q hj
    · exact k6 a j q ha hj
  · rcases Nat.lt_or_ge c 393 with q | q
    · rw [k2 c (Or.inl q)]; exact m4 c j (Nat.zero_le _) q
    · exact k4 c j q hc
