/-! the reference: its plainer acts and questions: printed by wip/whole/p34.py -/
def mNs (sg : zSig) (k a : Int32) : Int32 := a + sg 395 (803 + 9 * k)
theorem bkMo_spans_0 : zBk mMo_spans 0 [(0, 0, 0, 0, 0), (2, 1, 0, 0, 0), (0, 0, 0, 0, 0), (2, 2, 0, 0, 0)] = some 4 := by decide +kernel
theorem bkMo_spans_4 : zBk mMo_spans 4 [(1, 2, 0, 0, 0), (1, 0, 1, 0, 0), (5, 10, 3, 2, 3), (0, 0, 0, 0, 1), (7, 0, 0, 0, 0)] = some 11 := by decide +kernel
theorem bkMo_spans_32 : zBk mMo_spans 32 [(1, 1, 0, 0, 0)] = some 33 := by decide +kernel
theorem bkMo_spans_14 : zBk mMo_spans 14 [(1, 1, 0, 0, 0), (1, 0, 1, 0, 0), (5, 10, 3, 2, 3), (1, 2, 0, 0, 0)] = some 20 := by decide +kernel
theorem bkMo_spans_23 : zBk mMo_spans 23 [(7, 0, 0, 0, 0), (4, 0, 0, 0, 0), (2, 1, 0, 0, 0), (3, 2, 0, 0, 1), (22, 4, 0, 0, 0)] = some 4 := by decide +kernel
theorem bdMo_spans_11 : decode mMo_spans.2.2.1 11 = .ok (.if_icmp .ge 21, 3) := by decide +kernel
theorem bdMo_spans_20 : decode mMo_spans.2.2.1 20 = .ok (.invokestatic 91, 3) := by decide +kernel
theorem bdMo_spans_33 : decode mMo_spans.2.2.1 33 = .ok (.ireturn, 1) := by decide +kernel
theorem lMo_spans {sg : zSig}  (g0 : 0 ≤ sg 395 1) (g1 : sg 395 1 ≤ 16) {Q : Option Value → zHp → Prop} (hq : ∀ rr h', (rr = some (.int (zit (mNs sg) 0 (sg 395 1))) ∧ h' = zN sg) → Q rr h') : zG mMo_spans 411 Q 0 [(0, .ref 393)] [] (zN sg) := by
  refine zG_run bkMo_spans_0 (lv' := [(2, .int 0), (1, .int 0), (0, .ref 393)]) (st' := []) (h' := zN sg) (Ps := []) rfl trivial ?_
  refine zG_pick (lv' := [(0, .ref 393), (1, .int 0), (2, .int 0)]) [2, 1, 0] rfl ?_
  refine zlp2 (fun (a : Int32) (k : Int32) => zG mMo_spans 411 Q 4 [(0, .ref 393), (1, .int a), (2, .int k)] [] (zN sg)) (fun (a : Int32) (k : Int32) => (0 ≤ k) ∧ (k ≤ sg 395 1) ∧ (a = zit (mNs sg) 0 k)) (fun (a : Int32) (k : Int32) => zmu (sg 395 1) k) ?_ 0 0 ?_
  · intro a k hI ih
    obtain ⟨k0, k1, kz⟩ := hI
    refine zb_icge (tgt := 32) bkMo_spans_4 bdMo_spans_11 (by decide) (lv' := [(0, .ref 393), (1, .int a), (2, .int k)]) (st' := []) (h' := zN sg) (x := k) (y := sg 395 1) (Ps := [zOb (zN sg) 393 10 ∧ (zN sg).2.2 393 3 = true, zInL (zN sg) 395 1]) rfl (zA ⟨zob_393, rfl⟩ (zA (zinL_395 (i := 1) (by decide) (by decide)) trivial)) (fun c1 => ?_) (fun c1 => ?_)
    · skip
      refine zb_iret bkMo_spans_32 bdMo_spans_33 rfl (x := a) (h' := zN sg) (Ps := []) rfl trivial rfl ?_
      refine hq _ _ ?_
      refine ⟨?_, rfl⟩
      rw [kz, show k = sg 395 1 by lia]
    · skip
      refine zG_run bkMo_spans_14 (lv' := [(0, .ref 393), (1, .int a), (2, .int k)]) (st' := [.int k, .ref 395, .int a]) (h' := zN sg) (Ps := [zOb (zN sg) 393 10 ∧ (zN sg).2.2 393 3 = true]) rfl (zA ⟨zob_393, rfl⟩ trivial) ?_
      refine zG_calls (As := [.int k]) (rest := [.ref 395, .int a]) (N2 := 411) bdMo_spans_20 okMo_spanAt lk10_91 (And.intro (by decide) (by decide)) rfl rfl (Nat.le_of_ble_eq_true rfl) (Nat.le_of_ble_eq_true rfl) (Nat.le_refl 411) (Nat.le_refl 411) cMo_spanAt ?_
      rintro rr h' ⟨rfl, rfl⟩ -
      refine zG_run bkMo_spans_23 (lv' := [(2, .int (k + 1)), (1, .int (a + (sg 395 (803 + 9 * k)))), (0, .ref 393)]) (st' := []) (h' := zN sg) (Ps := [zInL (zN sg) 395 (803 + 9 * k)]) rfl (zA (zinL_395 (i := 803 + 9 * k) (by lia) (by lia)) trivial) ?_
      refine zG_pick (lv' := [(0, .ref 393), (1, .int (a + (sg 395 (803 + 9 * k)))), (2, .int (k + 1))]) [2, 1, 0] rfl ?_
      refine ih (a + (sg 395 (803 + 9 * k))) (k + 1) ?_ ?_
      · refine ⟨?_, ?_, ?_⟩
        · lia
        · lia
        · rw [zit_s _ _ k0 (by lia : k < sg 395 1), ← kz]; rfl
      · exact zmu_up (by lia)
  · refine ⟨?_, ?_, ?_⟩
    · lia
    · lia
    · rfl
theorem cMo_spans {sg : zSig}  (g0 : 0 ≤ sg 395 1) (g1 : sg 395 1 ≤ 16) : zG mMo_spans 411 (fun rr h' => rr = some (.int (zit (mNs sg) 0 (sg 395 1))) ∧ h' = zN sg) 0 [(0, .ref 393)] [] (zN sg) := lMo_spans g0 g1 (fun _ _ q => q)
theorem bkMo_lift_5 : zBk mMo_lift 5 [(1, 0, 1, 0, 0), (1, 1, 0, 0, 0)] = some 7 := by decide +kernel
theorem bkMo_lift_10 : zBk mMo_lift 10 [] = some 10 := by decide +kernel
theorem bkMo_lift_20 : zBk mMo_lift 20 [(1, 0, 1, 0, 0), (0, 0, 0, 0, 4)] = some 22 := by decide +kernel
theorem bkMo_lift_25 : zBk mMo_lift 25 [(1, 0, 1, 0, 0), (5, 10, 3, 2, 3), (1, 1, 0, 0, 0)] = some 30 := by decide +kernel
theorem bkMo_lift_33 : zBk mMo_lift 33 [(0, 0, 0, 0, 0), (8, 0, 0, 0, 0), (1, 0, 1, 0, 0), (1, 0, 1, 0, 0)] = some 37 := by decide +kernel
theorem bkMo_lift_40 : zBk mMo_lift 40 [] = some 40 := by decide +kernel
theorem bkMo_lift_43 : zBk mMo_lift 43 [] = some 43 := by decide +kernel
theorem bkMo_lift_13 : zBk mMo_lift 13 [(1, 0, 1, 0, 0), (0, 0, 0, 0, -2)] = some 16 := by decide +kernel
theorem bkMo_lift_19 : zBk mMo_lift 19 [] = some 19 := by decide +kernel
theorem bkMo_lift_0 : zBk mMo_lift 0 [(1, 0, 1, 0, 0), (0, 0, 0, 0, 0), (6, 10, 0, 0, 0)] = some 5 := by decide +kernel
theorem bdMo_lift_7 : decode mMo_lift.2.2.1 7 = .ok (.invokevirtual 151, 3) := by decide +kernel
theorem bdMo_lift_10 : decode mMo_lift.2.2.1 10 = .ok (.ifCond .ne 10, 3) := by decide +kernel
theorem bdMo_lift_16 : decode mMo_lift.2.2.1 16 = .ok (.invokevirtual 80, 3) := by decide +kernel
theorem bdMo_lift_19 : decode mMo_lift.2.2.1 19 = .ok (.ireturn, 1) := by decide +kernel
theorem bdMo_lift_22 : decode mMo_lift.2.2.1 22 = .ok (.invokevirtual 127, 3) := by decide +kernel
theorem bdMo_lift_30 : decode mMo_lift.2.2.1 30 = .ok (.invokestatic 91, 3) := by decide +kernel
theorem bdMo_lift_37 : decode mMo_lift.2.2.1 37 = .ok (.invokevirtual 173, 3) := by decide +kernel
theorem bdMo_lift_40 : decode mMo_lift.2.2.1 40 = .ok (.invokevirtual 84, 3) := by decide +kernel
theorem bdMo_lift_43 : decode mMo_lift.2.2.1 43 = .ok (.ireturn, 1) := by decide +kernel
theorem bMo_lift {sg : zSig} {n : Int32} (n0 : 0 ≤ sg 395 0) (n2 : sg 395 0 ≤ 200) (g0 : 0 ≤ sg 395 1) (g1 : sg 395 1 ≤ 16) (a0 : 0 ≤ sg 395 2) (a1 : sg 395 2 ≤ 12) (b0 : 0 ≤ sg 393 6) (b1 : sg 393 6 ≤ 8) : zG mMo_lift 411 (fun rr h' => (rr = some (.int (-2)) ∧ h' = zN (hRef sg (-2)) ∧ (¬ ((0 ≤ n ∧ n < sg 395 1) ∧ sg 395 (803 + 9 * n) = 1))) ∨ (((0 ≤ n ∧ n < sg 395 1) ∧ sg 395 (803 + 9 * n) = 1) ∧ ∃ sg1, mRem sg sg1 4 ∧ rr = some (.int (zit (mNs (zup sg1 395 (803 + 9 * n) 0)) 0 (sg 395 1))) ∧ h' = zN (hTell (zup sg1 395 (803 + 9 * n) 0)))) 5 [(0, .ref 393), (1, .int n)] [] (zN sg) := by
  refine zG_run bkMo_lift_5 (lv' := [(0, .ref 393), (1, .int n)]) (st' := [.int n, .ref 393]) (h' := zN sg) (Ps := []) rfl trivial ?_
  refine zG_callv (a := 393) (c := 10) (As := [.int n]) (rest := []) (N2 := 411) bdMo_lift_7 okMo_isSpan lk10_151 (And.intro (by decide) (by decide)) (by decide) rfl rfl rfl (Nat.le_of_ble_eq_true rfl) (Nat.le_of_ble_eq_true rfl) (Nat.le_refl 411) (Nat.le_refl 411) zob_393 (cMo_isSpan (by lia)) ?_
  rintro rr h' ⟨rfl, rfl⟩ -
  refine zb_ifne (tgt := 20) bkMo_lift_10 bdMo_lift_10 (by decide) (lv' := [(0, .ref 393), (1, .int n)]) (st' := []) (h' := zN sg) (x := if (0 ≤ n ∧ n < sg 395 1) ∧ sg 395 (803 + 9 * n) = 1 then 1 else 0) (Ps := []) rfl trivial (fun c1 => ?_) (fun c1 => ?_)
  · skip
    have hc : (0 ≤ n ∧ n < sg 395 1) ∧ sg 395 (803 + 9 * n) = 1 := by grind
    refine zG_run bkMo_lift_20 (lv' := [(0, .ref 393), (1, .int n)]) (st' := [.int 4, .ref 393]) (h' := zN sg) (Ps := []) rfl trivial ?_
    refine zG_callv (a := 393) (c := 10) (As := [.int 4]) (rest := []) (N2 := 411) bdMo_lift_22 okMo_remember lk10_127 (And.intro (by decide) (by decide)) (by decide) rfl rfl rfl (Nat.le_of_ble_eq_true rfl) (Nat.le_of_ble_eq_true rfl) (Nat.le_refl 411) (Nat.le_refl 411) zob_393 (cMo_remember (s := 4) b0 b1) ?_
    rintro rr h' ⟨sg1, rfl, rfl, hb⟩ -
    have fb := hb.1
    have ub := mRem_u b0 b1 hb
    have x0 : sg1 395 0 = sg 395 0 := fb 395 0 (by decide) (by decide) (by decide) (by decide)
    have x1 : sg1 395 1 = sg 395 1 := fb 395 1 (by decide) (by decide) (by decide) (by decide)
    have x2 : sg1 395 2 = sg 395 2 := fb 395 2 (by decide) (by decide) (by decide) (by decide)
    have xt : sg1 393 11 = sg 393 11 := fb 393 11 (by decide) (by decide) (by decide) (by decide)
    refine zG_run bkMo_lift_25 (lv' := [(0, .ref 393), (1, .int n)]) (st' := [.int n, .ref 395]) (h' := zN sg1) (Ps := [zOb (zN sg1) 393 10 ∧ (zN sg1).2.2 393 3 = true]) rfl (zA ⟨zob_393, rfl⟩ trivial) ?_
    refine zG_calls (As := [.int n]) (rest := [.ref 395]) (N2 := 411) bdMo_lift_30 okMo_spanAt lk10_91 (And.intro (by decide) (by decide)) rfl rfl (Nat.le_of_ble_eq_true rfl) (Nat.le_of_ble_eq_true rfl) (Nat.le_refl 411) (Nat.le_refl 411) cMo_spanAt ?_
    rintro rr h' ⟨rfl, rfl⟩ -
    refine zG_run bkMo_lift_33 (lv' := [(0, .ref 393), (1, .int n)]) (st' := [.ref 393, .ref 393]) (h' := zN (zup sg1 395 (803 + 9 * n) 0)) (Ps := [zIn (zN sg1) 395 0 (803 + 9 * n)]) rfl (zA (zin_395 (i := 803 + 9 * n) (by lia) (by lia)) trivial) ?_
    refine zG_callv (a := 393) (c := 10) (As := []) (rest := [.ref 393]) (N2 := 411) bdMo_lift_37 okMo_spans lk10_173 (And.intro (by decide) (by decide)) (by decide) rfl rfl rfl (Nat.le_of_ble_eq_true rfl) (Nat.le_of_ble_eq_true rfl) (Nat.le_refl 411) (Nat.le_refl 411) zob_393 (cMo_spans (by (try rw [zup_i (by lia)]); lia) (by (try rw [zup_i (by lia)]); lia)) ?_
    rintro rr h' ⟨rfl, rfl⟩ -
    refine zG_run bkMo_lift_40 (lv' := [(0, .ref 393), (1, .int n)]) (st' := [.int (zit (mNs (zup sg1 395 (803 + 9 * n) 0)) 0 ((zup sg1 395 (803 + 9 * n) 0) 395 1)), .ref 393]) (h' := zN (zup sg1 395 (803 + 9 * n) 0)) (Ps := []) rfl trivial ?_
    refine zG_callv (a := 393) (c := 10) (As := [.int (zit (mNs (zup sg1 395 (803 + 9 * n) 0)) 0 ((zup sg1 395 (803 + 9 * n) 0) 395 1))]) (rest := []) (N2 := 411) bdMo_lift_40 okMo_tell lk10_84 (And.intro (by decide) (by decide)) (by decide) rfl rfl rfl (Nat.le_of_ble_eq_true rfl) (Nat.le_of_ble_eq_true rfl) (Nat.le_refl 411) (Nat.le_refl 411) zob_393 cMo_tell ?_
    rintro rr h' ⟨rfl, rfl⟩ -
    refine zb_iret bkMo_lift_43 bdMo_lift_43 rfl (x := zit (mNs (zup sg1 395 (803 + 9 * n) 0)) 0 ((zup sg1 395 (803 + 9 * n) 0) 395 1)) (h' := zN (hTell (zup sg1 395 (803 + 9 * n) 0))) (Ps := []) rfl trivial rfl ?_
    exact Or.inr (⟨hc, _, hb, by rw [zup_i (by lia), x1], rfl⟩)
  · skip
    refine zG_run bkMo_lift_13 (lv' := [(0, .ref 393), (1, .int n)]) (st' := [.int (-2), .ref 393]) (h' := zN sg) (Ps := []) rfl trivial ?_
    refine zG_callv (a := 393) (c := 10) (As := [.int (-2)]) (rest := []) (N2 := 411) bdMo_lift_16 okMo_refuse lk10_80 (And.intro (by decide) (by decide)) (by decide) rfl rfl rfl (Nat.le_of_ble_eq_true rfl) (Nat.le_of_ble_eq_true rfl) (Nat.le_refl 411) (Nat.le_refl 411) zob_393 (cMo_refuse (by decide) (by decide)) ?_
    rintro rr h' ⟨rfl, rfl⟩ -
    refine zb_iret bkMo_lift_19 bdMo_lift_19 rfl (x := (-2)) (h' := zN (hRef sg (-2))) (Ps := []) rfl trivial rfl ?_
    exact Or.inl ⟨rfl, rfl, by grind⟩
theorem tMo_lift {sg : zSig} {n : Int32} {Q : Option Value → zHp → Prop} (g : zG mMo_lift 411 Q 5 [(0, .ref 393), (1, .int n)] [] (zN (zup sg 393 0 0))) : zG mMo_lift 411 Q 0 [(0, .ref 393), (1, .int n)] [] (zN sg) :=
  zG_run bkMo_lift_0 (lv' := [(0, .ref 393), (1, .int n)]) (st' := []) (h' := zN (zup sg 393 0 0)) (Ps := [zOb (zN sg) 393 10]) rfl (zA zob_393 trivial) g
theorem bkMo_stretch_5 : zBk mMo_stretch 5 [(1, 0, 1, 0, 0), (1, 2, 0, 0, 0), (1, 3, 0, 0, 0)] = some 8 := by decide +kernel
theorem bkMo_stretch_11 : zBk mMo_stretch 11 [] = some 11 := by decide +kernel
theorem bkMo_stretch_20 : zBk mMo_stretch 20 [(1, 0, 1, 0, 0), (1, 1, 0, 0, 0)] = some 22 := by decide +kernel
theorem bkMo_stretch_25 : zBk mMo_stretch 25 [] = some 25 := by decide +kernel
theorem bkMo_stretch_35 : zBk mMo_stretch 35 [(1, 0, 1, 0, 0), (0, 0, 0, 0, 6)] = some 38 := by decide +kernel
theorem bkMo_stretch_41 : zBk mMo_stretch 41 [(1, 0, 1, 0, 0), (5, 10, 3, 2, 3), (1, 1, 0, 0, 0)] = some 46 := by decide +kernel
theorem bkMo_stretch_49 : zBk mMo_stretch 49 [(0, 0, 0, 0, 1), (4, 0, 0, 0, 0), (1, 2, 0, 0, 0), (8, 0, 0, 0, 0), (1, 0, 1, 0, 0), (5, 10, 3, 2, 3), (1, 1, 0, 0, 0)] = some 58 := by decide +kernel
theorem bkMo_stretch_61 : zBk mMo_stretch 61 [(0, 0, 0, 0, 2), (4, 0, 0, 0, 0), (1, 3, 0, 0, 0), (8, 0, 0, 0, 0), (1, 0, 1, 0, 0), (0, 0, 0, 0, 0)] = some 67 := by decide +kernel
theorem bkMo_stretch_70 : zBk mMo_stretch 70 [] = some 70 := by decide +kernel
theorem bkMo_stretch_28 : zBk mMo_stretch 28 [(1, 0, 1, 0, 0), (0, 0, 0, 0, -2)] = some 31 := by decide +kernel
theorem bkMo_stretch_34 : zBk mMo_stretch 34 [] = some 34 := by decide +kernel
theorem bkMo_stretch_14 : zBk mMo_stretch 14 [(1, 0, 1, 0, 0), (0, 0, 0, 0, -1)] = some 16 := by decide +kernel
theorem bkMo_stretch_19 : zBk mMo_stretch 19 [] = some 19 := by decide +kernel
theorem bkMo_stretch_0 : zBk mMo_stretch 0 [(1, 0, 1, 0, 0), (0, 0, 0, 0, 0), (6, 10, 0, 0, 0)] = some 5 := by decide +kernel
theorem bdMo_stretch_8 : decode mMo_stretch.2.2.1 8 = .ok (.invokevirtual 144, 3) := by decide +kernel
theorem bdMo_stretch_11 : decode mMo_stretch.2.2.1 11 = .ok (.ifCond .ne 9, 3) := by decide +kernel
theorem bdMo_stretch_16 : decode mMo_stretch.2.2.1 16 = .ok (.invokevirtual 80, 3) := by decide +kernel
theorem bdMo_stretch_19 : decode mMo_stretch.2.2.1 19 = .ok (.ireturn, 1) := by decide +kernel
theorem bdMo_stretch_22 : decode mMo_stretch.2.2.1 22 = .ok (.invokevirtual 151, 3) := by decide +kernel
theorem bdMo_stretch_25 : decode mMo_stretch.2.2.1 25 = .ok (.ifCond .ne 10, 3) := by decide +kernel
theorem bdMo_stretch_31 : decode mMo_stretch.2.2.1 31 = .ok (.invokevirtual 80, 3) := by decide +kernel
theorem bdMo_stretch_34 : decode mMo_stretch.2.2.1 34 = .ok (.ireturn, 1) := by decide +kernel
theorem bdMo_stretch_38 : decode mMo_stretch.2.2.1 38 = .ok (.invokevirtual 127, 3) := by decide +kernel
theorem bdMo_stretch_46 : decode mMo_stretch.2.2.1 46 = .ok (.invokestatic 91, 3) := by decide +kernel
theorem bdMo_stretch_58 : decode mMo_stretch.2.2.1 58 = .ok (.invokestatic 91, 3) := by decide +kernel
theorem bdMo_stretch_67 : decode mMo_stretch.2.2.1 67 = .ok (.invokevirtual 84, 3) := by decide +kernel
theorem bdMo_stretch_70 : decode mMo_stretch.2.2.1 70 = .ok (.ireturn, 1) := by decide +kernel
theorem bMo_stretch {sg : zSig} {n f t : Int32} (n0 : 0 ≤ sg 395 0) (n2 : sg 395 0 ≤ 200) (g0 : 0 ≤ sg 395 1) (g1 : sg 395 1 ≤ 16) (a0 : 0 ≤ sg 395 2) (a1 : sg 395 2 ≤ 12) (b0 : 0 ≤ sg 393 6) (b1 : sg 393 6 ≤ 8) : zG mMo_stretch 411 (fun rr h' => (rr = some (.int (-1)) ∧ h' = zN (hRef sg (-1)) ∧ (¬ (0 ≤ f ∧ f < t ∧ t ≤ sg 395 0))) ∨ (rr = some (.int (-2)) ∧ h' = zN (hRef sg (-2)) ∧ ((0 ≤ f ∧ f < t ∧ t ≤ sg 395 0) ∧ ¬ ((0 ≤ n ∧ n < sg 395 1) ∧ sg 395 (803 + 9 * n) = 1))) ∨ ((0 ≤ f ∧ f < t ∧ t ≤ sg 395 0) ∧ ((0 ≤ n ∧ n < sg 395 1) ∧ sg 395 (803 + 9 * n) = 1) ∧ ∃ sg1, mRem sg sg1 6 ∧ rr = some (.int 0) ∧ h' = zN (hTell (zup (zup sg1 395 (803 + 9 * n + 1) f) 395 (803 + 9 * n + 2) t)))) 5 [(0, .ref 393), (1, .int n), (2, .int f), (3, .int t)] [] (zN sg) := by
  refine zG_run bkMo_stretch_5 (lv' := [(0, .ref 393), (1, .int n), (2, .int f), (3, .int t)]) (st' := [.int t, .int f, .ref 393]) (h' := zN sg) (Ps := []) rfl trivial ?_
  refine zG_callv (a := 393) (c := 10) (As := [.int f, .int t]) (rest := []) (N2 := 411) bdMo_stretch_8 okMo_isRange lk10_144 (And.intro (by decide) (by decide)) (by decide) rfl rfl rfl (Nat.le_of_ble_eq_true rfl) (Nat.le_of_ble_eq_true rfl) (Nat.le_refl 411) (Nat.le_refl 411) zob_393 cMo_isRange ?_
  rintro rr h' ⟨rfl, rfl⟩ -
  refine zb_ifne (tgt := 20) bkMo_stretch_11 bdMo_stretch_11 (by decide) (lv' := [(0, .ref 393), (1, .int n), (2, .int f), (3, .int t)]) (st' := []) (h' := zN sg) (x := if 0 ≤ f ∧ f < t ∧ t ≤ sg 395 0 then 1 else 0) (Ps := []) rfl trivial (fun c1 => ?_) (fun c1 => ?_)
  · skip
    have hc : 0 ≤ f ∧ f < t ∧ t ≤ sg 395 0 := by grind
    refine zG_run bkMo_stretch_20 (lv' := [(0, .ref 393), (1, .int n), (2, .int f), (3, .int t)]) (st' := [.int n, .ref 393]) (h' := zN sg) (Ps := []) rfl trivial ?_
    refine zG_callv (a := 393) (c := 10) (As := [.int n]) (rest := []) (N2 := 411) bdMo_stretch_22 okMo_isSpan lk10_151 (And.intro (by decide) (by decide)) (by decide) rfl rfl rfl (Nat.le_of_ble_eq_true rfl) (Nat.le_of_ble_eq_true rfl) (Nat.le_refl 411) (Nat.le_refl 411) zob_393 (cMo_isSpan (by lia)) ?_
    rintro rr h' ⟨rfl, rfl⟩ -
    refine zb_ifne (tgt := 35) bkMo_stretch_25 bdMo_stretch_25 (by decide) (lv' := [(0, .ref 393), (1, .int n), (2, .int f), (3, .int t)]) (st' := []) (h' := zN sg) (x := if (0 ≤ n ∧ n < sg 395 1) ∧ sg 395 (803 + 9 * n) = 1 then 1 else 0) (Ps := []) rfl trivial (fun c2 => ?_) (fun c2 => ?_)
    · skip
      have hd : (0 ≤ n ∧ n < sg 395 1) ∧ sg 395 (803 + 9 * n) = 1 := by grind
      refine zG_run bkMo_stretch_35 (lv' := [(0, .ref 393), (1, .int n), (2, .int f), (3, .int t)]) (st' := [.int 6, .ref 393]) (h' := zN sg) (Ps := []) rfl trivial ?_
      refine zG_callv (a := 393) (c := 10) (As := [.int 6]) (rest := []) (N2 := 411) bdMo_stretch_38 okMo_remember lk10_127 (And.intro (by decide) (by decide)) (by decide) rfl rfl rfl (Nat.le_of_ble_eq_true rfl) (Nat.le_of_ble_eq_true rfl) (Nat.le_refl 411) (Nat.le_refl 411) zob_393 (cMo_remember (s := 6) b0 b1) ?_
      rintro rr h' ⟨sg1, rfl, rfl, hb⟩ -
      have fb := hb.1
      have ub := mRem_u b0 b1 hb
      have x0 : sg1 395 0 = sg 395 0 := fb 395 0 (by decide) (by decide) (by decide) (by decide)
      have x1 : sg1 395 1 = sg 395 1 := fb 395 1 (by decide) (by decide) (by decide) (by decide)
      have x2 : sg1 395 2 = sg 395 2 := fb 395 2 (by decide) (by decide) (by decide) (by decide)
      have xt : sg1 393 11 = sg 393 11 := fb 393 11 (by decide) (by decide) (by decide) (by decide)
      refine zG_run bkMo_stretch_41 (lv' := [(0, .ref 393), (1, .int n), (2, .int f), (3, .int t)]) (st' := [.int n, .ref 395]) (h' := zN sg1) (Ps := [zOb (zN sg1) 393 10 ∧ (zN sg1).2.2 393 3 = true]) rfl (zA ⟨zob_393, rfl⟩ trivial) ?_
      refine zG_calls (As := [.int n]) (rest := [.ref 395]) (N2 := 411) bdMo_stretch_46 okMo_spanAt lk10_91 (And.intro (by decide) (by decide)) rfl rfl (Nat.le_of_ble_eq_true rfl) (Nat.le_of_ble_eq_true rfl) (Nat.le_refl 411) (Nat.le_refl 411) cMo_spanAt ?_
      rintro rr h' ⟨rfl, rfl⟩ -
      refine zG_run bkMo_stretch_49 (lv' := [(0, .ref 393), (1, .int n), (2, .int f), (3, .int t)]) (st' := [.int n, .ref 395]) (h' := zN (zup sg1 395 ((803 + 9 * n) + 1) f)) (Ps := [zIn (zN sg1) 395 0 ((803 + 9 * n) + 1), zOb (zN (zup sg1 395 ((803 + 9 * n) + 1) f)) 393 10 ∧ (zN (zup sg1 395 ((803 + 9 * n) + 1) f)).2.2 393 3 = true]) rfl (zA (zin_395 (i := (803 + 9 * n) + 1) (by lia) (by lia)) (zA ⟨zob_393, rfl⟩ trivial)) ?_
      refine zG_calls (As := [.int n]) (rest := [.ref 395]) (N2 := 411) bdMo_stretch_58 okMo_spanAt lk10_91 (And.intro (by decide) (by decide)) rfl rfl (Nat.le_of_ble_eq_true rfl) (Nat.le_of_ble_eq_true rfl) (Nat.le_refl 411) (Nat.le_refl 411) cMo_spanAt ?_
      rintro rr h' ⟨rfl, rfl⟩ -
      refine zG_run bkMo_stretch_61 (lv' := [(0, .ref 393), (1, .int n), (2, .int f), (3, .int t)]) (st' := [.int 0, .ref 393]) (h' := zN (zup (zup sg1 395 ((803 + 9 * n) + 1) f) 395 ((803 + 9 * n) + 2) t)) (Ps := [zIn (zN (zup sg1 395 ((803 + 9 * n) + 1) f)) 395 0 ((803 + 9 * n) + 2)]) rfl (zA (zin_395 (i := (803 + 9 * n) + 2) (by lia) (by lia)) trivial) ?_
      refine zG_callv (a := 393) (c := 10) (As := [.int 0]) (rest := []) (N2 := 411) bdMo_stretch_67 okMo_tell lk10_84 (And.intro (by decide) (by decide)) (by decide) rfl rfl rfl (Nat.le_of_ble_eq_true rfl) (Nat.le_of_ble_eq_true rfl) (Nat.le_refl 411) (Nat.le_refl 411) zob_393 cMo_tell ?_
      rintro rr h' ⟨rfl, rfl⟩ -
      refine zb_iret bkMo_stretch_70 bdMo_stretch_70 rfl (x := 0) (h' := zN (hTell (zup (zup sg1 395 ((803 + 9 * n) + 1) f) 395 ((803 + 9 * n) + 2) t))) (Ps := []) rfl trivial rfl ?_
      exact Or.inr (Or.inr (⟨hc, hd, _, hb, rfl, rfl⟩))
    · skip
      refine zG_run bkMo_stretch_28 (lv' := [(0, .ref 393), (1, .int n), (2, .int f), (3, .int t)]) (st' := [.int (-2), .ref 393]) (h' := zN sg) (Ps := []) rfl trivial ?_
      refine zG_callv (a := 393) (c := 10) (As := [.int (-2)]) (rest := []) (N2 := 411) bdMo_stretch_31 okMo_refuse lk10_80 (And.intro (by decide) (by decide)) (by decide) rfl rfl rfl (Nat.le_of_ble_eq_true rfl) (Nat.le_of_ble_eq_true rfl) (Nat.le_refl 411) (Nat.le_refl 411) zob_393 (cMo_refuse (by decide) (by decide)) ?_
      rintro rr h' ⟨rfl, rfl⟩ -
      refine zb_iret bkMo_stretch_34 bdMo_stretch_34 rfl (x := (-2)) (h' := zN (hRef sg (-2))) (Ps := []) rfl trivial rfl ?_
      exact Or.inr (Or.inl ⟨rfl, rfl, by grind⟩)
  · skip
    refine zG_run bkMo_stretch_14 (lv' := [(0, .ref 393), (1, .int n), (2, .int f), (3, .int t)]) (st' := [.int (-1), .ref 393]) (h' := zN sg) (Ps := []) rfl trivial ?_
    refine zG_callv (a := 393) (c := 10) (As := [.int (-1)]) (rest := []) (N2 := 411) bdMo_stretch_16 okMo_refuse lk10_80 (And.intro (by decide) (by decide)) (by decide) rfl rfl rfl (Nat.le_of_ble_eq_true rfl) (Nat.le_of_ble_eq_true rfl) (Nat.le_refl 411) (Nat.le_refl 411) zob_393 (cMo_refuse (by decide) (by decide)) ?_
    rintro rr h' ⟨rfl, rfl⟩ -
    refine zb_iret bkMo_stretch_19 bdMo_stretch_19 rfl (x := (-1)) (h' := zN (hRef sg (-1))) (Ps := []) rfl trivial rfl ?_
    exact Or.inl ⟨rfl, rfl, by grind⟩
theorem tMo_stretch {sg : zSig} {n f t : Int32} {Q : Option Value → zHp → Prop} (g : zG mMo_stretch 411 Q 5 [(0, .ref 393), (1, .int n), (2, .int f), (3, .int t)] [] (zN (zup sg 393 0 0))) : zG mMo_stretch 411 Q 0 [(0, .ref 393), (1, .int n), (2, .int f), (3, .int t)] [] (zN sg) :=
  zG_run bkMo_stretch_0 (lv' := [(0, .ref 393), (1, .int n), (2, .int f), (3, .int t)]) (st' := []) (h' := zN (zup sg 393 0 0)) (Ps := [zOb (zN sg) 393 10]) rfl (zA zob_393 trivial) g
theorem bkMo_unpin_5 : zBk mMo_unpin 5 [(1, 0, 1, 0, 0), (1, 1, 0, 0, 0)] = some 7 := by decide +kernel
theorem bkMo_unpin_10 : zBk mMo_unpin 10 [] = some 10 := by decide +kernel
theorem bkMo_unpin_20 : zBk mMo_unpin 20 [(1, 0, 1, 0, 0), (0, 0, 0, 0, 10)] = some 23 := by decide +kernel
theorem bkMo_unpin_26 : zBk mMo_unpin 26 [(1, 0, 1, 0, 0), (5, 10, 3, 2, 3), (1, 1, 0, 0, 0)] = some 31 := by decide +kernel
theorem bkMo_unpin_34 : zBk mMo_unpin 34 [(0, 0, 0, 0, 0), (8, 0, 0, 0, 0), (1, 0, 1, 0, 0), (1, 0, 1, 0, 0), (5, 10, 3, 2, 3), (1, 1, 0, 0, 0)] = some 42 := by decide +kernel
theorem bkMo_unpin_45 : zBk mMo_unpin 45 [(0, 0, 0, 0, 1), (4, 0, 0, 0, 0), (7, 0, 0, 0, 0)] = some 48 := by decide +kernel
theorem bkMo_unpin_51 : zBk mMo_unpin 51 [] = some 51 := by decide +kernel
theorem bkMo_unpin_13 : zBk mMo_unpin 13 [(1, 0, 1, 0, 0), (0, 0, 0, 0, -2)] = some 16 := by decide +kernel
theorem bkMo_unpin_19 : zBk mMo_unpin 19 [] = some 19 := by decide +kernel
theorem bkMo_unpin_0 : zBk mMo_unpin 0 [(1, 0, 1, 0, 0), (0, 0, 0, 0, 0), (6, 10, 0, 0, 0)] = some 5 := by decide +kernel
theorem bdMo_unpin_7 : decode mMo_unpin.2.2.1 7 = .ok (.invokevirtual 154, 3) := by decide +kernel
theorem bdMo_unpin_10 : decode mMo_unpin.2.2.1 10 = .ok (.ifCond .ne 10, 3) := by decide +kernel
theorem bdMo_unpin_16 : decode mMo_unpin.2.2.1 16 = .ok (.invokevirtual 80, 3) := by decide +kernel
theorem bdMo_unpin_19 : decode mMo_unpin.2.2.1 19 = .ok (.ireturn, 1) := by decide +kernel
theorem bdMo_unpin_23 : decode mMo_unpin.2.2.1 23 = .ok (.invokevirtual 127, 3) := by decide +kernel
theorem bdMo_unpin_31 : decode mMo_unpin.2.2.1 31 = .ok (.invokestatic 94, 3) := by decide +kernel
theorem bdMo_unpin_42 : decode mMo_unpin.2.2.1 42 = .ok (.invokestatic 94, 3) := by decide +kernel
theorem bdMo_unpin_48 : decode mMo_unpin.2.2.1 48 = .ok (.invokevirtual 84, 3) := by decide +kernel
theorem bdMo_unpin_51 : decode mMo_unpin.2.2.1 51 = .ok (.ireturn, 1) := by decide +kernel
theorem bMo_unpin {sg : zSig} {n : Int32} (n0 : 0 ≤ sg 395 0) (n2 : sg 395 0 ≤ 200) (g0 : 0 ≤ sg 395 1) (g1 : sg 395 1 ≤ 16) (a0 : 0 ≤ sg 395 2) (a1 : sg 395 2 ≤ 12) (b0 : 0 ≤ sg 393 6) (b1 : sg 393 6 ≤ 8) : zG mMo_unpin 411 (fun rr h' => (rr = some (.int (-2)) ∧ h' = zN (hRef sg (-2)) ∧ (¬ ((0 ≤ n ∧ n < sg 395 2) ∧ sg 395 (947 + 4 * n) = 1))) ∨ (((0 ≤ n ∧ n < sg 395 2) ∧ sg 395 (947 + 4 * n) = 1) ∧ ∃ sg1, mRem sg sg1 10 ∧ rr = some (.int (sg 395 (947 + 4 * n + 1))) ∧ h' = zN (hTell (zup sg1 395 (947 + 4 * n) 0)))) 5 [(0, .ref 393), (1, .int n)] [] (zN sg) := by
  refine zG_run bkMo_unpin_5 (lv' := [(0, .ref 393), (1, .int n)]) (st' := [.int n, .ref 393]) (h' := zN sg) (Ps := []) rfl trivial ?_
  refine zG_callv (a := 393) (c := 10) (As := [.int n]) (rest := []) (N2 := 411) bdMo_unpin_7 okMo_isAnchor lk10_154 (And.intro (by decide) (by decide)) (by decide) rfl rfl rfl (Nat.le_of_ble_eq_true rfl) (Nat.le_of_ble_eq_true rfl) (Nat.le_refl 411) (Nat.le_refl 411) zob_393 (cMo_isAnchor (by lia)) ?_
  rintro rr h' ⟨rfl, rfl⟩ -
  refine zb_ifne (tgt := 20) bkMo_unpin_10 bdMo_unpin_10 (by decide) (lv' := [(0, .ref 393), (1, .int n)]) (st' := []) (h' := zN sg) (x := if (0 ≤ n ∧ n < sg 395 2) ∧ sg 395 (947 + 4 * n) = 1 then 1 else 0) (Ps := []) rfl trivial (fun c1 => ?_) (fun c1 => ?_)
  · skip
    have hc : (0 ≤ n ∧ n < sg 395 2) ∧ sg 395 (947 + 4 * n) = 1 := by grind
    refine zG_run bkMo_unpin_20 (lv' := [(0, .ref 393), (1, .int n)]) (st' := [.int 10, .ref 393]) (h' := zN sg) (Ps := []) rfl trivial ?_
    refine zG_callv (a := 393) (c := 10) (As := [.int 10]) (rest := []) (N2 := 411) bdMo_unpin_23 okMo_remember lk10_127 (And.intro (by decide) (by decide)) (by decide) rfl rfl rfl (Nat.le_of_ble_eq_true rfl) (Nat.le_of_ble_eq_true rfl) (Nat.le_refl 411) (Nat.le_refl 411) zob_393 (cMo_remember (s := 10) b0 b1) ?_
    rintro rr h' ⟨sg1, rfl, rfl, hb⟩ -
    have fb := hb.1
    have ub := mRem_u b0 b1 hb
    have x0 : sg1 395 0 = sg 395 0 := fb 395 0 (by decide) (by decide) (by decide) (by decide)
    have x1 : sg1 395 1 = sg 395 1 := fb 395 1 (by decide) (by decide) (by decide) (by decide)
    have x2 : sg1 395 2 = sg 395 2 := fb 395 2 (by decide) (by decide) (by decide) (by decide)
    have xt : sg1 393 11 = sg 393 11 := fb 393 11 (by decide) (by decide) (by decide) (by decide)
    refine zG_run bkMo_unpin_26 (lv' := [(0, .ref 393), (1, .int n)]) (st' := [.int n, .ref 395]) (h' := zN sg1) (Ps := [zOb (zN sg1) 393 10 ∧ (zN sg1).2.2 393 3 = true]) rfl (zA ⟨zob_393, rfl⟩ trivial) ?_
    refine zG_calls (As := [.int n]) (rest := [.ref 395]) (N2 := 411) bdMo_unpin_31 okMo_anchorAt lk10_94 (And.intro (by decide) (by decide)) rfl rfl (Nat.le_of_ble_eq_true rfl) (Nat.le_of_ble_eq_true rfl) (Nat.le_refl 411) (Nat.le_refl 411) cMo_anchorAt ?_
    rintro rr h' ⟨rfl, rfl⟩ -
    refine zG_run bkMo_unpin_34 (lv' := [(0, .ref 393), (1, .int n)]) (st' := [.int n, .ref 395, .ref 393]) (h' := zN (zup sg1 395 (947 + 4 * n) 0)) (Ps := [zIn (zN sg1) 395 0 (947 + 4 * n), zOb (zN (zup sg1 395 (947 + 4 * n) 0)) 393 10 ∧ (zN (zup sg1 395 (947 + 4 * n) 0)).2.2 393 3 = true]) rfl (zA (zin_395 (i := 947 + 4 * n) (by lia) (by lia)) (zA ⟨zob_393, rfl⟩ trivial)) ?_
    refine zG_calls (As := [.int n]) (rest := [.ref 395, .ref 393]) (N2 := 411) bdMo_unpin_42 okMo_anchorAt lk10_94 (And.intro (by decide) (by decide)) rfl rfl (Nat.le_of_ble_eq_true rfl) (Nat.le_of_ble_eq_true rfl) (Nat.le_refl 411) (Nat.le_refl 411) cMo_anchorAt ?_
    rintro rr h' ⟨rfl, rfl⟩ -
    refine zG_run bkMo_unpin_45 (lv' := [(0, .ref 393), (1, .int n)]) (st' := [.int ((zup sg1 395 (947 + 4 * n) 0) 395 ((947 + 4 * n) + 1)), .ref 393]) (h' := zN (zup sg1 395 (947 + 4 * n) 0)) (Ps := [zInL (zN (zup sg1 395 (947 + 4 * n) 0)) 395 ((947 + 4 * n) + 1)]) rfl (zA (zinL_395 (i := (947 + 4 * n) + 1) (by lia) (by lia)) trivial) ?_
    refine zG_callv (a := 393) (c := 10) (As := [.int ((zup sg1 395 (947 + 4 * n) 0) 395 ((947 + 4 * n) + 1))]) (rest := []) (N2 := 411) bdMo_unpin_48 okMo_tell lk10_84 (And.intro (by decide) (by decide)) (by decide) rfl rfl rfl (Nat.le_of_ble_eq_true rfl) (Nat.le_of_ble_eq_true rfl) (Nat.le_refl 411) (Nat.le_refl 411) zob_393 cMo_tell ?_
    rintro rr h' ⟨rfl, rfl⟩ -
    refine zb_iret bkMo_unpin_51 bdMo_unpin_51 rfl (x := (zup sg1 395 (947 + 4 * n) 0) 395 ((947 + 4 * n) + 1)) (h' := zN (hTell (zup sg1 395 (947 + 4 * n) 0))) (Ps := []) rfl trivial rfl ?_
    exact Or.inr (⟨hc, _, hb, by rw [zup_o0 (by decide), fb 395 _ (by decide) (by decide) (by decide) (Or.inl (by decide))], rfl⟩)
  · skip
    refine zG_run bkMo_unpin_13 (lv' := [(0, .ref 393), (1, .int n)]) (st' := [.int (-2), .ref 393]) (h' := zN sg) (Ps := []) rfl trivial ?_
    refine zG_callv (a := 393) (c := 10) (As := [.int (-2)]) (rest := []) (N2 := 411) bdMo_unpin_16 okMo_refuse lk10_80 (And.intro (by decide) (by decide)) (by decide) rfl rfl rfl (Nat.le_of_ble_eq_true rfl) (Nat.le_of_ble_eq_true rfl) (Nat.le_refl 411) (Nat.le_refl 411) zob_393 (cMo_refuse (by decide) (by decide)) ?_
    rintro rr h' ⟨rfl, rfl⟩ -
    refine zb_iret bkMo_unpin_19 bdMo_unpin_19 rfl (x := (-2)) (h' := zN (hRef sg (-2))) (Ps := []) rfl trivial rfl ?_
    exact Or.inl ⟨rfl, rfl, by grind⟩
theorem tMo_unpin {sg : zSig} {n : Int32} {Q : Option Value → zHp → Prop} (g : zG mMo_unpin 411 Q 5 [(0, .ref 393), (1, .int n)] [] (zN (zup sg 393 0 0))) : zG mMo_unpin 411 Q 0 [(0, .ref 393), (1, .int n)] [] (zN sg) :=
  zG_run bkMo_unpin_0 (lv' := [(0, .ref 393), (1, .int n)]) (st' := []) (h' := zN (zup sg 393 0 0)) (Ps := [zOb (zN sg) 393 10]) rfl (zA zob_393 trivial) g
theorem bkMo_set_5 : zBk mMo_set 5 [(1, 2, 0, 0, 0), (14, 0, 0, 0, 0), (15, 0, 0, 0, 0), (15, 0, 0, 0, 1)] = some 9 := by decide +kernel
theorem bkMo_set_12 : zBk mMo_set 12 [] = some 12 := by decide +kernel
theorem bkMo_set_37 : zBk mMo_set 37 [(1, 0, 1, 0, 0), (0, 0, 0, 0, -1)] = some 39 := by decide +kernel
theorem bkMo_set_42 : zBk mMo_set 42 [] = some 42 := by decide +kernel
theorem bkMo_set_15 : zBk mMo_set 15 [(1, 3, 0, 0, 0), (14, 0, 0, 0, 0), (15, 0, 0, 0, 0), (1, 2, 0, 0, 0)] = some 19 := by decide +kernel
theorem bkMo_set_28 : zBk mMo_set 28 [(15, 0, 0, 0, 3)] = some 31 := by decide +kernel
theorem bkMo_set_34 : zBk mMo_set 34 [] = some 34 := by decide +kernel
theorem bkMo_set_43 : zBk mMo_set 43 [(1, 0, 1, 0, 0), (1, 1, 0, 0, 0)] = some 45 := by decide +kernel
theorem bkMo_set_48 : zBk mMo_set 48 [] = some 48 := by decide +kernel
theorem bkMo_set_58 : zBk mMo_set 58 [(1, 0, 1, 0, 0), (0, 0, 0, 0, 5)] = some 60 := by decide +kernel
theorem bkMo_set_63 : zBk mMo_set 63 [(1, 1, 0, 0, 0)] = some 64 := by decide +kernel
theorem bkMo_set_67 : zBk mMo_set 67 [(1, 2, 0, 0, 0)] = some 68 := by decide +kernel
theorem bkMo_set_75 : zBk mMo_set 75 [(0, 0, 0, 0, 8), (4, 0, 0, 0, 0), (2, 4, 0, 0, 0), (1, 0, 1, 0, 0), (5, 10, 3, 2, 3), (1, 4, 0, 0, 0), (7, 0, 0, 0, 0), (2, 5, 0, 0, 0), (1, 0, 1, 0, 0), (5, 10, 3, 2, 3), (1, 4, 0, 0, 0), (1, 3, 0, 0, 0), (8, 0, 0, 0, 0), (1, 0, 1, 0, 0), (1, 5, 0, 0, 0)] = some 100 := by decide +kernel
theorem bkMo_set_103 : zBk mMo_set 103 [] = some 103 := by decide +kernel
theorem bkMo_set_71 : zBk mMo_set 71 [(0, 0, 0, 0, 3), (22, 77, 0, 0, 0), (4, 0, 0, 0, 0), (2, 4, 0, 0, 0), (1, 0, 1, 0, 0), (5, 10, 3, 2, 3), (1, 4, 0, 0, 0), (7, 0, 0, 0, 0), (2, 5, 0, 0, 0), (1, 0, 1, 0, 0), (5, 10, 3, 2, 3), (1, 4, 0, 0, 0), (1, 3, 0, 0, 0), (8, 0, 0, 0, 0), (1, 0, 1, 0, 0), (1, 5, 0, 0, 0)] = some 100 := by decide +kernel
theorem bkMo_set_51 : zBk mMo_set 51 [(1, 0, 1, 0, 0), (0, 0, 0, 0, -2)] = some 54 := by decide +kernel
theorem bkMo_set_57 : zBk mMo_set 57 [] = some 57 := by decide +kernel
theorem bkMo_set_22 : zBk mMo_set 22 [(15, 0, 0, 0, 9), (22, 31, 0, 0, 0)] = some 31 := by decide +kernel
theorem bkMo_set_0 : zBk mMo_set 0 [(1, 0, 1, 0, 0), (0, 0, 0, 0, 0), (6, 10, 0, 0, 0)] = some 5 := by decide +kernel
theorem bdMo_set_9 : decode mMo_set.2.2.1 9 = .ok (.invokestatic 87, 3) := by decide +kernel
theorem bdMo_set_12 : decode mMo_set.2.2.1 12 = .ok (.ifCond .eq 25, 3) := by decide +kernel
theorem bdMo_set_19 : decode mMo_set.2.2.1 19 = .ok (.ifCond .ne 9, 3) := by decide +kernel
theorem bdMo_set_31 : decode mMo_set.2.2.1 31 = .ok (.invokestatic 87, 3) := by decide +kernel
theorem bdMo_set_34 : decode mMo_set.2.2.1 34 = .ok (.ifCond .ne 9, 3) := by decide +kernel
theorem bdMo_set_39 : decode mMo_set.2.2.1 39 = .ok (.invokevirtual 80, 3) := by decide +kernel
theorem bdMo_set_42 : decode mMo_set.2.2.1 42 = .ok (.ireturn, 1) := by decide +kernel
theorem bdMo_set_45 : decode mMo_set.2.2.1 45 = .ok (.invokevirtual 151, 3) := by decide +kernel
theorem bdMo_set_48 : decode mMo_set.2.2.1 48 = .ok (.ifCond .ne 10, 3) := by decide +kernel
theorem bdMo_set_54 : decode mMo_set.2.2.1 54 = .ok (.invokevirtual 80, 3) := by decide +kernel
theorem bdMo_set_57 : decode mMo_set.2.2.1 57 = .ok (.ireturn, 1) := by decide +kernel
theorem bdMo_set_60 : decode mMo_set.2.2.1 60 = .ok (.invokevirtual 127, 3) := by decide +kernel
theorem bdMo_set_64 : decode mMo_set.2.2.1 64 = .ok (.invokestatic 91, 3) := by decide +kernel
theorem bdMo_set_68 : decode mMo_set.2.2.1 68 = .ok (.ifCond .ne 7, 3) := by decide +kernel
theorem bdMo_set_100 : decode mMo_set.2.2.1 100 = .ok (.invokevirtual 84, 3) := by decide +kernel
theorem bdMo_set_103 : decode mMo_set.2.2.1 103 = .ok (.ireturn, 1) := by decide +kernel
theorem bMo_set {sg : zSig} {n w v : Int32} (n0 : 0 ≤ sg 395 0) (n2 : sg 395 0 ≤ 200) (g0 : 0 ≤ sg 395 1) (g1 : sg 395 1 ≤ 16) (a0 : 0 ≤ sg 395 2) (a1 : sg 395 2 ≤ 12) (b0 : 0 ≤ sg 393 6) (b1 : sg 393 6 ≤ 8) : zG mMo_set 411 (fun rr h' => (rr = some (.int (-1)) ∧ h' = zN (hRef sg (-1)) ∧ (¬ ((w = 0 ∧ 0 ≤ v ∧ v ≤ 9) ∨ (w = 1 ∧ 0 ≤ v ∧ v ≤ 3)))) ∨ (rr = some (.int (-2)) ∧ h' = zN (hRef sg (-2)) ∧ (((w = 0 ∧ 0 ≤ v ∧ v ≤ 9) ∨ (w = 1 ∧ 0 ≤ v ∧ v ≤ 3)) ∧ ¬ ((0 ≤ n ∧ n < sg 395 1) ∧ sg 395 (803 + 9 * n) = 1))) ∨ (((w = 0 ∧ 0 ≤ v ∧ v ≤ 9) ∨ (w = 1 ∧ 0 ≤ v ∧ v ≤ 3)) ∧ ((0 ≤ n ∧ n < sg 395 1) ∧ sg 395 (803 + 9 * n) = 1) ∧ ∃ sg1, mRem sg sg1 5 ∧ rr = some (.int (sg 395 (803 + 9 * n + (if w = 0 then 3 else 8)))) ∧ h' = zN (hTell (zup sg1 395 (803 + 9 * n + (if w = 0 then 3 else 8)) v)))) 5 [(0, .ref 393), (1, .int n), (2, .int w), (3, .int v)] [] (zN sg) := by
  refine zG_run bkMo_set_5 (lv' := [(0, .ref 393), (1, .int n), (2, .int w), (3, .int v)]) (st' := [.long ((1 : Int32).toInt64), .long ((0 : Int32).toInt64), .long w.toInt64]) (h' := zN sg) (Ps := []) rfl trivial ?_
  refine zG_calls (As := [.long w.toInt64, .long ((0 : Int32).toInt64), .long ((1 : Int32).toInt64)]) (rest := []) (N2 := 411) bdMo_set_9 okMo_in lk10_87 (And.intro (by decide) (by decide)) rfl rfl (Nat.le_of_ble_eq_true rfl) (Nat.le_of_ble_eq_true rfl) (Nat.le_refl 411) (Nat.le_refl 411) cMo_inA ?_
  rintro rr h' ⟨rfl, rfl⟩ -
  refine zb_ifeq (tgt := 37) bkMo_set_12 bdMo_set_12 (by decide) (lv' := [(0, .ref 393), (1, .int n), (2, .int w), (3, .int v)]) (st' := []) (h' := zN sg) (x := if 0 ≤ w ∧ w ≤ 1 then 1 else 0) (Ps := []) rfl trivial (fun c1 => ?_) (fun c1 => ?_)
  · skip
    refine zG_run bkMo_set_37 (lv' := [(0, .ref 393), (1, .int n), (2, .int w), (3, .int v)]) (st' := [.int (-1), .ref 393]) (h' := zN sg) (Ps := []) rfl trivial ?_
    refine zG_callv (a := 393) (c := 10) (As := [.int (-1)]) (rest := []) (N2 := 411) bdMo_set_39 okMo_refuse lk10_80 (And.intro (by decide) (by decide)) (by decide) rfl rfl rfl (Nat.le_of_ble_eq_true rfl) (Nat.le_of_ble_eq_true rfl) (Nat.le_refl 411) (Nat.le_refl 411) zob_393 (cMo_refuse (by decide) (by decide)) ?_
    rintro rr h' ⟨rfl, rfl⟩ -
    refine zb_iret bkMo_set_42 bdMo_set_42 rfl (x := (-1)) (h' := zN (hRef sg (-1))) (Ps := []) rfl trivial rfl ?_
    exact Or.inl ⟨rfl, rfl, by grind⟩
  · skip
    refine zb_ifne (tgt := 28) bkMo_set_15 bdMo_set_19 (by decide) (lv' := [(0, .ref 393), (1, .int n), (2, .int w), (3, .int v)]) (st' := [.long ((0 : Int32).toInt64), .long v.toInt64]) (h' := zN sg) (x := w) (Ps := []) rfl trivial (fun c2 => ?_) (fun c2 => ?_)
    · skip
      refine zG_run bkMo_set_28 (lv' := [(0, .ref 393), (1, .int n), (2, .int w), (3, .int v)]) (st' := [.long ((3 : Int32).toInt64), .long ((0 : Int32).toInt64), .long v.toInt64]) (h' := zN sg) (Ps := []) rfl trivial ?_
      refine zG_calls (As := [.long v.toInt64, .long ((0 : Int32).toInt64), .long ((3 : Int32).toInt64)]) (rest := []) (N2 := 411) bdMo_set_31 okMo_in lk10_87 (And.intro (by decide) (by decide)) rfl rfl (Nat.le_of_ble_eq_true rfl) (Nat.le_of_ble_eq_true rfl) (Nat.le_refl 411) (Nat.le_refl 411) cMo_inA ?_
      rintro rr h' ⟨rfl, rfl⟩ -
      refine zb_ifne (tgt := 43) bkMo_set_34 bdMo_set_34 (by decide) (lv' := [(0, .ref 393), (1, .int n), (2, .int w), (3, .int v)]) (st' := []) (h' := zN sg) (x := if 0 ≤ v ∧ v ≤ 3 then 1 else 0) (Ps := []) rfl trivial (fun c3 => ?_) (fun c3 => ?_)
      · skip
        have hc : (w = 0 ∧ 0 ≤ v ∧ v ≤ 9) ∨ (w = 1 ∧ 0 ≤ v ∧ v ≤ 3) := by grind
        refine zG_run bkMo_set_43 (lv' := [(0, .ref 393), (1, .int n), (2, .int w), (3, .int v)]) (st' := [.int n, .ref 393]) (h' := zN sg) (Ps := []) rfl trivial ?_
        refine zG_callv (a := 393) (c := 10) (As := [.int n]) (rest := []) (N2 := 411) bdMo_set_45 okMo_isSpan lk10_151 (And.intro (by decide) (by decide)) (by decide) rfl rfl rfl (Nat.le_of_ble_eq_true rfl) (Nat.le_of_ble_eq_true rfl) (Nat.le_refl 411) (Nat.le_refl 411) zob_393 (cMo_isSpan (by lia)) ?_
        rintro rr h' ⟨rfl, rfl⟩ -
        refine zb_ifne (tgt := 58) bkMo_set_48 bdMo_set_48 (by decide) (lv' := [(0, .ref 393), (1, .int n), (2, .int w), (3, .int v)]) (st' := []) (h' := zN sg) (x := if (0 ≤ n ∧ n < sg 395 1) ∧ sg 395 (803 + 9 * n) = 1 then 1 else 0) (Ps := []) rfl trivial (fun c4 => ?_) (fun c4 => ?_)
        · skip
          have hd : (0 ≤ n ∧ n < sg 395 1) ∧ sg 395 (803 + 9 * n) = 1 := by grind
          refine zG_run bkMo_set_58 (lv' := [(0, .ref 393), (1, .int n), (2, .int w), (3, .int v)]) (st' := [.int 5, .ref 393]) (h' := zN sg) (Ps := []) rfl trivial ?_
          refine zG_callv (a := 393) (c := 10) (As := [.int 5]) (rest := []) (N2 := 411) bdMo_set_60 okMo_remember lk10_127 (And.intro (by decide) (by decide)) (by decide) rfl rfl rfl (Nat.le_of_ble_eq_true rfl) (Nat.le_of_ble_eq_true rfl) (Nat.le_refl 411) (Nat.le_refl 411) zob_393 (cMo_remember (s := 5) b0 b1) ?_
          rintro rr h' ⟨sg1, rfl, rfl, hb⟩ -
          have fb := hb.1
          have ub := mRem_u b0 b1 hb
          have x0 : sg1 395 0 = sg 395 0 := fb 395 0 (by decide) (by decide) (by decide) (by decide)
          have x1 : sg1 395 1 = sg 395 1 := fb 395 1 (by decide) (by decide) (by decide) (by decide)
          have x2 : sg1 395 2 = sg 395 2 := fb 395 2 (by decide) (by decide) (by decide) (by decide)
          have xt : sg1 393 11 = sg 393 11 := fb 393 11 (by decide) (by decide) (by decide) (by decide)
          refine zG_run bkMo_set_63 (lv' := [(0, .ref 393), (1, .int n), (2, .int w), (3, .int v)]) (st' := [.int n]) (h' := zN sg1) (Ps := []) rfl trivial ?_
          refine zG_calls (As := [.int n]) (rest := []) (N2 := 411) bdMo_set_64 okMo_spanAt lk10_91 (And.intro (by decide) (by decide)) rfl rfl (Nat.le_of_ble_eq_true rfl) (Nat.le_of_ble_eq_true rfl) (Nat.le_refl 411) (Nat.le_refl 411) cMo_spanAt ?_
          rintro rr h' ⟨rfl, rfl⟩ -
          refine zb_ifne (tgt := 75) bkMo_set_67 bdMo_set_68 (by decide) (lv' := [(0, .ref 393), (1, .int n), (2, .int w), (3, .int v)]) (st' := [.int (803 + 9 * n)]) (h' := zN sg1) (x := w) (Ps := []) rfl trivial (fun c5 => ?_) (fun c5 => ?_)
          · skip
            refine zG_run bkMo_set_75 (lv' := [(5, .int (sg1 395 ((803 + 9 * n) + 8))), (4, .int ((803 + 9 * n) + 8)), (0, .ref 393), (1, .int n), (2, .int w), (3, .int v)]) (st' := [.int (sg1 395 ((803 + 9 * n) + 8)), .ref 393]) (h' := zN (zup sg1 395 ((803 + 9 * n) + 8) v)) (Ps := [zOb (zN sg1) 393 10 ∧ (zN sg1).2.2 393 3 = true, zInL (zN sg1) 395 ((803 + 9 * n) + 8), zOb (zN sg1) 393 10 ∧ (zN sg1).2.2 393 3 = true, zIn (zN sg1) 395 0 ((803 + 9 * n) + 8)]) rfl (zA ⟨zob_393, rfl⟩ (zA (zinL_395 (i := (803 + 9 * n) + 8) (by lia) (by lia)) (zA ⟨zob_393, rfl⟩ (zA (zin_395 (i := (803 + 9 * n) + 8) (by lia) (by lia)) trivial)))) ?_
            refine zG_callv (a := 393) (c := 10) (As := [.int (sg1 395 ((803 + 9 * n) + 8))]) (rest := []) (N2 := 411) bdMo_set_100 okMo_tell lk10_84 (And.intro (by decide) (by decide)) (by decide) rfl rfl rfl (Nat.le_of_ble_eq_true rfl) (Nat.le_of_ble_eq_true rfl) (Nat.le_refl 411) (Nat.le_refl 411) zob_393 cMo_tell ?_
            rintro rr h' ⟨rfl, rfl⟩ -
            refine zb_iret bkMo_set_103 bdMo_set_103 rfl (x := sg1 395 ((803 + 9 * n) + 8)) (h' := zN (hTell (zup sg1 395 ((803 + 9 * n) + 8) v))) (Ps := []) rfl trivial rfl ?_
            have hw : ¬ w = 0 := by lia
            exact Or.inr (Or.inr (⟨hc, hd, sg1, hb, by rw [if_neg hw, fb 395 _ (by decide) (by decide) (by decide) (Or.inl (by decide))], by rw [if_neg hw]⟩))
          · skip
            refine zG_run bkMo_set_71 (lv' := [(5, .int (sg1 395 ((803 + 9 * n) + 3))), (4, .int ((803 + 9 * n) + 3)), (0, .ref 393), (1, .int n), (2, .int w), (3, .int v)]) (st' := [.int (sg1 395 ((803 + 9 * n) + 3)), .ref 393]) (h' := zN (zup sg1 395 ((803 + 9 * n) + 3) v)) (Ps := [zOb (zN sg1) 393 10 ∧ (zN sg1).2.2 393 3 = true, zInL (zN sg1) 395 ((803 + 9 * n) + 3), zOb (zN sg1) 393 10 ∧ (zN sg1).2.2 393 3 = true, zIn (zN sg1) 395 0 ((803 + 9 * n) + 3)]) rfl (zA ⟨zob_393, rfl⟩ (zA (zinL_395 (i := (803 + 9 * n) + 3) (by lia) (by lia)) (zA ⟨zob_393, rfl⟩ (zA (zin_395 (i := (803 + 9 * n) + 3) (by lia) (by lia)) trivial)))) ?_
            refine zG_callv (a := 393) (c := 10) (As := [.int (sg1 395 ((803 + 9 * n) + 3))]) (rest := []) (N2 := 411) bdMo_set_100 okMo_tell lk10_84 (And.intro (by decide) (by decide)) (by decide) rfl rfl rfl (Nat.le_of_ble_eq_true rfl) (Nat.le_of_ble_eq_true rfl) (Nat.le_refl 411) (Nat.le_refl 411) zob_393 cMo_tell ?_
            rintro rr h' ⟨rfl, rfl⟩ -
            refine zb_iret bkMo_set_103 bdMo_set_103 rfl (x := sg1 395 ((803 + 9 * n) + 3)) (h' := zN (hTell (zup sg1 395 ((803 + 9 * n) + 3) v))) (Ps := []) rfl trivial rfl ?_
            have hw : w = 0 := by lia
            exact Or.inr (Or.inr (⟨hc, hd, sg1, hb, by rw [if_pos hw, fb 395 _ (by decide) (by decide) (by decide) (Or.inl (by decide))], by rw [if_pos hw]⟩))
        · skip
          refine zG_run bkMo_set_51 (lv' := [(0, .ref 393), (1, .int n), (2, .int w), (3, .int v)]) (st' := [.int (-2), .ref 393]) (h' := zN sg) (Ps := []) rfl trivial ?_
          refine zG_callv (a := 393) (c := 10) (As := [.int (-2)]) (rest := []) (N2 := 411) bdMo_set_54 okMo_refuse lk10_80 (And.intro (by decide) (by decide)) (by decide) rfl rfl rfl (Nat.le_of_ble_eq_true rfl) (Nat.le_of_ble_eq_true rfl) (Nat.le_refl 411) (Nat.le_refl 411) zob_393 (cMo_refuse (by decide) (by decide)) ?_
          rintro rr h' ⟨rfl, rfl⟩ -
          refine zb_iret bkMo_set_57 bdMo_set_57 rfl (x := (-2)) (h' := zN (hRef sg (-2))) (Ps := []) rfl trivial rfl ?_
          exact Or.inr (Or.inl ⟨rfl, rfl, by grind⟩)
      · skip
        refine zG_run bkMo_set_37 (lv' := [(0, .ref 393), (1, .int n), (2, .int w), (3, .int v)]) (st' := [.int (-1), .ref 393]) (h' := zN sg) (Ps := []) rfl trivial ?_
        refine zG_callv (a := 393) (c := 10) (As := [.int (-1)]) (rest := []) (N2 := 411) bdMo_set_39 okMo_refuse lk10_80 (And.intro (by decide) (by decide)) (by decide) rfl rfl rfl (Nat.le_of_ble_eq_true rfl) (Nat.le_of_ble_eq_true rfl) (Nat.le_refl 411) (Nat.le_refl 411) zob_393 (cMo_refuse (by decide) (by decide)) ?_
        rintro rr h' ⟨rfl, rfl⟩ -
        refine zb_iret bkMo_set_42 bdMo_set_42 rfl (x := (-1)) (h' := zN (hRef sg (-1))) (Ps := []) rfl trivial rfl ?_
        exact Or.inl ⟨rfl, rfl, by grind⟩
    · skip
      refine zG_run bkMo_set_22 (lv' := [(0, .ref 393), (1, .int n), (2, .int w), (3, .int v)]) (st' := [.long ((9 : Int32).toInt64), .long ((0 : Int32).toInt64), .long v.toInt64]) (h' := zN sg) (Ps := []) rfl trivial ?_
      refine zG_calls (As := [.long v.toInt64, .long ((0 : Int32).toInt64), .long ((9 : Int32).toInt64)]) (rest := []) (N2 := 411) bdMo_set_31 okMo_in lk10_87 (And.intro (by decide) (by decide)) rfl rfl (Nat.le_of_ble_eq_true rfl) (Nat.le_of_ble_eq_true rfl) (Nat.le_refl 411) (Nat.le_refl 411) cMo_inA ?_
      rintro rr h' ⟨rfl, rfl⟩ -
      refine zb_ifne (tgt := 43) bkMo_set_34 bdMo_set_34 (by decide) (lv' := [(0, .ref 393), (1, .int n), (2, .int w), (3, .int v)]) (st' := []) (h' := zN sg) (x := if 0 ≤ v ∧ v ≤ 9 then 1 else 0) (Ps := []) rfl trivial (fun c6 => ?_) (fun c6 => ?_)
      · skip
        have hc : (w = 0 ∧ 0 ≤ v ∧ v ≤ 9) ∨ (w = 1 ∧ 0 ≤ v ∧ v ≤ 3) := by grind
        refine zG_run bkMo_set_43 (lv' := [(0, .ref 393), (1, .int n), (2, .int w), (3, .int v)]) (st' := [.int n, .ref 393]) (h' := zN sg) (Ps := []) rfl trivial ?_
        refine zG_callv (a := 393) (c := 10) (As := [.int n]) (rest := []) (N2 := 411) bdMo_set_45 okMo_isSpan lk10_151 (And.intro (by decide) (by decide)) (by decide) rfl rfl rfl (Nat.le_of_ble_eq_true rfl) (Nat.le_of_ble_eq_true rfl) (Nat.le_refl 411) (Nat.le_refl 411) zob_393 (cMo_isSpan (by lia)) ?_
        rintro rr h' ⟨rfl, rfl⟩ -
        refine zb_ifne (tgt := 58) bkMo_set_48 bdMo_set_48 (by decide) (lv' := [(0, .ref 393), (1, .int n), (2, .int w), (3, .int v)]) (st' := []) (h' := zN sg) (x := if (0 ≤ n ∧ n < sg 395 1) ∧ sg 395 (803 + 9 * n) = 1 then 1 else 0) (Ps := []) rfl trivial (fun c7 => ?_) (fun c7 => ?_)
        · skip
          have hd : (0 ≤ n ∧ n < sg 395 1) ∧ sg 395 (803 + 9 * n) = 1 := by grind
          refine zG_run bkMo_set_58 (lv' := [(0, .ref 393), (1, .int n), (2, .int w), (3, .int v)]) (st' := [.int 5, .ref 393]) (h' := zN sg) (Ps := []) rfl trivial ?_
          refine zG_callv (a := 393) (c := 10) (As := [.int 5]) (rest := []) (N2 := 411) bdMo_set_60 okMo_remember lk10_127 (And.intro (by decide) (by decide)) (by decide) rfl rfl rfl (Nat.le_of_ble_eq_true rfl) (Nat.le_of_ble_eq_true rfl) (Nat.le_refl 411) (Nat.le_refl 411) zob_393 (cMo_remember (s := 5) b0 b1) ?_
          rintro rr h' ⟨sg1, rfl, rfl, hb⟩ -
          have fb := hb.1
          have ub := mRem_u b0 b1 hb
          have x0 : sg1 395 0 = sg 395 0 := fb 395 0 (by decide) (by decide) (by decide) (by decide)
          have x1 : sg1 395 1 = sg 395 1 := fb 395 1 (by decide) (by decide) (by decide) (by decide)
          have x2 : sg1 395 2 = sg 395 2 := fb 395 2 (by decide) (by decide) (by decide) (by decide)
          have xt : sg1 393 11 = sg 393 11 := fb 393 11 (by decide) (by decide) (by decide) (by decide)
          refine zG_run bkMo_set_63 (lv' := [(0, .ref 393), (1, .int n), (2, .int w), (3, .int v)]) (st' := [.int n]) (h' := zN sg1) (Ps := []) rfl trivial ?_
          refine zG_calls (As := [.int n]) (rest := []) (N2 := 411) bdMo_set_64 okMo_spanAt lk10_91 (And.intro (by decide) (by decide)) rfl rfl (Nat.le_of_ble_eq_true rfl) (Nat.le_of_ble_eq_true rfl) (Nat.le_refl 411) (Nat.le_refl 411) cMo_spanAt ?_
          rintro rr h' ⟨rfl, rfl⟩ -
          refine zb_ifne (tgt := 75) bkMo_set_67 bdMo_set_68 (by decide) (lv' := [(0, .ref 393), (1, .int n), (2, .int w), (3, .int v)]) (st' := [.int (803 + 9 * n)]) (h' := zN sg1) (x := w) (Ps := []) rfl trivial (fun c8 => ?_) (fun c8 => ?_)
          · skip
            refine zG_run bkMo_set_75 (lv' := [(5, .int (sg1 395 ((803 + 9 * n) + 8))), (4, .int ((803 + 9 * n) + 8)), (0, .ref 393), (1, .int n), (2, .int w), (3, .int v)]) (st' := [.int (sg1 395 ((803 + 9 * n) + 8)), .ref 393]) (h' := zN (zup sg1 395 ((803 + 9 * n) + 8) v)) (Ps := [zOb (zN sg1) 393 10 ∧ (zN sg1).2.2 393 3 = true, zInL (zN sg1) 395 ((803 + 9 * n) + 8), zOb (zN sg1) 393 10 ∧ (zN sg1).2.2 393 3 = true, zIn (zN sg1) 395 0 ((803 + 9 * n) + 8)]) rfl (zA ⟨zob_393, rfl⟩ (zA (zinL_395 (i := (803 + 9 * n) + 8) (by lia) (by lia)) (zA ⟨zob_393, rfl⟩ (zA (zin_395 (i := (803 + 9 * n) + 8) (by lia) (by lia)) trivial)))) ?_
            refine zG_callv (a := 393) (c := 10) (As := [.int (sg1 395 ((803 + 9 * n) + 8))]) (rest := []) (N2 := 411) bdMo_set_100 okMo_tell lk10_84 (And.intro (by decide) (by decide)) (by decide) rfl rfl rfl (Nat.le_of_ble_eq_true rfl) (Nat.le_of_ble_eq_true rfl) (Nat.le_refl 411) (Nat.le_refl 411) zob_393 cMo_tell ?_
            rintro rr h' ⟨rfl, rfl⟩ -
            refine zb_iret bkMo_set_103 bdMo_set_103 rfl (x := sg1 395 ((803 + 9 * n) + 8)) (h' := zN (hTell (zup sg1 395 ((803 + 9 * n) + 8) v))) (Ps := []) rfl trivial rfl ?_
            have hw : ¬ w = 0 := by lia
            exact Or.inr (Or.inr (⟨hc, hd, sg1, hb, by rw [if_neg hw, fb 395 _ (by decide) (by decide) (by decide) (Or.inl (by decide))], by rw [if_neg hw]⟩))
          · skip
            refine zG_run bkMo_set_71 (lv' := [(5, .int (sg1 395 ((803 + 9 * n) + 3))), (4, .int ((803 + 9 * n) + 3)), (0, .ref 393), (1, .int n), (2, .int w), (3, .int v)]) (st' := [.int (sg1 395 ((803 + 9 * n) + 3)), .ref 393]) (h' := zN (zup sg1 395 ((803 + 9 * n) + 3) v)) (Ps := [zOb (zN sg1) 393 10 ∧ (zN sg1).2.2 393 3 = true, zInL (zN sg1) 395 ((803 + 9 * n) + 3), zOb (zN sg1) 393 10 ∧ (zN sg1).2.2 393 3 = true, zIn (zN sg1) 395 0 ((803 + 9 * n) + 3)]) rfl (zA ⟨zob_393, rfl⟩ (zA (zinL_395 (i := (803 + 9 * n) + 3) (by lia) (by lia)) (zA ⟨zob_393, rfl⟩ (zA (zin_395 (i := (803 + 9 * n) + 3) (by lia) (by lia)) trivial)))) ?_
            refine zG_callv (a := 393) (c := 10) (As := [.int (sg1 395 ((803 + 9 * n) + 3))]) (rest := []) (N2 := 411) bdMo_set_100 okMo_tell lk10_84 (And.intro (by decide) (by decide)) (by decide) rfl rfl rfl (Nat.le_of_ble_eq_true rfl) (Nat.le_of_ble_eq_true rfl) (Nat.le_refl 411) (Nat.le_refl 411) zob_393 cMo_tell ?_
            rintro rr h' ⟨rfl, rfl⟩ -
            refine zb_iret bkMo_set_103 bdMo_set_103 rfl (x := sg1 395 ((803 + 9 * n) + 3)) (h' := zN (hTell (zup sg1 395 ((803 + 9 * n) + 3) v))) (Ps := []) rfl trivial rfl ?_
            have hw : w = 0 := by lia
            exact Or.inr (Or.inr (⟨hc, hd, sg1, hb, by rw [if_pos hw, fb 395 _ (by decide) (by decide) (by decide) (Or.inl (by decide))], by rw [if_pos hw]⟩))
        · skip
          refine zG_run bkMo_set_51 (lv' := [(0, .ref 393), (1, .int n), (2, .int w), (3, .int v)]) (st' := [.int (-2), .ref 393]) (h' := zN sg) (Ps := []) rfl trivial ?_
          refine zG_callv (a := 393) (c := 10) (As := [.int (-2)]) (rest := []) (N2 := 411) bdMo_set_54 okMo_refuse lk10_80 (And.intro (by decide) (by decide)) (by decide) rfl rfl rfl (Nat.le_of_ble_eq_true rfl) (Nat.le_of_ble_eq_true rfl) (Nat.le_refl 411) (Nat.le_refl 411) zob_393 (cMo_refuse (by decide) (by decide)) ?_
          rintro rr h' ⟨rfl, rfl⟩ -
          refine zb_iret bkMo_set_57 bdMo_set_57 rfl (x := (-2)) (h' := zN (hRef sg (-2))) (Ps := []) rfl trivial rfl ?_
          exact Or.inr (Or.inl ⟨rfl, rfl, by grind⟩)
      · skip
        refine zG_run bkMo_set_37 (lv' := [(0, .ref 393), (1, .int n), (2, .int w), (3, .int v)]) (st' := [.int (-1), .ref 393]) (h' := zN sg) (Ps := []) rfl trivial ?_
        refine zG_callv (a := 393) (c := 10) (As := [.int (-1)]) (rest := []) (N2 := 411) bdMo_set_39 okMo_refuse lk10_80 (And.intro (by decide) (by decide)) (by decide) rfl rfl rfl (Nat.le_of_ble_eq_true rfl) (Nat.le_of_ble_eq_true rfl) (Nat.le_refl 411) (Nat.le_refl 411) zob_393 (cMo_refuse (by decide) (by decide)) ?_
        rintro rr h' ⟨rfl, rfl⟩ -
        refine zb_iret bkMo_set_42 bdMo_set_42 rfl (x := (-1)) (h' := zN (hRef sg (-1))) (Ps := []) rfl trivial rfl ?_
        exact Or.inl ⟨rfl, rfl, by grind⟩
theorem tMo_set {sg : zSig} {n w v : Int32} {Q : Option Value → zHp → Prop} (g : zG mMo_set 411 Q 5 [(0, .ref 393), (1, .int n), (2, .int w), (3, .int v)] [] (zN (zup sg 393 0 0))) : zG mMo_set 411 Q 0 [(0, .ref 393), (1, .int n), (2, .int w), (3, .int v)] [] (zN sg) :=
  zG_run bkMo_set_0 (lv' := [(0, .ref 393), (1, .int n), (2, .int w), (3, .int v)]) (st' := []) (h' := zN (zup sg 393 0 0)) (Ps := [zOb (zN sg) 393 10]) rfl (zA zob_393 trivial) g
def mLay (sg : zSig) (n f t la on of co gr si : Int32) : zSig := zup (zup (zup (zup (zup (zup (zup (zup (zup (zup (sg) 395 (803 + 9 * n) 1) 395 (803 + 9 * n + 1) f) 395 (803 + 9 * n + 2) t) 395 (803 + 9 * n + 3) la) 395 (803 + 9 * n + 4) on) 395 (803 + 9 * n + 5) of) 395 (803 + 9 * n + 6) (co + 1)) 395 (803 + 9 * n + 7) gr) 395 (803 + 9 * n + 8) si) 395 1 (n + 1)
def mPin (sg : zSig) (n p l : Int32) : zSig := zup (zup (zup (zup (zup (sg) 395 (947 + 4 * n) 1) 395 (947 + 4 * n + 1) p) 395 (947 + 4 * n + 2) l) 395 (947 + 4 * n + 3) 0) 395 2 (n + 1)
theorem bkMo_lay_5 : zBk mMo_lay 5 [(1, 0, 1, 0, 0), (1, 1, 0, 0, 0), (1, 2, 0, 0, 0)] = some 8 := by decide +kernel
theorem bkMo_lay_11 : zBk mMo_lay 11 [] = some 11 := by decide +kernel
theorem bkMo_lay_53 : zBk mMo_lay 53 [(1, 0, 1, 0, 0), (0, 0, 0, 0, -1)] = some 55 := by decide +kernel
theorem bkMo_lay_58 : zBk mMo_lay 58 [] = some 58 := by decide +kernel
theorem bkMo_lay_14 : zBk mMo_lay 14 [(1, 3, 0, 0, 0), (14, 0, 0, 0, 0), (15, 0, 0, 0, 0), (15, 0, 0, 0, 9)] = some 20 := by decide +kernel
theorem bkMo_lay_23 : zBk mMo_lay 23 [] = some 23 := by decide +kernel
theorem bkMo_lay_26 : zBk mMo_lay 26 [(1, 4, 0, 0, 0), (1, 5, 0, 0, 0), (1, 6, 0, 0, 0), (1, 7, 0, 0, 0)] = some 34 := by decide +kernel
theorem bkMo_lay_37 : zBk mMo_lay 37 [] = some 37 := by decide +kernel
theorem bkMo_lay_40 : zBk mMo_lay 40 [(1, 8, 0, 0, 0), (14, 0, 0, 0, 0), (15, 0, 0, 0, 0), (15, 0, 0, 0, 3)] = some 47 := by decide +kernel
theorem bkMo_lay_50 : zBk mMo_lay 50 [] = some 50 := by decide +kernel
theorem bkMo_lay_59 : zBk mMo_lay 59 [(1, 0, 1, 0, 0), (5, 10, 3, 2, 3), (0, 0, 0, 0, 1), (7, 0, 0, 0, 0), (2, 9, 0, 0, 0), (1, 9, 0, 0, 0), (0, 0, 0, 0, 16)] = some 71 := by decide +kernel
theorem bkMo_lay_81 : zBk mMo_lay 81 [(1, 0, 1, 0, 0), (0, 0, 0, 0, 3)] = some 83 := by decide +kernel
theorem bkMo_lay_86 : zBk mMo_lay 86 [(1, 9, 0, 0, 0)] = some 88 := by decide +kernel
theorem bkMo_lay_91 : zBk mMo_lay 91 [(2, 10, 0, 0, 0), (1, 0, 1, 0, 0), (5, 10, 3, 2, 3), (1, 10, 0, 0, 0), (0, 0, 0, 0, 1), (8, 0, 0, 0, 0), (1, 0, 1, 0, 0), (5, 10, 3, 2, 3), (1, 10, 0, 0, 0), (0, 0, 0, 0, 1), (4, 0, 0, 0, 0), (1, 1, 0, 0, 0), (8, 0, 0, 0, 0), (1, 0, 1, 0, 0), (5, 10, 3, 2, 3), (1, 10, 0, 0, 0), (0, 0, 0, 0, 2), (4, 0, 0, 0, 0), (1, 2, 0, 0, 0), (8, 0, 0, 0, 0), (1, 0, 1, 0, 0), (5, 10, 3, 2, 3), (1, 10, 0, 0, 0), (0, 0, 0, 0, 3), (4, 0, 0, 0, 0), (1, 3, 0, 0, 0), (8, 0, 0, 0, 0), (1, 0, 1, 0, 0), (5, 10, 3, 2, 3), (1, 10, 0, 0, 0), (0, 0, 0, 0, 4), (4, 0, 0, 0, 0), (1, 4, 0, 0, 0), (8, 0, 0, 0, 0), (1, 0, 1, 0, 0), (5, 10, 3, 2, 3), (1, 10, 0, 0, 0), (0, 0, 0, 0, 5), (4, 0, 0, 0, 0), (1, 5, 0, 0, 0), (8, 0, 0, 0, 0), (1, 0, 1, 0, 0), (5, 10, 3, 2, 3), (1, 10, 0, 0, 0), (0, 0, 0, 0, 6), (4, 0, 0, 0, 0), (1, 6, 0, 0, 0), (0, 0, 0, 0, 1), (4, 0, 0, 0, 0), (8, 0, 0, 0, 0), (1, 0, 1, 0, 0), (5, 10, 3, 2, 3), (1, 10, 0, 0, 0), (0, 0, 0, 0, 7), (4, 0, 0, 0, 0), (1, 7, 0, 0, 0), (8, 0, 0, 0, 0), (1, 0, 1, 0, 0), (5, 10, 3, 2, 3), (1, 10, 0, 0, 0), (0, 0, 0, 0, 8), (4, 0, 0, 0, 0), (1, 8, 0, 0, 0), (8, 0, 0, 0, 0), (1, 0, 1, 0, 0), (5, 10, 3, 2, 3), (0, 0, 0, 0, 1), (19, 0, 0, 0, 0), (7, 0, 0, 0, 0), (0, 0, 0, 0, 1), (4, 0, 0, 0, 0), (8, 0, 0, 0, 0), (1, 0, 1, 0, 0), (1, 9, 0, 0, 0)] = some 204 := by decide +kernel
theorem bkMo_lay_207 : zBk mMo_lay 207 [] = some 207 := by decide +kernel
theorem bkMo_lay_74 : zBk mMo_lay 74 [(1, 0, 1, 0, 0), (0, 0, 0, 0, -5)] = some 77 := by decide +kernel
theorem bkMo_lay_80 : zBk mMo_lay 80 [] = some 80 := by decide +kernel
theorem bkMo_lay_0 : zBk mMo_lay 0 [(1, 0, 1, 0, 0), (0, 0, 0, 0, 0), (6, 10, 0, 0, 0)] = some 5 := by decide +kernel
theorem bdMo_lay_8 : decode mMo_lay.2.2.1 8 = .ok (.invokevirtual 144, 3) := by decide +kernel
theorem bdMo_lay_11 : decode mMo_lay.2.2.1 11 = .ok (.ifCond .eq 42, 3) := by decide +kernel
theorem bdMo_lay_20 : decode mMo_lay.2.2.1 20 = .ok (.invokestatic 87, 3) := by decide +kernel
theorem bdMo_lay_23 : decode mMo_lay.2.2.1 23 = .ok (.ifCond .eq 30, 3) := by decide +kernel
theorem bdMo_lay_34 : decode mMo_lay.2.2.1 34 = .ok (.invokestatic 169, 3) := by decide +kernel
theorem bdMo_lay_37 : decode mMo_lay.2.2.1 37 = .ok (.ifCond .eq 16, 3) := by decide +kernel
theorem bdMo_lay_47 : decode mMo_lay.2.2.1 47 = .ok (.invokestatic 87, 3) := by decide +kernel
theorem bdMo_lay_50 : decode mMo_lay.2.2.1 50 = .ok (.ifCond .ne 9, 3) := by decide +kernel
theorem bdMo_lay_55 : decode mMo_lay.2.2.1 55 = .ok (.invokevirtual 80, 3) := by decide +kernel
theorem bdMo_lay_58 : decode mMo_lay.2.2.1 58 = .ok (.ireturn, 1) := by decide +kernel
theorem bdMo_lay_71 : decode mMo_lay.2.2.1 71 = .ok (.if_icmp .ne 10, 3) := by decide +kernel
theorem bdMo_lay_77 : decode mMo_lay.2.2.1 77 = .ok (.invokevirtual 80, 3) := by decide +kernel
theorem bdMo_lay_80 : decode mMo_lay.2.2.1 80 = .ok (.ireturn, 1) := by decide +kernel
theorem bdMo_lay_83 : decode mMo_lay.2.2.1 83 = .ok (.invokevirtual 127, 3) := by decide +kernel
theorem bdMo_lay_88 : decode mMo_lay.2.2.1 88 = .ok (.invokestatic 91, 3) := by decide +kernel
theorem bdMo_lay_204 : decode mMo_lay.2.2.1 204 = .ok (.invokevirtual 84, 3) := by decide +kernel
theorem bdMo_lay_207 : decode mMo_lay.2.2.1 207 = .ok (.ireturn, 1) := by decide +kernel
set_option maxRecDepth 8000 in
theorem bMo_lay {sg : zSig} {f t la on of co gr si : Int32} (n0 : 0 ≤ sg 395 0) (n2 : sg 395 0 ≤ 200) (g0 : 0 ≤ sg 395 1) (g1 : sg 395 1 ≤ 16) (a0 : 0 ≤ sg 395 2) (a1 : sg 395 2 ≤ 12) (b0 : 0 ≤ sg 393 6) (b1 : sg 393 6 ≤ 8) : zG mMo_lay 411 (fun rr h' => (rr = some (.int (-1)) ∧ h' = zN (hRef sg (-1)) ∧ (¬ ((0 ≤ f ∧ f < t ∧ t ≤ sg 395 0) ∧ (0 ≤ la ∧ la ≤ 9) ∧ (0 ≤ si ∧ si ≤ 3) ∧ (0 ≤ on ∧ on ≤ 15) ∧ (0 ≤ of ∧ of ≤ 15) ∧ (-1 ≤ co ∧ co ≤ 7) ∧ -3 ≤ gr ∧ gr ≤ 3))) ∨ (rr = some (.int (-5)) ∧ h' = zN (hRef sg (-5)) ∧ (((0 ≤ f ∧ f < t ∧ t ≤ sg 395 0) ∧ (0 ≤ la ∧ la ≤ 9) ∧ (0 ≤ si ∧ si ≤ 3) ∧ (0 ≤ on ∧ on ≤ 15) ∧ (0 ≤ of ∧ of ≤ 15) ∧ (-1 ≤ co ∧ co ≤ 7) ∧ -3 ≤ gr ∧ gr ≤ 3) ∧ sg 395 1 = 16)) ∨ (((0 ≤ f ∧ f < t ∧ t ≤ sg 395 0) ∧ (0 ≤ la ∧ la ≤ 9) ∧ (0 ≤ si ∧ si ≤ 3) ∧ (0 ≤ on ∧ on ≤ 15) ∧ (0 ≤ of ∧ of ≤ 15) ∧ (-1 ≤ co ∧ co ≤ 7) ∧ -3 ≤ gr ∧ gr ≤ 3) ∧ sg 395 1 < 16 ∧ ∃ sg1, mRem sg sg1 3 ∧ rr = some (.int (sg 395 1)) ∧ h' = zN (hTell (mLay sg1 (sg 395 1) f t la on of co gr si)))) 5 [(0, .ref 393), (1, .int f), (2, .int t), (3, .int la), (4, .int on), (5, .int of), (6, .int co), (7, .int gr), (8, .int si)] [] (zN sg) := by
  refine zG_run bkMo_lay_5 (lv' := [(0, .ref 393), (1, .int f), (2, .int t), (3, .int la), (4, .int on), (5, .int of), (6, .int co), (7, .int gr), (8, .int si)]) (st' := [.int t, .int f, .ref 393]) (h' := zN sg) (Ps := []) rfl trivial ?_
  refine zG_callv (a := 393) (c := 10) (As := [.int f, .int t]) (rest := []) (N2 := 411) bdMo_lay_8 okMo_isRange lk10_144 (And.intro (by decide) (by decide)) (by decide) rfl rfl rfl (Nat.le_of_ble_eq_true rfl) (Nat.le_of_ble_eq_true rfl) (Nat.le_refl 411) (Nat.le_refl 411) zob_393 cMo_isRange ?_
  rintro rr h' ⟨rfl, rfl⟩ -
  refine zb_ifeq (tgt := 53) bkMo_lay_11 bdMo_lay_11 (by decide) (lv' := [(0, .ref 393), (1, .int f), (2, .int t), (3, .int la), (4, .int on), (5, .int of), (6, .int co), (7, .int gr), (8, .int si)]) (st' := []) (h' := zN sg) (x := if 0 ≤ f ∧ f < t ∧ t ≤ sg 395 0 then 1 else 0) (Ps := []) rfl trivial (fun c1 => ?_) (fun c1 => ?_)
  · skip
    refine zG_run bkMo_lay_53 (lv' := [(0, .ref 393), (1, .int f), (2, .int t), (3, .int la), (4, .int on), (5, .int of), (6, .int co), (7, .int gr), (8, .int si)]) (st' := [.int (-1), .ref 393]) (h' := zN sg) (Ps := []) rfl trivial ?_
    refine zG_callv (a := 393) (c := 10) (As := [.int (-1)]) (rest := []) (N2 := 411) bdMo_lay_55 okMo_refuse lk10_80 (And.intro (by decide) (by decide)) (by decide) rfl rfl rfl (Nat.le_of_ble_eq_true rfl) (Nat.le_of_ble_eq_true rfl) (Nat.le_refl 411) (Nat.le_refl 411) zob_393 (cMo_refuse (by decide) (by decide)) ?_
    rintro rr h' ⟨rfl, rfl⟩ -
    refine zb_iret bkMo_lay_58 bdMo_lay_58 rfl (x := (-1)) (h' := zN (hRef sg (-1))) (Ps := []) rfl trivial rfl ?_
    exact Or.inl ⟨rfl, rfl, by grind⟩
  · skip
    refine zG_run bkMo_lay_14 (lv' := [(0, .ref 393), (1, .int f), (2, .int t), (3, .int la), (4, .int on), (5, .int of), (6, .int co), (7, .int gr), (8, .int si)]) (st' := [.long ((9 : Int32).toInt64), .long ((0 : Int32).toInt64), .long la.toInt64]) (h' := zN sg) (Ps := []) rfl trivial ?_
    refine zG_calls (As := [.long la.toInt64, .long ((0 : Int32).toInt64), .long ((9 : Int32).toInt64)]) (rest := []) (N2 := 411) bdMo_lay_20 okMo_in lk10_87 (And.intro (by decide) (by decide)) rfl rfl (Nat.le_of_ble_eq_true rfl) (Nat.le_of_ble_eq_true rfl) (Nat.le_refl 411) (Nat.le_refl 411) cMo_inA ?_
    rintro rr h' ⟨rfl, rfl⟩ -
    refine zb_ifeq (tgt := 53) bkMo_lay_23 bdMo_lay_23 (by decide) (lv' := [(0, .ref 393), (1, .int f), (2, .int t), (3, .int la), (4, .int on), (5, .int of), (6, .int co), (7, .int gr), (8, .int si)]) (st' := []) (h' := zN sg) (x := if 0 ≤ la ∧ la ≤ 9 then 1 else 0) (Ps := []) rfl trivial (fun c2 => ?_) (fun c2 => ?_)
    · skip
      refine zG_run bkMo_lay_53 (lv' := [(0, .ref 393), (1, .int f), (2, .int t), (3, .int la), (4, .int on), (5, .int of), (6, .int co), (7, .int gr), (8, .int si)]) (st' := [.int (-1), .ref 393]) (h' := zN sg) (Ps := []) rfl trivial ?_
      refine zG_callv (a := 393) (c := 10) (As := [.int (-1)]) (rest := []) (N2 := 411) bdMo_lay_55 okMo_refuse lk10_80 (And.intro (by decide) (by decide)) (by decide) rfl rfl rfl (Nat.le_of_ble_eq_true rfl) (Nat.le_of_ble_eq_true rfl) (Nat.le_refl 411) (Nat.le_refl 411) zob_393 (cMo_refuse (by decide) (by decide)) ?_
      rintro rr h' ⟨rfl, rfl⟩ -
      refine zb_iret bkMo_lay_58 bdMo_lay_58 rfl (x := (-1)) (h' := zN (hRef sg (-1))) (Ps := []) rfl trivial rfl ?_
      exact Or.inl ⟨rfl, rfl, by grind⟩
    · skip
      refine zG_run bkMo_lay_26 (lv' := [(0, .ref 393), (1, .int f), (2, .int t), (3, .int la), (4, .int on), (5, .int of), (6, .int co), (7, .int gr), (8, .int si)]) (st' := [.int gr, .int co, .int of, .int on]) (h' := zN sg) (Ps := []) rfl trivial ?_
      refine zG_calls (As := [.int on, .int of, .int co, .int gr]) (rest := []) (N2 := 411) bdMo_lay_34 okMo_isLook lk10_169 (And.intro (by decide) (by decide)) rfl rfl (Nat.le_of_ble_eq_true rfl) (Nat.le_of_ble_eq_true rfl) (Nat.le_refl 411) (Nat.le_refl 411) cMo_isLook ?_
      rintro rr h' ⟨rfl, rfl⟩ -
      refine zb_ifeq (tgt := 53) bkMo_lay_37 bdMo_lay_37 (by decide) (lv' := [(0, .ref 393), (1, .int f), (2, .int t), (3, .int la), (4, .int on), (5, .int of), (6, .int co), (7, .int gr), (8, .int si)]) (st' := []) (h' := zN sg) (x := if (0 ≤ on ∧ on ≤ 15) ∧ (0 ≤ of ∧ of ≤ 15) ∧ (-1 ≤ co ∧ co ≤ 7) ∧ -3 ≤ gr ∧ gr ≤ 3 then 1 else 0) (Ps := []) rfl trivial (fun c3 => ?_) (fun c3 => ?_)
      · skip
        refine zG_run bkMo_lay_53 (lv' := [(0, .ref 393), (1, .int f), (2, .int t), (3, .int la), (4, .int on), (5, .int of), (6, .int co), (7, .int gr), (8, .int si)]) (st' := [.int (-1), .ref 393]) (h' := zN sg) (Ps := []) rfl trivial ?_
        refine zG_callv (a := 393) (c := 10) (As := [.int (-1)]) (rest := []) (N2 := 411) bdMo_lay_55 okMo_refuse lk10_80 (And.intro (by decide) (by decide)) (by decide) rfl rfl rfl (Nat.le_of_ble_eq_true rfl) (Nat.le_of_ble_eq_true rfl) (Nat.le_refl 411) (Nat.le_refl 411) zob_393 (cMo_refuse (by decide) (by decide)) ?_
        rintro rr h' ⟨rfl, rfl⟩ -
        refine zb_iret bkMo_lay_58 bdMo_lay_58 rfl (x := (-1)) (h' := zN (hRef sg (-1))) (Ps := []) rfl trivial rfl ?_
        exact Or.inl ⟨rfl, rfl, by grind⟩
      · skip
        refine zG_run bkMo_lay_40 (lv' := [(0, .ref 393), (1, .int f), (2, .int t), (3, .int la), (4, .int on), (5, .int of), (6, .int co), (7, .int gr), (8, .int si)]) (st' := [.long ((3 : Int32).toInt64), .long ((0 : Int32).toInt64), .long si.toInt64]) (h' := zN sg) (Ps := []) rfl trivial ?_
        refine zG_calls (As := [.long si.toInt64, .long ((0 : Int32).toInt64), .long ((3 : Int32).toInt64)]) (rest := []) (N2 := 411) bdMo_lay_47 okMo_in lk10_87 (And.intro (by decide) (by decide)) rfl rfl (Nat.le_of_ble_eq_true rfl) (Nat.le_of_ble_eq_true rfl) (Nat.le_refl 411) (Nat.le_refl 411) cMo_inA ?_
        rintro rr h' ⟨rfl, rfl⟩ -
        refine zb_ifne (tgt := 59) bkMo_lay_50 bdMo_lay_50 (by decide) (lv' := [(0, .ref 393), (1, .int f), (2, .int t), (3, .int la), (4, .int on), (5, .int of), (6, .int co), (7, .int gr), (8, .int si)]) (st' := []) (h' := zN sg) (x := if 0 ≤ si ∧ si ≤ 3 then 1 else 0) (Ps := []) rfl trivial (fun c4 => ?_) (fun c4 => ?_)
        · skip
          have hc : (0 ≤ f ∧ f < t ∧ t ≤ sg 395 0) ∧ (0 ≤ la ∧ la ≤ 9) ∧ (0 ≤ si ∧ si ≤ 3) ∧ (0 ≤ on ∧ on ≤ 15) ∧ (0 ≤ of ∧ of ≤ 15) ∧ (-1 ≤ co ∧ co ≤ 7) ∧ -3 ≤ gr ∧ gr ≤ 3 := by grind (splits := 40)
          refine zb_icne (tgt := 81) bkMo_lay_59 bdMo_lay_71 (by decide) (lv' := [(9, .int (sg 395 1)), (0, .ref 393), (1, .int f), (2, .int t), (3, .int la), (4, .int on), (5, .int of), (6, .int co), (7, .int gr), (8, .int si)]) (st' := []) (h' := zN sg) (x := sg 395 1) (y := 16) (Ps := [zOb (zN sg) 393 10 ∧ (zN sg).2.2 393 3 = true, zInL (zN sg) 395 1]) rfl (zA ⟨zob_393, rfl⟩ (zA (zinL_395 (i := 1) (by decide) (by decide)) trivial)) (fun c5 => ?_) (fun c5 => ?_)
          · skip
            have hd : sg 395 1 < 16 := by lia
            refine zG_run bkMo_lay_81 (lv' := [(9, .int (sg 395 1)), (0, .ref 393), (1, .int f), (2, .int t), (3, .int la), (4, .int on), (5, .int of), (6, .int co), (7, .int gr), (8, .int si)]) (st' := [.int 3, .ref 393]) (h' := zN sg) (Ps := []) rfl trivial ?_
            refine zG_callv (a := 393) (c := 10) (As := [.int 3]) (rest := []) (N2 := 411) bdMo_lay_83 okMo_remember lk10_127 (And.intro (by decide) (by decide)) (by decide) rfl rfl rfl (Nat.le_of_ble_eq_true rfl) (Nat.le_of_ble_eq_true rfl) (Nat.le_refl 411) (Nat.le_refl 411) zob_393 (cMo_remember (s := 3) b0 b1) ?_
            rintro rr h' ⟨sg1, rfl, rfl, hb⟩ -
            have fb := hb.1
            have ub := mRem_u b0 b1 hb
            have x0 : sg1 395 0 = sg 395 0 := fb 395 0 (by decide) (by decide) (by decide) (by decide)
            have x1 : sg1 395 1 = sg 395 1 := fb 395 1 (by decide) (by decide) (by decide) (by decide)
            have x2 : sg1 395 2 = sg 395 2 := fb 395 2 (by decide) (by decide) (by decide) (by decide)
            have xt : sg1 393 11 = sg 393 11 := fb 393 11 (by decide) (by decide) (by decide) (by decide)
            refine zG_run bkMo_lay_86 (lv' := [(9, .int (sg 395 1)), (0, .ref 393), (1, .int f), (2, .int t), (3, .int la), (4, .int on), (5, .int of), (6, .int co), (7, .int gr), (8, .int si)]) (st' := [.int (sg 395 1)]) (h' := zN sg1) (Ps := []) rfl trivial ?_
            refine zG_calls (As := [.int (sg 395 1)]) (rest := []) (N2 := 411) bdMo_lay_88 okMo_spanAt lk10_91 (And.intro (by decide) (by decide)) rfl rfl (Nat.le_of_ble_eq_true rfl) (Nat.le_of_ble_eq_true rfl) (Nat.le_refl 411) (Nat.le_refl 411) cMo_spanAt ?_
            rintro rr h' ⟨rfl, rfl⟩ -
            refine zG_run bkMo_lay_91 (lv' := [(10, .int (803 + 9 * (sg 395 1))), (9, .int (sg 395 1)), (0, .ref 393), (1, .int f), (2, .int t), (3, .int la), (4, .int on), (5, .int of), (6, .int co), (7, .int gr), (8, .int si)]) (st' := [.int (sg 395 1), .ref 393]) (h' := zN (zup (zup (zup (zup (zup (zup (zup (zup (zup (zup sg1 395 (803 + 9 * (sg 395 1)) 1) 395 ((803 + 9 * (sg 395 1)) + 1) f) 395 ((803 + 9 * (sg 395 1)) + 2) t) 395 ((803 + 9 * (sg 395 1)) + 3) la) 395 ((803 + 9 * (sg 395 1)) + 4) on) 395 ((803 + 9 * (sg 395 1)) + 5) of) 395 ((803 + 9 * (sg 395 1)) + 6) (co + 1)) 395 ((803 + 9 * (sg 395 1)) + 7) gr) 395 ((803 + 9 * (sg 395 1)) + 8) si) 395 1 (((zup (zup (zup (zup (zup (zup (zup (zup (zup sg1 395 (803 + 9 * (sg 395 1)) 1) 395 ((803 + 9 * (sg 395 1)) + 1) f) 395 ((803 + 9 * (sg 395 1)) + 2) t) 395 ((803 + 9 * (sg 395 1)) + 3) la) 395 ((803 + 9 * (sg 395 1)) + 4) on) 395 ((803 + 9 * (sg 395 1)) + 5) of) 395 ((803 + 9 * (sg 395 1)) + 6) (co + 1)) 395 ((803 + 9 * (sg 395 1)) + 7) gr) 395 ((803 + 9 * (sg 395 1)) + 8) si) 395 1) + 1))) (Ps := [zOb (zN sg1) 393 10 ∧ (zN sg1).2.2 393 3 = true, zIn (zN sg1) 395 0 (803 + 9 * (sg 395 1)), zOb (zN (zup sg1 395 (803 + 9 * (sg 395 1)) 1)) 393 10 ∧ (zN (zup sg1 395 (803 + 9 * (sg 395 1)) 1)).2.2 393 3 = true, zIn (zN (zup sg1 395 (803 + 9 * (sg 395 1)) 1)) 395 0 ((803 + 9 * (sg 395 1)) + 1), zOb (zN (zup (zup sg1 395 (803 + 9 * (sg 395 1)) 1) 395 ((803 + 9 * (sg 395 1)) + 1) f)) 393 10 ∧ (zN (zup (zup sg1 395 (803 + 9 * (sg 395 1)) 1) 395 ((803 + 9 * (sg 395 1)) + 1) f)).2.2 393 3 = true, zIn (zN (zup (zup sg1 395 (803 + 9 * (sg 395 1)) 1) 395 ((803 + 9 * (sg 395 1)) + 1) f)) 395 0 ((803 + 9 * (sg 395 1)) + 2), zOb (zN (zup (zup (zup sg1 395 (803 + 9 * (sg 395 1)) 1) 395 ((803 + 9 * (sg 395 1)) + 1) f) 395 ((803 + 9 * (sg 395 1)) + 2) t)) 393 10 ∧ (zN (zup (zup (zup sg1 395 (803 + 9 * (sg 395 1)) 1) 395 ((803 + 9 * (sg 395 1)) + 1) f) 395 ((803 + 9 * (sg 395 1)) + 2) t)).2.2 393 3 = true, zIn (zN (zup (zup (zup sg1 395 (803 + 9 * (sg 395 1)) 1) 395 ((803 + 9 * (sg 395 1)) + 1) f) 395 ((803 + 9 * (sg 395 1)) + 2) t)) 395 0 ((803 + 9 * (sg 395 1)) + 3), zOb (zN (zup (zup (zup (zup sg1 395 (803 + 9 * (sg 395 1)) 1) 395 ((803 + 9 * (sg 395 1)) + 1) f) 395 ((803 + 9 * (sg 395 1)) + 2) t) 395 ((803 + 9 * (sg 395 1)) + 3) la)) 393 10 ∧ (zN (zup (zup (zup (zup sg1 395 (803 + 9 * (sg 395 1)) 1) 395 ((803 + 9 * (sg 395 1)) + 1) f) 395 ((803 + 9 * (sg 395 1)) + 2) t) 395 ((803 + 9 * (sg 395 1)) + 3) la)).2.2 393 3 = true, zIn (zN (zup (zup (zup (zup sg1 395 (803 + 9 * (sg 395 1)) 1) 395 ((803 + 9 * (sg 395 1)) + 1) f) 395 ((803 + 9 * (sg 395 1)) + 2) t) 395 ((803 + 9 * (sg 395 1)) + 3) la)) 395 0 ((803 + 9 * (sg 395 1)) + 4), zOb (zN (zup (zup (zup (zup (zup sg1 395 (803 + 9 * (sg 395 1)) 1) 395 ((803 + 9 * (sg 395 1)) + 1) f) 395 ((803 + 9 * (sg 395 1)) + 2) t) 395 ((803 + 9 * (sg 395 1)) + 3) la) 395 ((803 + 9 * (sg 395 1)) + 4) on)) 393 10 ∧ (zN (zup (zup (zup (zup (zup sg1 395 (803 + 9 * (sg 395 1)) 1) 395 ((803 + 9 * (sg 395 1)) + 1) f) 395 ((803 + 9 * (sg 395 1)) + 2) t) 395 ((803 + 9 * (sg 395 1)) + 3) la) 395 ((803 + 9 * (sg 395 1)) + 4) on)).2.2 393 3 = true, zIn (zN (zup (zup (zup (zup (zup sg1 395 (803 + 9 * (sg 395 1)) 1) 395 ((803 + 9 * (sg 395 1)) + 1) f) 395 ((803 + 9 * (sg 395 1)) + 2) t) 395 ((803 + 9 * (sg 395 1)) + 3) la) 395 ((803 + 9 * (sg 395 1)) + 4) on)) 395 0 ((803 + 9 * (sg 395 1)) + 5), zOb (zN (zup (zup (zup (zup (zup (zup sg1 395 (803 + 9 * (sg 395 1)) 1) 395 ((803 + 9 * (sg 395 1)) + 1) f) 395 ((803 + 9 * (sg 395 1)) + 2) t) 395 ((803 + 9 * (sg 395 1)) + 3) la) 395 ((803 + 9 * (sg 395 1)) + 4) on) 395 ((803 + 9 * (sg 395 1)) + 5) of)) 393 10 ∧ (zN (zup (zup (zup (zup (zup (zup sg1 395 (803 + 9 * (sg 395 1)) 1) 395 ((803 + 9 * (sg 395 1)) + 1) f) 395 ((803 + 9 * (sg 395 1)) + 2) t) 395 ((803 + 9 * (sg 395 1)) + 3) la) 395 ((803 + 9 * (sg 395 1)) + 4) on) 395 ((803 + 9 * (sg 395 1)) + 5) of)).2.2 393 3 = true, zIn (zN (zup (zup (zup (zup (zup (zup sg1 395 (803 + 9 * (sg 395 1)) 1) 395 ((803 + 9 * (sg 395 1)) + 1) f) 395 ((803 + 9 * (sg 395 1)) + 2) t) 395 ((803 + 9 * (sg 395 1)) + 3) la) 395 ((803 + 9 * (sg 395 1)) + 4) on) 395 ((803 + 9 * (sg 395 1)) + 5) of)) 395 0 ((803 + 9 * (sg 395 1)) + 6), zOb (zN (zup (zup (zup (zup (zup (zup (zup sg1 395 (803 + 9 * (sg 395 1)) 1) 395 ((803 + 9 * (sg 395 1)) + 1) f) 395 ((803 + 9 * (sg 395 1)) + 2) t) 395 ((803 + 9 * (sg 395 1)) + 3) la) 395 ((803 + 9 * (sg 395 1)) + 4) on) 395 ((803 + 9 * (sg 395 1)) + 5) of) 395 ((803 + 9 * (sg 395 1)) + 6) (co + 1))) 393 10 ∧ (zN (zup (zup (zup (zup (zup (zup (zup sg1 395 (803 + 9 * (sg 395 1)) 1) 395 ((803 + 9 * (sg 395 1)) + 1) f) 395 ((803 + 9 * (sg 395 1)) + 2) t) 395 ((803 + 9 * (sg 395 1)) + 3) la) 395 ((803 + 9 * (sg 395 1)) + 4) on) 395 ((803 + 9 * (sg 395 1)) + 5) of) 395 ((803 + 9 * (sg 395 1)) + 6) (co + 1))).2.2 393 3 = true, zIn (zN (zup (zup (zup (zup (zup (zup (zup sg1 395 (803 + 9 * (sg 395 1)) 1) 395 ((803 + 9 * (sg 395 1)) + 1) f) 395 ((803 + 9 * (sg 395 1)) + 2) t) 395 ((803 + 9 * (sg 395 1)) + 3) la) 395 ((803 + 9 * (sg 395 1)) + 4) on) 395 ((803 + 9 * (sg 395 1)) + 5) of) 395 ((803 + 9 * (sg 395 1)) + 6) (co + 1))) 395 0 ((803 + 9 * (sg 395 1)) + 7), zOb (zN (zup (zup (zup (zup (zup (zup (zup (zup sg1 395 (803 + 9 * (sg 395 1)) 1) 395 ((803 + 9 * (sg 395 1)) + 1) f) 395 ((803 + 9 * (sg 395 1)) + 2) t) 395 ((803 + 9 * (sg 395 1)) + 3) la) 395 ((803 + 9 * (sg 395 1)) + 4) on) 395 ((803 + 9 * (sg 395 1)) + 5) of) 395 ((803 + 9 * (sg 395 1)) + 6) (co + 1)) 395 ((803 + 9 * (sg 395 1)) + 7) gr)) 393 10 ∧ (zN (zup (zup (zup (zup (zup (zup (zup (zup sg1 395 (803 + 9 * (sg 395 1)) 1) 395 ((803 + 9 * (sg 395 1)) + 1) f) 395 ((803 + 9 * (sg 395 1)) + 2) t) 395 ((803 + 9 * (sg 395 1)) + 3) la) 395 ((803 + 9 * (sg 395 1)) + 4) on) 395 ((803 + 9 * (sg 395 1)) + 5) of) 395 ((803 + 9 * (sg 395 1)) + 6) (co + 1)) 395 ((803 + 9 * (sg 395 1)) + 7) gr)).2.2 393 3 = true, zIn (zN (zup (zup (zup (zup (zup (zup (zup (zup sg1 395 (803 + 9 * (sg 395 1)) 1) 395 ((803 + 9 * (sg 395 1)) + 1) f) 395 ((803 + 9 * (sg 395 1)) + 2) t) 395 ((803 + 9 * (sg 395 1)) + 3) la) 395 ((803 + 9 * (sg 395 1)) + 4) on) 395 ((803 + 9 * (sg 395 1)) + 5) of) 395 ((803 + 9 * (sg 395 1)) + 6) (co + 1)) 395 ((803 + 9 * (sg 395 1)) + 7) gr)) 395 0 ((803 + 9 * (sg 395 1)) + 8), zOb (zN (zup (zup (zup (zup (zup (zup (zup (zup (zup sg1 395 (803 + 9 * (sg 395 1)) 1) 395 ((803 + 9 * (sg 395 1)) + 1) f) 395 ((803 + 9 * (sg 395 1)) + 2) t) 395 ((803 + 9 * (sg 395 1)) + 3) la) 395 ((803 + 9 * (sg 395 1)) + 4) on) 395 ((803 + 9 * (sg 395 1)) + 5) of) 395 ((803 + 9 * (sg 395 1)) + 6) (co + 1)) 395 ((803 + 9 * (sg 395 1)) + 7) gr) 395 ((803 + 9 * (sg 395 1)) + 8) si)) 393 10 ∧ (zN (zup (zup (zup (zup (zup (zup (zup (zup (zup sg1 395 (803 + 9 * (sg 395 1)) 1) 395 ((803 + 9 * (sg 395 1)) + 1) f) 395 ((803 + 9 * (sg 395 1)) + 2) t) 395 ((803 + 9 * (sg 395 1)) + 3) la) 395 ((803 + 9 * (sg 395 1)) + 4) on) 395 ((803 + 9 * (sg 395 1)) + 5) of) 395 ((803 + 9 * (sg 395 1)) + 6) (co + 1)) 395 ((803 + 9 * (sg 395 1)) + 7) gr) 395 ((803 + 9 * (sg 395 1)) + 8) si)).2.2 393 3 = true, zInL (zN (zup (zup (zup (zup (zup (zup (zup (zup (zup sg1 395 (803 + 9 * (sg 395 1)) 1) 395 ((803 + 9 * (sg 395 1)) + 1) f) 395 ((803 + 9 * (sg 395 1)) + 2) t) 395 ((803 + 9 * (sg 395 1)) + 3) la) 395 ((803 + 9 * (sg 395 1)) + 4) on) 395 ((803 + 9 * (sg 395 1)) + 5) of) 395 ((803 + 9 * (sg 395 1)) + 6) (co + 1)) 395 ((803 + 9 * (sg 395 1)) + 7) gr) 395 ((803 + 9 * (sg 395 1)) + 8) si)) 395 1, zIn (zN (zup (zup (zup (zup (zup (zup (zup (zup (zup sg1 395 (803 + 9 * (sg 395 1)) 1) 395 ((803 + 9 * (sg 395 1)) + 1) f) 395 ((803 + 9 * (sg 395 1)) + 2) t) 395 ((803 + 9 * (sg 395 1)) + 3) la) 395 ((803 + 9 * (sg 395 1)) + 4) on) 395 ((803 + 9 * (sg 395 1)) + 5) of) 395 ((803 + 9 * (sg 395 1)) + 6) (co + 1)) 395 ((803 + 9 * (sg 395 1)) + 7) gr) 395 ((803 + 9 * (sg 395 1)) + 8) si)) 395 0 1]) rfl (zA ⟨zob_393, rfl⟩ (zA (zin_395 (i := 803 + 9 * (sg 395 1)) (by lia) (by lia)) (zA ⟨zob_393, rfl⟩ (zA (zin_395 (i := (803 + 9 * (sg 395 1)) + 1) (by lia) (by lia)) (zA ⟨zob_393, rfl⟩ (zA (zin_395 (i := (803 + 9 * (sg 395 1)) + 2) (by lia) (by lia)) (zA ⟨zob_393, rfl⟩ (zA (zin_395 (i := (803 + 9 * (sg 395 1)) + 3) (by lia) (by lia)) (zA ⟨zob_393, rfl⟩ (zA (zin_395 (i := (803 + 9 * (sg 395 1)) + 4) (by lia) (by lia)) (zA ⟨zob_393, rfl⟩ (zA (zin_395 (i := (803 + 9 * (sg 395 1)) + 5) (by lia) (by lia)) (zA ⟨zob_393, rfl⟩ (zA (zin_395 (i := (803 + 9 * (sg 395 1)) + 6) (by lia) (by lia)) (zA ⟨zob_393, rfl⟩ (zA (zin_395 (i := (803 + 9 * (sg 395 1)) + 7) (by lia) (by lia)) (zA ⟨zob_393, rfl⟩ (zA (zin_395 (i := (803 + 9 * (sg 395 1)) + 8) (by lia) (by lia)) (zA ⟨zob_393, rfl⟩ (zA (zinL_395 (i := 1) (by decide) (by decide)) (zA (zin_395 (i := 1) (by decide) (by decide)) trivial))))))))))))))))))))) ?_
            refine zG_callv (a := 393) (c := 10) (As := [.int (sg 395 1)]) (rest := []) (N2 := 411) bdMo_lay_204 okMo_tell lk10_84 (And.intro (by decide) (by decide)) (by decide) rfl rfl rfl (Nat.le_of_ble_eq_true rfl) (Nat.le_of_ble_eq_true rfl) (Nat.le_refl 411) (Nat.le_refl 411) zob_393 cMo_tell ?_
            rintro rr h' ⟨rfl, rfl⟩ -
            refine zb_iret bkMo_lay_207 bdMo_lay_207 rfl (x := sg 395 1) (h' := zN (hTell (zup (zup (zup (zup (zup (zup (zup (zup (zup (zup sg1 395 (803 + 9 * (sg 395 1)) 1) 395 ((803 + 9 * (sg 395 1)) + 1) f) 395 ((803 + 9 * (sg 395 1)) + 2) t) 395 ((803 + 9 * (sg 395 1)) + 3) la) 395 ((803 + 9 * (sg 395 1)) + 4) on) 395 ((803 + 9 * (sg 395 1)) + 5) of) 395 ((803 + 9 * (sg 395 1)) + 6) (co + 1)) 395 ((803 + 9 * (sg 395 1)) + 7) gr) 395 ((803 + 9 * (sg 395 1)) + 8) si) 395 1 (((zup (zup (zup (zup (zup (zup (zup (zup (zup sg1 395 (803 + 9 * (sg 395 1)) 1) 395 ((803 + 9 * (sg 395 1)) + 1) f) 395 ((803 + 9 * (sg 395 1)) + 2) t) 395 ((803 + 9 * (sg 395 1)) + 3) la) 395 ((803 + 9 * (sg 395 1)) + 4) on) 395 ((803 + 9 * (sg 395 1)) + 5) of) 395 ((803 + 9 * (sg 395 1)) + 6) (co + 1)) 395 ((803 + 9 * (sg 395 1)) + 7) gr) 395 ((803 + 9 * (sg 395 1)) + 8) si) 395 1) + 1)))) (Ps := []) rfl trivial rfl ?_
            have q1 : (zup (zup (zup (zup (zup (zup (zup (zup (zup (zup sg1 395 (803 + 9 * (sg 395 1)) 1) 395 ((803 + 9 * (sg 395 1)) + 1) f) 395 ((803 + 9 * (sg 395 1)) + 2) t) 395 ((803 + 9 * (sg 395 1)) + 3) la) 395 ((803 + 9 * (sg 395 1)) + 4) on) 395 ((803 + 9 * (sg 395 1)) + 5) of) 395 ((803 + 9 * (sg 395 1)) + 6) (co + 1)) 395 ((803 + 9 * (sg 395 1)) + 7) gr) 395 ((803 + 9 * (sg 395 1)) + 8) si) 395 1 (((zup (zup (zup (zup (zup (zup (zup (zup (zup sg1 395 (803 + 9 * (sg 395 1)) 1) 395 ((803 + 9 * (sg 395 1)) + 1) f) 395 ((803 + 9 * (sg 395 1)) + 2) t) 395 ((803 + 9 * (sg 395 1)) + 3) la) 395 ((803 + 9 * (sg 395 1)) + 4) on) 395 ((803 + 9 * (sg 395 1)) + 5) of) 395 ((803 + 9 * (sg 395 1)) + 6) (co + 1)) 395 ((803 + 9 * (sg 395 1)) + 7) gr) 395 ((803 + 9 * (sg 395 1)) + 8) si) 395 1) + 1)) = mLay sg1 (sg 395 1) f t la on of co gr si := by
              unfold mLay
              congr 1
              rw [zup_i (by lia), zup_i (by lia), zup_i (by lia), zup_i (by lia), zup_i (by lia), zup_i (by lia), zup_i (by lia), zup_i (by lia), zup_i (by lia), x1]
            exact Or.inr (Or.inr (⟨hc, hd, _, hb, rfl, by rw [q1]⟩))
          · skip
            refine zG_run bkMo_lay_74 (lv' := [(9, .int (sg 395 1)), (0, .ref 393), (1, .int f), (2, .int t), (3, .int la), (4, .int on), (5, .int of), (6, .int co), (7, .int gr), (8, .int si)]) (st' := [.int (-5), .ref 393]) (h' := zN sg) (Ps := []) rfl trivial ?_
            refine zG_callv (a := 393) (c := 10) (As := [.int (-5)]) (rest := []) (N2 := 411) bdMo_lay_77 okMo_refuse lk10_80 (And.intro (by decide) (by decide)) (by decide) rfl rfl rfl (Nat.le_of_ble_eq_true rfl) (Nat.le_of_ble_eq_true rfl) (Nat.le_refl 411) (Nat.le_refl 411) zob_393 (cMo_refuse (by decide) (by decide)) ?_
            rintro rr h' ⟨rfl, rfl⟩ -
            refine zb_iret bkMo_lay_80 bdMo_lay_80 rfl (x := (-5)) (h' := zN (hRef sg (-5))) (Ps := []) rfl trivial rfl ?_
            exact Or.inr (Or.inl ⟨rfl, rfl, by grind⟩)
        · skip
          refine zG_run bkMo_lay_53 (lv' := [(0, .ref 393), (1, .int f), (2, .int t), (3, .int la), (4, .int on), (5, .int of), (6, .int co), (7, .int gr), (8, .int si)]) (st' := [.int (-1), .ref 393]) (h' := zN sg) (Ps := []) rfl trivial ?_
          refine zG_callv (a := 393) (c := 10) (As := [.int (-1)]) (rest := []) (N2 := 411) bdMo_lay_55 okMo_refuse lk10_80 (And.intro (by decide) (by decide)) (by decide) rfl rfl rfl (Nat.le_of_ble_eq_true rfl) (Nat.le_of_ble_eq_true rfl) (Nat.le_refl 411) (Nat.le_refl 411) zob_393 (cMo_refuse (by decide) (by decide)) ?_
          rintro rr h' ⟨rfl, rfl⟩ -
          refine zb_iret bkMo_lay_58 bdMo_lay_58 rfl (x := (-1)) (h' := zN (hRef sg (-1))) (Ps := []) rfl trivial rfl ?_
          exact Or.inl ⟨rfl, rfl, by grind⟩
theorem tMo_lay {sg : zSig} {f t la on of co gr si : Int32} {Q : Option Value → zHp → Prop} (g : zG mMo_lay 411 Q 5 [(0, .ref 393), (1, .int f), (2, .int t), (3, .int la), (4, .int on), (5, .int of), (6, .int co), (7, .int gr), (8, .int si)] [] (zN (zup sg 393 0 0))) : zG mMo_lay 411 Q 0 [(0, .ref 393), (1, .int f), (2, .int t), (3, .int la), (4, .int on), (5, .int of), (6, .int co), (7, .int gr), (8, .int si)] [] (zN sg) :=
  zG_run bkMo_lay_0 (lv' := [(0, .ref 393), (1, .int f), (2, .int t), (3, .int la), (4, .int on), (5, .int of), (6, .int co), (7, .int gr), (8, .int si)]) (st' := []) (h' := zN (zup sg 393 0 0)) (Ps := [zOb (zN sg) 393 10]) rfl (zA zob_393 trivial) g
theorem bkMo_pin_5 : zBk mMo_pin 5 [(1, 0, 1, 0, 0), (1, 1, 0, 0, 0)] = some 7 := by decide +kernel
theorem bkMo_pin_10 : zBk mMo_pin 10 [] = some 10 := by decide +kernel
theorem bkMo_pin_23 : zBk mMo_pin 23 [(1, 0, 1, 0, 0), (0, 0, 0, 0, -1)] = some 25 := by decide +kernel
theorem bkMo_pin_28 : zBk mMo_pin 28 [] = some 28 := by decide +kernel
theorem bkMo_pin_13 : zBk mMo_pin 13 [(1, 2, 0, 0, 0), (14, 0, 0, 0, 0), (15, 0, 0, 0, 0), (15, 0, 0, 0, 1)] = some 17 := by decide +kernel
theorem bkMo_pin_20 : zBk mMo_pin 20 [] = some 20 := by decide +kernel
theorem bkMo_pin_29 : zBk mMo_pin 29 [(1, 0, 1, 0, 0), (5, 10, 3, 2, 3), (0, 0, 0, 0, 2), (7, 0, 0, 0, 0), (2, 3, 0, 0, 0), (1, 3, 0, 0, 0), (0, 0, 0, 0, 12)] = some 39 := by decide +kernel
theorem bkMo_pin_49 : zBk mMo_pin 49 [(1, 0, 1, 0, 0), (0, 0, 0, 0, 9)] = some 52 := by decide +kernel
theorem bkMo_pin_55 : zBk mMo_pin 55 [(1, 3, 0, 0, 0)] = some 56 := by decide +kernel
theorem bkMo_pin_59 : zBk mMo_pin 59 [(2, 4, 0, 0, 0), (1, 0, 1, 0, 0), (5, 10, 3, 2, 3), (1, 4, 0, 0, 0), (0, 0, 0, 0, 1), (8, 0, 0, 0, 0), (1, 0, 1, 0, 0), (5, 10, 3, 2, 3), (1, 4, 0, 0, 0), (0, 0, 0, 0, 1), (4, 0, 0, 0, 0), (1, 1, 0, 0, 0), (8, 0, 0, 0, 0), (1, 0, 1, 0, 0), (5, 10, 3, 2, 3), (1, 4, 0, 0, 0), (0, 0, 0, 0, 2), (4, 0, 0, 0, 0), (1, 2, 0, 0, 0), (8, 0, 0, 0, 0), (1, 0, 1, 0, 0), (5, 10, 3, 2, 3), (1, 4, 0, 0, 0), (0, 0, 0, 0, 3), (4, 0, 0, 0, 0), (0, 0, 0, 0, 0), (8, 0, 0, 0, 0), (1, 0, 1, 0, 0), (5, 10, 3, 2, 3), (0, 0, 0, 0, 2), (19, 0, 0, 0, 0), (7, 0, 0, 0, 0), (0, 0, 0, 0, 1), (4, 0, 0, 0, 0), (8, 0, 0, 0, 0), (1, 0, 1, 0, 0), (1, 3, 0, 0, 0)] = some 111 := by decide +kernel
theorem bkMo_pin_114 : zBk mMo_pin 114 [] = some 114 := by decide +kernel
theorem bkMo_pin_42 : zBk mMo_pin 42 [(1, 0, 1, 0, 0), (0, 0, 0, 0, -5)] = some 45 := by decide +kernel
theorem bkMo_pin_48 : zBk mMo_pin 48 [] = some 48 := by decide +kernel
theorem bkMo_pin_0 : zBk mMo_pin 0 [(1, 0, 1, 0, 0), (0, 0, 0, 0, 0), (6, 10, 0, 0, 0)] = some 5 := by decide +kernel
theorem bdMo_pin_7 : decode mMo_pin.2.2.1 7 = .ok (.invokevirtual 97, 3) := by decide +kernel
theorem bdMo_pin_10 : decode mMo_pin.2.2.1 10 = .ok (.ifCond .eq 13, 3) := by decide +kernel
theorem bdMo_pin_17 : decode mMo_pin.2.2.1 17 = .ok (.invokestatic 87, 3) := by decide +kernel
theorem bdMo_pin_20 : decode mMo_pin.2.2.1 20 = .ok (.ifCond .ne 9, 3) := by decide +kernel
theorem bdMo_pin_25 : decode mMo_pin.2.2.1 25 = .ok (.invokevirtual 80, 3) := by decide +kernel
theorem bdMo_pin_28 : decode mMo_pin.2.2.1 28 = .ok (.ireturn, 1) := by decide +kernel
theorem bdMo_pin_39 : decode mMo_pin.2.2.1 39 = .ok (.if_icmp .ne 10, 3) := by decide +kernel
theorem bdMo_pin_45 : decode mMo_pin.2.2.1 45 = .ok (.invokevirtual 80, 3) := by decide +kernel
theorem bdMo_pin_48 : decode mMo_pin.2.2.1 48 = .ok (.ireturn, 1) := by decide +kernel
theorem bdMo_pin_52 : decode mMo_pin.2.2.1 52 = .ok (.invokevirtual 127, 3) := by decide +kernel
theorem bdMo_pin_56 : decode mMo_pin.2.2.1 56 = .ok (.invokestatic 94, 3) := by decide +kernel
theorem bdMo_pin_111 : decode mMo_pin.2.2.1 111 = .ok (.invokevirtual 84, 3) := by decide +kernel
theorem bdMo_pin_114 : decode mMo_pin.2.2.1 114 = .ok (.ireturn, 1) := by decide +kernel
theorem bMo_pin {sg : zSig} {p l : Int32} (n0 : 0 ≤ sg 395 0) (n2 : sg 395 0 ≤ 200) (g0 : 0 ≤ sg 395 1) (g1 : sg 395 1 ≤ 16) (a0 : 0 ≤ sg 395 2) (a1 : sg 395 2 ≤ 12) (b0 : 0 ≤ sg 393 6) (b1 : sg 393 6 ≤ 8) : zG mMo_pin 411 (fun rr h' => (rr = some (.int (-1)) ∧ h' = zN (hRef sg (-1)) ∧ (¬ ((0 ≤ p ∧ p ≤ sg 395 0) ∧ 0 ≤ l ∧ l ≤ 1))) ∨ (rr = some (.int (-5)) ∧ h' = zN (hRef sg (-5)) ∧ (((0 ≤ p ∧ p ≤ sg 395 0) ∧ 0 ≤ l ∧ l ≤ 1) ∧ sg 395 2 = 12)) ∨ (((0 ≤ p ∧ p ≤ sg 395 0) ∧ 0 ≤ l ∧ l ≤ 1) ∧ sg 395 2 < 12 ∧ ∃ sg1, mRem sg sg1 9 ∧ rr = some (.int (sg 395 2)) ∧ h' = zN (hTell (mPin sg1 (sg 395 2) p l)))) 5 [(0, .ref 393), (1, .int p), (2, .int l)] [] (zN sg) := by
  refine zG_run bkMo_pin_5 (lv' := [(0, .ref 393), (1, .int p), (2, .int l)]) (st' := [.int p, .ref 393]) (h' := zN sg) (Ps := []) rfl trivial ?_
  refine zG_callv (a := 393) (c := 10) (As := [.int p]) (rest := []) (N2 := 411) bdMo_pin_7 okMo_isPlace lk10_97 (And.intro (by decide) (by decide)) (by decide) rfl rfl rfl (Nat.le_of_ble_eq_true rfl) (Nat.le_of_ble_eq_true rfl) (Nat.le_refl 411) (Nat.le_refl 411) zob_393 cMo_isPlace ?_
  rintro rr h' ⟨rfl, rfl⟩ -
  refine zb_ifeq (tgt := 23) bkMo_pin_10 bdMo_pin_10 (by decide) (lv' := [(0, .ref 393), (1, .int p), (2, .int l)]) (st' := []) (h' := zN sg) (x := if 0 ≤ p ∧ p ≤ sg 395 0 then 1 else 0) (Ps := []) rfl trivial (fun c1 => ?_) (fun c1 => ?_)
  · skip
    refine zG_run bkMo_pin_23 (lv' := [(0, .ref 393), (1, .int p), (2, .int l)]) (st' := [.int (-1), .ref 393]) (h' := zN sg) (Ps := []) rfl trivial ?_
    refine zG_callv (a := 393) (c := 10) (As := [.int (-1)]) (rest := []) (N2 := 411) bdMo_pin_25 okMo_refuse lk10_80 (And.intro (by decide) (by decide)) (by decide) rfl rfl rfl (Nat.le_of_ble_eq_true rfl) (Nat.le_of_ble_eq_true rfl) (Nat.le_refl 411) (Nat.le_refl 411) zob_393 (cMo_refuse (by decide) (by decide)) ?_
    rintro rr h' ⟨rfl, rfl⟩ -
    refine zb_iret bkMo_pin_28 bdMo_pin_28 rfl (x := (-1)) (h' := zN (hRef sg (-1))) (Ps := []) rfl trivial rfl ?_
    exact Or.inl ⟨rfl, rfl, by grind⟩
  · skip
    refine zG_run bkMo_pin_13 (lv' := [(0, .ref 393), (1, .int p), (2, .int l)]) (st' := [.long ((1 : Int32).toInt64), .long ((0 : Int32).toInt64), .long l.toInt64]) (h' := zN sg) (Ps := []) rfl trivial ?_
    refine zG_calls (As := [.long l.toInt64, .long ((0 : Int32).toInt64), .long ((1 : Int32).toInt64)]) (rest := []) (N2 := 411) bdMo_pin_17 okMo_in lk10_87 (And.intro (by decide) (by decide)) rfl rfl (Nat.le_of_ble_eq_true rfl) (Nat.le_of_ble_eq_true rfl) (Nat.le_refl 411) (Nat.le_refl 411) cMo_inA ?_
    rintro rr h' ⟨rfl, rfl⟩ -
    refine zb_ifne (tgt := 29) bkMo_pin_20 bdMo_pin_20 (by decide) (lv' := [(0, .ref 393), (1, .int p), (2, .int l)]) (st' := []) (h' := zN sg) (x := if 0 ≤ l ∧ l ≤ 1 then 1 else 0) (Ps := []) rfl trivial (fun c2 => ?_) (fun c2 => ?_)
    · skip
      have hc : (0 ≤ p ∧ p ≤ sg 395 0) ∧ 0 ≤ l ∧ l ≤ 1 := by grind
      refine zb_icne (tgt := 49) bkMo_pin_29 bdMo_pin_39 (by decide) (lv' := [(3, .int (sg 395 2)), (0, .ref 393), (1, .int p), (2, .int l)]) (st' := []) (h' := zN sg) (x := sg 395 2) (y := 12) (Ps := [zOb (zN sg) 393 10 ∧ (zN sg).2.2 393 3 = true, zInL (zN sg) 395 2]) rfl (zA ⟨zob_393, rfl⟩ (zA (zinL_395 (i := 2) (by decide) (by decide)) trivial)) (fun c3 => ?_) (fun c3 => ?_)
      · skip
        have hd : sg 395 2 < 12 := by lia
        refine zG_run bkMo_pin_49 (lv' := [(3, .int (sg 395 2)), (0, .ref 393), (1, .int p), (2, .int l)]) (st' := [.int 9, .ref 393]) (h' := zN sg) (Ps := []) rfl trivial ?_
        refine zG_callv (a := 393) (c := 10) (As := [.int 9]) (rest := []) (N2 := 411) bdMo_pin_52 okMo_remember lk10_127 (And.intro (by decide) (by decide)) (by decide) rfl rfl rfl (Nat.le_of_ble_eq_true rfl) (Nat.le_of_ble_eq_true rfl) (Nat.le_refl 411) (Nat.le_refl 411) zob_393 (cMo_remember (s := 9) b0 b1) ?_
        rintro rr h' ⟨sg1, rfl, rfl, hb⟩ -
        have fb := hb.1
        have ub := mRem_u b0 b1 hb
        have x0 : sg1 395 0 = sg 395 0 := fb 395 0 (by decide) (by decide) (by decide) (by decide)
        have x1 : sg1 395 1 = sg 395 1 := fb 395 1 (by decide) (by decide) (by decide) (by decide)
        have x2 : sg1 395 2 = sg 395 2 := fb 395 2 (by decide) (by decide) (by decide) (by decide)
        have xt : sg1 393 11 = sg 393 11 := fb 393 11 (by decide) (by decide) (by decide) (by decide)
        refine zG_run bkMo_pin_55 (lv' := [(3, .int (sg 395 2)), (0, .ref 393), (1, .int p), (2, .int l)]) (st' := [.int (sg 395 2)]) (h' := zN sg1) (Ps := []) rfl trivial ?_
        refine zG_calls (As := [.int (sg 395 2)]) (rest := []) (N2 := 411) bdMo_pin_56 okMo_anchorAt lk10_94 (And.intro (by decide) (by decide)) rfl rfl (Nat.le_of_ble_eq_true rfl) (Nat.le_of_ble_eq_true rfl) (Nat.le_refl 411) (Nat.le_refl 411) cMo_anchorAt ?_
        rintro rr h' ⟨rfl, rfl⟩ -
        refine zG_run bkMo_pin_59 (lv' := [(4, .int (947 + 4 * (sg 395 2))), (3, .int (sg 395 2)), (0, .ref 393), (1, .int p), (2, .int l)]) (st' := [.int (sg 395 2), .ref 393]) (h' := zN (zup (zup (zup (zup (zup sg1 395 (947 + 4 * (sg 395 2)) 1) 395 ((947 + 4 * (sg 395 2)) + 1) p) 395 ((947 + 4 * (sg 395 2)) + 2) l) 395 ((947 + 4 * (sg 395 2)) + 3) 0) 395 2 (((zup (zup (zup (zup sg1 395 (947 + 4 * (sg 395 2)) 1) 395 ((947 + 4 * (sg 395 2)) + 1) p) 395 ((947 + 4 * (sg 395 2)) + 2) l) 395 ((947 + 4 * (sg 395 2)) + 3) 0) 395 2) + 1))) (Ps := [zOb (zN sg1) 393 10 ∧ (zN sg1).2.2 393 3 = true, zIn (zN sg1) 395 0 (947 + 4 * (sg 395 2)), zOb (zN (zup sg1 395 (947 + 4 * (sg 395 2)) 1)) 393 10 ∧ (zN (zup sg1 395 (947 + 4 * (sg 395 2)) 1)).2.2 393 3 = true, zIn (zN (zup sg1 395 (947 + 4 * (sg 395 2)) 1)) 395 0 ((947 + 4 * (sg 395 2)) + 1), zOb (zN (zup (zup sg1 395 (947 + 4 * (sg 395 2)) 1) 395 ((947 + 4 * (sg 395 2)) + 1) p)) 393 10 ∧ (zN (zup (zup sg1 395 (947 + 4 * (sg 395 2)) 1) 395 ((947 + 4 * (sg 395 2)) + 1) p)).2.2 393 3 = true, zIn (zN (zup (zup sg1 395 (947 + 4 * (sg 395 2)) 1) 395 ((947 + 4 * (sg 395 2)) + 1) p)) 395 0 ((947 + 4 * (sg 395 2)) + 2), zOb (zN (zup (zup (zup sg1 395 (947 + 4 * (sg 395 2)) 1) 395 ((947 + 4 * (sg 395 2)) + 1) p) 395 ((947 + 4 * (sg 395 2)) + 2) l)) 393 10 ∧ (zN (zup (zup (zup sg1 395 (947 + 4 * (sg 395 2)) 1) 395 ((947 + 4 * (sg 395 2)) + 1) p) 395 ((947 + 4 * (sg 395 2)) + 2) l)).2.2 393 3 = true, zIn (zN (zup (zup (zup sg1 395 (947 + 4 * (sg 395 2)) 1) 395 ((947 + 4 * (sg 395 2)) + 1) p) 395 ((947 + 4 * (sg 395 2)) + 2) l)) 395 0 ((947 + 4 * (sg 395 2)) + 3), zOb (zN (zup (zup (zup (zup sg1 395 (947 + 4 * (sg 395 2)) 1) 395 ((947 + 4 * (sg 395 2)) + 1) p) 395 ((947 + 4 * (sg 395 2)) + 2) l) 395 ((947 + 4 * (sg 395 2)) + 3) 0)) 393 10 ∧ (zN (zup (zup (zup (zup sg1 395 (947 + 4 * (sg 395 2)) 1) 395 ((947 + 4 * (sg 395 2)) + 1) p) 395 ((947 + 4 * (sg 395 2)) + 2) l) 395 ((947 + 4 * (sg 395 2)) + 3) 0)).2.2 393 3 = true, zInL (zN (zup (zup (zup (zup sg1 395 (947 + 4 * (sg 395 2)) 1) 395 ((947 + 4 * (sg 395 2)) + 1) p) 395 ((947 + 4 * (sg 395 2)) + 2) l) 395 ((947 + 4 * (sg 395 2)) + 3) 0)) 395 2, zIn (zN (zup (zup (zup (zup sg1 395 (947 + 4 * (sg 395 2)) 1) 395 ((947 + 4 * (sg 395 2)) + 1) p) 395 ((947 + 4 * (sg 395 2)) + 2) l) 395 ((947 + 4 * (sg 395 2)) + 3) 0)) 395 0 2]) rfl (zA ⟨zob_393, rfl⟩ (zA (zin_395 (i := 947 + 4 * (sg 395 2)) (by lia) (by lia)) (zA ⟨zob_393, rfl⟩ (zA (zin_395 (i := (947 + 4 * (sg 395 2)) + 1) (by lia) (by lia)) (zA ⟨zob_393, rfl⟩ (zA (zin_395 (i := (947 + 4 * (sg 395 2)) + 2) (by lia) (by lia)) (zA ⟨zob_393, rfl⟩ (zA (zin_395 (i := (947 + 4 * (sg 395 2)) + 3) (by lia) (by lia)) (zA ⟨zob_393, rfl⟩ (zA (zinL_395 (i := 2) (by decide) (by decide)) (zA (zin_395 (i := 2) (by decide) (by decide)) trivial))))))))))) ?_
        refine zG_callv (a := 393) (c := 10) (As := [.int (sg 395 2)]) (rest := []) (N2 := 411) bdMo_pin_111 okMo_tell lk10_84 (And.intro (by decide) (by decide)) (by decide) rfl rfl rfl (Nat.le_of_ble_eq_true rfl) (Nat.le_of_ble_eq_true rfl) (Nat.le_refl 411) (Nat.le_refl 411) zob_393 cMo_tell ?_
        rintro rr h' ⟨rfl, rfl⟩ -
        refine zb_iret bkMo_pin_114 bdMo_pin_114 rfl (x := sg 395 2) (h' := zN (hTell (zup (zup (zup (zup (zup sg1 395 (947 + 4 * (sg 395 2)) 1) 395 ((947 + 4 * (sg 395 2)) + 1) p) 395 ((947 + 4 * (sg 395 2)) + 2) l) 395 ((947 + 4 * (sg 395 2)) + 3) 0) 395 2 (((zup (zup (zup (zup sg1 395 (947 + 4 * (sg 395 2)) 1) 395 ((947 + 4 * (sg 395 2)) + 1) p) 395 ((947 + 4 * (sg 395 2)) + 2) l) 395 ((947 + 4 * (sg 395 2)) + 3) 0) 395 2) + 1)))) (Ps := []) rfl trivial rfl ?_
        have q1 : (zup (zup (zup (zup (zup sg1 395 (947 + 4 * (sg 395 2)) 1) 395 ((947 + 4 * (sg 395 2)) + 1) p) 395 ((947 + 4 * (sg 395 2)) + 2) l) 395 ((947 + 4 * (sg 395 2)) + 3) 0) 395 2 (((zup (zup (zup (zup sg1 395 (947 + 4 * (sg 395 2)) 1) 395 ((947 + 4 * (sg 395 2)) + 1) p) 395 ((947 + 4 * (sg 395 2)) + 2) l) 395 ((947 + 4 * (sg 395 2)) + 3) 0) 395 2) + 1)) = mPin sg1 (sg 395 2) p l := by
          unfold mPin
          congr 1
          rw [zup_i (by lia), zup_i (by lia), zup_i (by lia), zup_i (by lia), x2]
        exact Or.inr (Or.inr (⟨hc, hd, _, hb, rfl, by rw [q1]⟩))
      · skip
        refine zG_run bkMo_pin_42 (lv' := [(3, .int (sg 395 2)), (0, .ref 393), (1, .int p), (2, .int l)]) (st' := [.int (-5), .ref 393]) (h' := zN sg) (Ps := []) rfl trivial ?_
        refine zG_callv (a := 393) (c := 10) (As := [.int (-5)]) (rest := []) (N2 := 411) bdMo_pin_45 okMo_refuse lk10_80 (And.intro (by decide) (by decide)) (by decide) rfl rfl rfl (Nat.le_of_ble_eq_true rfl) (Nat.le_of_ble_eq_true rfl) (Nat.le_refl 411) (Nat.le_refl 411) zob_393 (cMo_refuse (by decide) (by decide)) ?_
        rintro rr h' ⟨rfl, rfl⟩ -
        refine zb_iret bkMo_pin_48 bdMo_pin_48 rfl (x := (-5)) (h' := zN (hRef sg (-5))) (Ps := []) rfl trivial rfl ?_
        exact Or.inr (Or.inl ⟨rfl, rfl, by grind⟩)
    · skip
      refine zG_run bkMo_pin_23 (lv' := [(0, .ref 393), (1, .int p), (2, .int l)]) (st' := [.int (-1), .ref 393]) (h' := zN sg) (Ps := []) rfl trivial ?_
      refine zG_callv (a := 393) (c := 10) (As := [.int (-1)]) (rest := []) (N2 := 411) bdMo_pin_25 okMo_refuse lk10_80 (And.intro (by decide) (by decide)) (by decide) rfl rfl rfl (Nat.le_of_ble_eq_true rfl) (Nat.le_of_ble_eq_true rfl) (Nat.le_refl 411) (Nat.le_refl 411) zob_393 (cMo_refuse (by decide) (by decide)) ?_
      rintro rr h' ⟨rfl, rfl⟩ -
      refine zb_iret bkMo_pin_28 bdMo_pin_28 rfl (x := (-1)) (h' := zN (hRef sg (-1))) (Ps := []) rfl trivial rfl ?_
      exact Or.inl ⟨rfl, rfl, by grind⟩
theorem tMo_pin {sg : zSig} {p l : Int32} {Q : Option Value → zHp → Prop} (g : zG mMo_pin 411 Q 5 [(0, .ref 393), (1, .int p), (2, .int l)] [] (zN (zup sg 393 0 0))) : zG mMo_pin 411 Q 0 [(0, .ref 393), (1, .int p), (2, .int l)] [] (zN sg) :=
  zG_run bkMo_pin_0 (lv' := [(0, .ref 393), (1, .int p), (2, .int l)]) (st' := []) (h' := zN (zup sg 393 0 0)) (Ps := [zOb (zN sg) 393 10]) rfl (zA zob_393 trivial) g
theorem bkMo_image_5 : zBk mMo_image 5 [(1, 1, 0, 0, 0), (14, 0, 0, 0, 0), (15, 0, 0, 0, 0), (15, 0, 0, 0, 1)] = some 9 := by decide +kernel
theorem bkMo_image_12 : zBk mMo_image 12 [] = some 12 := by decide +kernel
theorem bkMo_image_21 : zBk mMo_image 21 [(1, 0, 1, 0, 0), (5, 10, 3, 2, 3), (0, 0, 0, 0, 0), (1, 0, 1, 0, 0), (5, 10, 8, 6, 8), (0, 0, 0, 0, 995), (1, 1, 0, 0, 0), (4, 2, 0, 0, 0)] = some 35 := by decide +kernel
theorem bkMo_image_38 : zBk mMo_image 38 [(1, 0, 1, 0, 0), (5, 10, 9, 7, 9), (1, 1, 0, 0, 0), (0, 0, 0, 0, 1), (8, 2, 0, 0, 0), (1, 0, 1, 0, 0), (1, 0, 1, 0, 0), (5, 10, 3, 2, 3), (0, 0, 0, 0, 0), (7, 0, 0, 0, 0)] = some 52 := by decide +kernel
theorem bkMo_image_55 : zBk mMo_image 55 [] = some 55 := by decide +kernel
theorem bkMo_image_15 : zBk mMo_image 15 [(1, 0, 1, 0, 0), (0, 0, 0, 0, -1)] = some 17 := by decide +kernel
theorem bkMo_image_20 : zBk mMo_image 20 [] = some 20 := by decide +kernel
theorem bkMo_image_0 : zBk mMo_image 0 [(1, 0, 1, 0, 0), (0, 0, 0, 0, 0), (6, 10, 0, 0, 0)] = some 5 := by decide +kernel
theorem bdMo_image_9 : decode mMo_image.2.2.1 9 = .ok (.invokestatic 87, 3) := by decide +kernel
theorem bdMo_image_12 : decode mMo_image.2.2.1 12 = .ok (.ifCond .ne 9, 3) := by decide +kernel
theorem bdMo_image_17 : decode mMo_image.2.2.1 17 = .ok (.invokevirtual 80, 3) := by decide +kernel
theorem bdMo_image_20 : decode mMo_image.2.2.1 20 = .ok (.ireturn, 1) := by decide +kernel
theorem bdMo_image_35 : decode mMo_image.2.2.1 35 = .ok (.invokestatic 76, 3) := by decide +kernel
theorem bdMo_image_52 : decode mMo_image.2.2.1 52 = .ok (.invokevirtual 84, 3) := by decide +kernel
theorem bdMo_image_55 : decode mMo_image.2.2.1 55 = .ok (.ireturn, 1) := by decide +kernel
theorem bMo_image {sg : zSig} {n : Int32} (n0 : 0 ≤ sg 395 0) (n2 : sg 395 0 ≤ 200) (g0 : 0 ≤ sg 395 1) (g1 : sg 395 1 ≤ 16) (a0 : 0 ≤ sg 395 2) (a1 : sg 395 2 ≤ 12) (b0 : 0 ≤ sg 393 6) (b1 : sg 393 6 ≤ 8) : zG mMo_image 411 (fun rr h' => (rr = some (.int (-1)) ∧ h' = zN (hRef sg (-1)) ∧ (¬ (0 ≤ n ∧ n ≤ 1))) ∨ ((0 ≤ n ∧ n ≤ 1) ∧ rr = some (.int (sg 395 0)) ∧ h' = zN (hTell (zup (zcp sg 395 399 0 (995 * n) 995) 400 n 1)))) 5 [(0, .ref 393), (1, .int n)] [] (zN sg) := by
  refine zG_run bkMo_image_5 (lv' := [(0, .ref 393), (1, .int n)]) (st' := [.long ((1 : Int32).toInt64), .long ((0 : Int32).toInt64), .long n.toInt64]) (h' := zN sg) (Ps := []) rfl trivial ?_
  refine zG_calls (As := [.long n.toInt64, .long ((0 : Int32).toInt64), .long ((1 : Int32).toInt64)]) (rest := []) (N2 := 411) bdMo_image_9 okMo_in lk10_87 (And.intro (by decide) (by decide)) rfl rfl (Nat.le_of_ble_eq_true rfl) (Nat.le_of_ble_eq_true rfl) (Nat.le_refl 411) (Nat.le_refl 411) cMo_inA ?_
  rintro rr h' ⟨rfl, rfl⟩ -
  refine zb_ifne (tgt := 21) bkMo_image_12 bdMo_image_12 (by decide) (lv' := [(0, .ref 393), (1, .int n)]) (st' := []) (h' := zN sg) (x := if 0 ≤ n ∧ n ≤ 1 then 1 else 0) (Ps := []) rfl trivial (fun c1 => ?_) (fun c1 => ?_)
  · skip
    have hc : 0 ≤ n ∧ n ≤ 1 := by grind
    refine zG_run bkMo_image_21 (lv' := [(0, .ref 393), (1, .int n)]) (st' := [.int (995 * n), .ref 399, .int 0, .ref 395]) (h' := zN sg) (Ps := [zOb (zN sg) 393 10 ∧ (zN sg).2.2 393 3 = true, zOb (zN sg) 393 10 ∧ (zN sg).2.2 393 8 = true]) rfl (zA ⟨zob_393, rfl⟩ (zA ⟨zob_393, rfl⟩ trivial)) ?_
    refine zG_calls (As := [.ref 395, .int 0, .ref 399, .int (995 * n)]) (rest := []) (N2 := 411) bdMo_image_35 okMo_copy lk10_76 (And.intro (by decide) (by decide)) rfl rfl (Nat.le_of_ble_eq_true rfl) (Nat.le_of_ble_eq_true rfl) (Nat.le_refl 411) (Nat.le_refl 411) (cMo_copy_395_399 (sp := 0) (dp := 995 * n) (by lia) (by lia) (by lia) (by lia)) ?_
    rintro rr h' ⟨rfl, rfl⟩ -
    refine zG_run bkMo_image_38 (lv' := [(0, .ref 393), (1, .int n)]) (st' := [.int ((zup (zcp sg 395 399 0 (995 * n) 995) 400 n (1 &&& 1)) 395 0), .ref 393]) (h' := zN (zup (zcp sg 395 399 0 (995 * n) 995) 400 n (1 &&& 1))) (Ps := [zOb (zN (zcp sg 395 399 0 (995 * n) 995)) 393 10 ∧ (zN (zcp sg 395 399 0 (995 * n) 995)).2.2 393 9 = true, zIn (zN (zcp sg 395 399 0 (995 * n) 995)) 400 2 n, zOb (zN (zup (zcp sg 395 399 0 (995 * n) 995) 400 n (1 &&& 1))) 393 10 ∧ (zN (zup (zcp sg 395 399 0 (995 * n) 995) 400 n (1 &&& 1))).2.2 393 3 = true, zInL (zN (zup (zcp sg 395 399 0 (995 * n) 995) 400 n (1 &&& 1))) 395 0]) rfl (zA ⟨zob_393, rfl⟩ (zA (zin_400 (i := n) (by lia) (by lia)) (zA ⟨zob_393, rfl⟩ (zA (zinL_395 (i := 0) (by decide) (by decide)) trivial)))) ?_
    refine zG_callv (a := 393) (c := 10) (As := [.int ((zup (zcp sg 395 399 0 (995 * n) 995) 400 n (1 &&& 1)) 395 0)]) (rest := []) (N2 := 411) bdMo_image_52 okMo_tell lk10_84 (And.intro (by decide) (by decide)) (by decide) rfl rfl rfl (Nat.le_of_ble_eq_true rfl) (Nat.le_of_ble_eq_true rfl) (Nat.le_refl 411) (Nat.le_refl 411) zob_393 cMo_tell ?_
    rintro rr h' ⟨rfl, rfl⟩ -
    refine zb_iret bkMo_image_55 bdMo_image_55 rfl (x := (zup (zcp sg 395 399 0 (995 * n) 995) 400 n (1 &&& 1)) 395 0) (h' := zN (hTell (zup (zcp sg 395 399 0 (995 * n) 995) 400 n (1 &&& 1)))) (Ps := []) rfl trivial rfl ?_
    exact Or.inr (⟨hc, by rw [zup_a (by decide), zcp_e, if_neg (fun q => absurd q.1 (by decide))], rfl⟩)
  · skip
    refine zG_run bkMo_image_15 (lv' := [(0, .ref 393), (1, .int n)]) (st' := [.int (-1), .ref 393]) (h' := zN sg) (Ps := []) rfl trivial ?_
    refine zG_callv (a := 393) (c := 10) (As := [.int (-1)]) (rest := []) (N2 := 411) bdMo_image_17 okMo_refuse lk10_80 (And.intro (by decide) (by decide)) (by decide) rfl rfl rfl (Nat.le_of_ble_eq_true rfl) (Nat.le_of_ble_eq_true rfl) (Nat.le_refl 411) (Nat.le_refl 411) zob_393 (cMo_refuse (by decide) (by decide)) ?_
    rintro rr h' ⟨rfl, rfl⟩ -
    refine zb_iret bkMo_image_20 bdMo_image_20 rfl (x := (-1)) (h' := zN (hRef sg (-1))) (Ps := []) rfl trivial rfl ?_
    exact Or.inl ⟨rfl, rfl, by grind⟩
theorem tMo_image {sg : zSig} {n : Int32} {Q : Option Value → zHp → Prop} (g : zG mMo_image 411 Q 5 [(0, .ref 393), (1, .int n)] [] (zN (zup sg 393 0 0))) : zG mMo_image 411 Q 0 [(0, .ref 393), (1, .int n)] [] (zN sg) :=
  zG_run bkMo_image_0 (lv' := [(0, .ref 393), (1, .int n)]) (st' := []) (h' := zN (zup sg 393 0 0)) (Ps := [zOb (zN sg) 393 10]) rfl (zA zob_393 trivial) g
theorem bkMo_back_5 : zBk mMo_back 5 [(1, 1, 0, 0, 0), (14, 0, 0, 0, 0), (15, 0, 0, 0, 0), (15, 0, 0, 0, 1)] = some 9 := by decide +kernel
theorem bkMo_back_12 : zBk mMo_back 12 [] = some 12 := by decide +kernel
theorem bkMo_back_21 : zBk mMo_back 21 [(1, 0, 1, 0, 0), (5, 10, 9, 7, 9), (1, 1, 0, 0, 0), (7, 2, 0, 0, 0)] = some 27 := by decide +kernel
theorem bkMo_back_37 : zBk mMo_back 37 [(1, 0, 1, 0, 0), (5, 10, 8, 6, 8), (0, 0, 0, 0, 995), (1, 1, 0, 0, 0), (4, 2, 0, 0, 0), (1, 0, 1, 0, 0), (5, 10, 3, 2, 3), (0, 0, 0, 0, 0)] = some 51 := by decide +kernel
theorem bkMo_back_54 : zBk mMo_back 54 [(1, 0, 1, 0, 0), (0, 0, 0, 0, 0), (6, 10, 6, 0, 6), (1, 0, 1, 0, 0), (1, 0, 1, 0, 0), (5, 10, 3, 2, 3), (0, 0, 0, 0, 0), (7, 0, 0, 0, 0)] = some 66 := by decide +kernel
theorem bkMo_back_69 : zBk mMo_back 69 [] = some 69 := by decide +kernel
theorem bkMo_back_30 : zBk mMo_back 30 [(1, 0, 1, 0, 0), (0, 0, 0, 0, -2)] = some 33 := by decide +kernel
theorem bkMo_back_36 : zBk mMo_back 36 [] = some 36 := by decide +kernel
theorem bkMo_back_15 : zBk mMo_back 15 [(1, 0, 1, 0, 0), (0, 0, 0, 0, -1)] = some 17 := by decide +kernel
theorem bkMo_back_20 : zBk mMo_back 20 [] = some 20 := by decide +kernel
theorem bkMo_back_0 : zBk mMo_back 0 [(1, 0, 1, 0, 0), (0, 0, 0, 0, 0), (6, 10, 0, 0, 0)] = some 5 := by decide +kernel
theorem bdMo_back_9 : decode mMo_back.2.2.1 9 = .ok (.invokestatic 87, 3) := by decide +kernel
theorem bdMo_back_12 : decode mMo_back.2.2.1 12 = .ok (.ifCond .ne 9, 3) := by decide +kernel
theorem bdMo_back_17 : decode mMo_back.2.2.1 17 = .ok (.invokevirtual 80, 3) := by decide +kernel
theorem bdMo_back_20 : decode mMo_back.2.2.1 20 = .ok (.ireturn, 1) := by decide +kernel
theorem bdMo_back_27 : decode mMo_back.2.2.1 27 = .ok (.ifCond .ne 10, 3) := by decide +kernel
theorem bdMo_back_33 : decode mMo_back.2.2.1 33 = .ok (.invokevirtual 80, 3) := by decide +kernel
theorem bdMo_back_36 : decode mMo_back.2.2.1 36 = .ok (.ireturn, 1) := by decide +kernel
theorem bdMo_back_51 : decode mMo_back.2.2.1 51 = .ok (.invokestatic 76, 3) := by decide +kernel
theorem bdMo_back_66 : decode mMo_back.2.2.1 66 = .ok (.invokevirtual 84, 3) := by decide +kernel
theorem bdMo_back_69 : decode mMo_back.2.2.1 69 = .ok (.ireturn, 1) := by decide +kernel
theorem bMo_back {sg : zSig} {n : Int32} (n0 : 0 ≤ sg 395 0) (n2 : sg 395 0 ≤ 200) (g0 : 0 ≤ sg 395 1) (g1 : sg 395 1 ≤ 16) (a0 : 0 ≤ sg 395 2) (a1 : sg 395 2 ≤ 12) (b0 : 0 ≤ sg 393 6) (b1 : sg 393 6 ≤ 8) : zG mMo_back 411 (fun rr h' => (rr = some (.int (-1)) ∧ h' = zN (hRef sg (-1)) ∧ (¬ (0 ≤ n ∧ n ≤ 1))) ∨ (rr = some (.int (-2)) ∧ h' = zN (hRef sg (-2)) ∧ ((0 ≤ n ∧ n ≤ 1) ∧ sg 400 n = 0)) ∨ ((0 ≤ n ∧ n ≤ 1) ∧ sg 400 n ≠ 0 ∧ rr = some (.int (sg 399 (995 * n))) ∧ h' = zN (hTell (zup (zcp sg 399 395 (995 * n) 0 995) 393 6 0)))) 5 [(0, .ref 393), (1, .int n)] [] (zN sg) := by
  refine zG_run bkMo_back_5 (lv' := [(0, .ref 393), (1, .int n)]) (st' := [.long ((1 : Int32).toInt64), .long ((0 : Int32).toInt64), .long n.toInt64]) (h' := zN sg) (Ps := []) rfl trivial ?_
  refine zG_calls (As := [.long n.toInt64, .long ((0 : Int32).toInt64), .long ((1 : Int32).toInt64)]) (rest := []) (N2 := 411) bdMo_back_9 okMo_in lk10_87 (And.intro (by decide) (by decide)) rfl rfl (Nat.le_of_ble_eq_true rfl) (Nat.le_of_ble_eq_true rfl) (Nat.le_refl 411) (Nat.le_refl 411) cMo_inA ?_
  rintro rr h' ⟨rfl, rfl⟩ -
  refine zb_ifne (tgt := 21) bkMo_back_12 bdMo_back_12 (by decide) (lv' := [(0, .ref 393), (1, .int n)]) (st' := []) (h' := zN sg) (x := if 0 ≤ n ∧ n ≤ 1 then 1 else 0) (Ps := []) rfl trivial (fun c1 => ?_) (fun c1 => ?_)
  · skip
    have hc : 0 ≤ n ∧ n ≤ 1 := by grind
    refine zb_ifne (tgt := 37) bkMo_back_21 bdMo_back_27 (by decide) (lv' := [(0, .ref 393), (1, .int n)]) (st' := []) (h' := zN sg) (x := sg 400 n) (Ps := [zOb (zN sg) 393 10 ∧ (zN sg).2.2 393 9 = true, zIn (zN sg) 400 2 n]) rfl (zA ⟨zob_393, rfl⟩ (zA (zin_400 (i := n) (by lia) (by lia)) trivial)) (fun c2 => ?_) (fun c2 => ?_)
    · skip
      have hd : sg 400 n ≠ 0 := by assumption
      refine zG_run bkMo_back_37 (lv' := [(0, .ref 393), (1, .int n)]) (st' := [.int 0, .ref 395, .int (995 * n), .ref 399]) (h' := zN sg) (Ps := [zOb (zN sg) 393 10 ∧ (zN sg).2.2 393 8 = true, zOb (zN sg) 393 10 ∧ (zN sg).2.2 393 3 = true]) rfl (zA ⟨zob_393, rfl⟩ (zA ⟨zob_393, rfl⟩ trivial)) ?_
      refine zG_calls (As := [.ref 399, .int (995 * n), .ref 395, .int 0]) (rest := []) (N2 := 411) bdMo_back_51 okMo_copy lk10_76 (And.intro (by decide) (by decide)) rfl rfl (Nat.le_of_ble_eq_true rfl) (Nat.le_of_ble_eq_true rfl) (Nat.le_refl 411) (Nat.le_refl 411) (cMo_copy_399_395 (sp := 995 * n) (dp := 0) (by lia) (by lia) (by lia) (by lia)) ?_
      rintro rr h' ⟨rfl, rfl⟩ -
      refine zG_run bkMo_back_54 (lv' := [(0, .ref 393), (1, .int n)]) (st' := [.int ((zup (zcp sg 399 395 (995 * n) 0 995) 393 6 0) 395 0), .ref 393]) (h' := zN (zup (zcp sg 399 395 (995 * n) 0 995) 393 6 0)) (Ps := [zOb (zN (zcp sg 399 395 (995 * n) 0 995)) 393 10, zOb (zN (zup (zcp sg 399 395 (995 * n) 0 995) 393 6 0)) 393 10 ∧ (zN (zup (zcp sg 399 395 (995 * n) 0 995) 393 6 0)).2.2 393 3 = true, zInL (zN (zup (zcp sg 399 395 (995 * n) 0 995) 393 6 0)) 395 0]) rfl (zA zob_393 (zA ⟨zob_393, rfl⟩ (zA (zinL_395 (i := 0) (by decide) (by decide)) trivial))) ?_
      refine zG_callv (a := 393) (c := 10) (As := [.int ((zup (zcp sg 399 395 (995 * n) 0 995) 393 6 0) 395 0)]) (rest := []) (N2 := 411) bdMo_back_66 okMo_tell lk10_84 (And.intro (by decide) (by decide)) (by decide) rfl rfl rfl (Nat.le_of_ble_eq_true rfl) (Nat.le_of_ble_eq_true rfl) (Nat.le_refl 411) (Nat.le_refl 411) zob_393 cMo_tell ?_
      rintro rr h' ⟨rfl, rfl⟩ -
      refine zb_iret bkMo_back_69 bdMo_back_69 rfl (x := (zup (zcp sg 399 395 (995 * n) 0 995) 393 6 0) 395 0) (h' := zN (hTell (zup (zcp sg 399 395 (995 * n) 0 995) 393 6 0))) (Ps := []) rfl trivial rfl ?_
      exact Or.inr (Or.inr (⟨hc, hd, by rw [zup_a (by decide), zcp_e, if_pos ⟨rfl, by decide, by decide⟩, show 995 * n + (0 - 0) = 995 * n by grind], rfl⟩))
    · skip
      refine zG_run bkMo_back_30 (lv' := [(0, .ref 393), (1, .int n)]) (st' := [.int (-2), .ref 393]) (h' := zN sg) (Ps := []) rfl trivial ?_
      refine zG_callv (a := 393) (c := 10) (As := [.int (-2)]) (rest := []) (N2 := 411) bdMo_back_33 okMo_refuse lk10_80 (And.intro (by decide) (by decide)) (by decide) rfl rfl rfl (Nat.le_of_ble_eq_true rfl) (Nat.le_of_ble_eq_true rfl) (Nat.le_refl 411) (Nat.le_refl 411) zob_393 (cMo_refuse (by decide) (by decide)) ?_
      rintro rr h' ⟨rfl, rfl⟩ -
      refine zb_iret bkMo_back_36 bdMo_back_36 rfl (x := (-2)) (h' := zN (hRef sg (-2))) (Ps := []) rfl trivial rfl ?_
      exact Or.inr (Or.inl ⟨rfl, rfl, by grind⟩)
  · skip
    refine zG_run bkMo_back_15 (lv' := [(0, .ref 393), (1, .int n)]) (st' := [.int (-1), .ref 393]) (h' := zN sg) (Ps := []) rfl trivial ?_
    refine zG_callv (a := 393) (c := 10) (As := [.int (-1)]) (rest := []) (N2 := 411) bdMo_back_17 okMo_refuse lk10_80 (And.intro (by decide) (by decide)) (by decide) rfl rfl rfl (Nat.le_of_ble_eq_true rfl) (Nat.le_of_ble_eq_true rfl) (Nat.le_refl 411) (Nat.le_refl 411) zob_393 (cMo_refuse (by decide) (by decide)) ?_
    rintro rr h' ⟨rfl, rfl⟩ -
    refine zb_iret bkMo_back_20 bdMo_back_20 rfl (x := (-1)) (h' := zN (hRef sg (-1))) (Ps := []) rfl trivial rfl ?_
    exact Or.inl ⟨rfl, rfl, by grind⟩
theorem tMo_back {sg : zSig} {n : Int32} {Q : Option Value → zHp → Prop} (g : zG mMo_back 411 Q 5 [(0, .ref 393), (1, .int n)] [] (zN (zup sg 393 0 0))) : zG mMo_back 411 Q 0 [(0, .ref 393), (1, .int n)] [] (zN sg) :=
  zG_run bkMo_back_0 (lv' := [(0, .ref 393), (1, .int n)]) (st' := []) (h' := zN (zup sg 393 0 0)) (Ps := [zOb (zN sg) 393 10]) rfl (zA zob_393 trivial) g
theorem bkMo_undo_5 : zBk mMo_undo 5 [(1, 0, 1, 0, 0), (5, 10, 6, 0, 6)] = some 9 := by decide +kernel
theorem bkMo_undo_19 : zBk mMo_undo 19 [(1, 0, 1, 0, 0), (18, 0, 0, 0, 0), (5, 10, 6, 0, 6), (0, 0, 0, 0, 1), (4, 1, 0, 0, 0), (6, 10, 6, 0, 6), (1, 0, 1, 0, 0), (5, 10, 4, 3, 4), (0, 0, 0, 0, 995), (1, 0, 1, 0, 0), (5, 10, 6, 0, 6), (4, 2, 0, 0, 0), (1, 0, 1, 0, 0), (5, 10, 3, 2, 3), (0, 0, 0, 0, 0)] = some 46 := by decide +kernel
theorem bkMo_undo_49 : zBk mMo_undo 49 [(1, 0, 1, 0, 0), (1, 0, 1, 0, 0), (5, 10, 5, 4, 5), (1, 0, 1, 0, 0), (5, 10, 6, 0, 6), (7, 0, 0, 0, 0)] = some 59 := by decide +kernel
theorem bkMo_undo_62 : zBk mMo_undo 62 [] = some 62 := by decide +kernel
theorem bkMo_undo_12 : zBk mMo_undo 12 [(1, 0, 1, 0, 0), (0, 0, 0, 0, -4)] = some 15 := by decide +kernel
theorem bkMo_undo_18 : zBk mMo_undo 18 [] = some 18 := by decide +kernel
theorem bkMo_undo_0 : zBk mMo_undo 0 [(1, 0, 1, 0, 0), (0, 0, 0, 0, 0), (6, 10, 0, 0, 0)] = some 5 := by decide +kernel
theorem bdMo_undo_9 : decode mMo_undo.2.2.1 9 = .ok (.ifCond .ne 10, 3) := by decide +kernel
theorem bdMo_undo_15 : decode mMo_undo.2.2.1 15 = .ok (.invokevirtual 80, 3) := by decide +kernel
theorem bdMo_undo_18 : decode mMo_undo.2.2.1 18 = .ok (.ireturn, 1) := by decide +kernel
theorem bdMo_undo_46 : decode mMo_undo.2.2.1 46 = .ok (.invokestatic 76, 3) := by decide +kernel
theorem bdMo_undo_59 : decode mMo_undo.2.2.1 59 = .ok (.invokevirtual 84, 3) := by decide +kernel
theorem bdMo_undo_62 : decode mMo_undo.2.2.1 62 = .ok (.ireturn, 1) := by decide +kernel
theorem bMo_undo {sg : zSig}  (n0 : 0 ≤ sg 395 0) (n2 : sg 395 0 ≤ 200) (g0 : 0 ≤ sg 395 1) (g1 : sg 395 1 ≤ 16) (a0 : 0 ≤ sg 395 2) (a1 : sg 395 2 ≤ 12) (b0 : 0 ≤ sg 393 6) (b1 : sg 393 6 ≤ 8) : zG mMo_undo 411 (fun rr h' => (rr = some (.int (-4)) ∧ h' = zN (hRef sg (-4)) ∧ (sg 393 6 = 0)) ∨ (sg 393 6 ≠ 0 ∧ rr = some (.int (sg 397 (sg 393 6 - 1))) ∧ h' = zN (hTell (zcp (zup sg 393 6 (sg 393 6 - 1)) 396 395 (995 * (sg 393 6 - 1)) 0 995)))) 5 [(0, .ref 393)] [] (zN sg) := by
  refine zb_ifne (tgt := 19) bkMo_undo_5 bdMo_undo_9 (by decide) (lv' := [(0, .ref 393)]) (st' := []) (h' := zN sg) (x := sg 393 6) (Ps := [zOb (zN sg) 393 10]) rfl (zA zob_393 trivial) (fun c1 => ?_) (fun c1 => ?_)
  · skip
    refine zG_run bkMo_undo_19 (lv' := [(0, .ref 393)]) (st' := [.int 0, .ref 395, .int (995 * ((zup sg 393 6 ((sg 393 6) - 1)) 393 6)), .ref 396]) (h' := zN (zup sg 393 6 ((sg 393 6) - 1))) (Ps := [zOb (zN sg) 393 10, zOb (zN sg) 393 10, zOb (zN (zup sg 393 6 ((sg 393 6) - 1))) 393 10 ∧ (zN (zup sg 393 6 ((sg 393 6) - 1))).2.2 393 4 = true, zOb (zN (zup sg 393 6 ((sg 393 6) - 1))) 393 10, zOb (zN (zup sg 393 6 ((sg 393 6) - 1))) 393 10 ∧ (zN (zup sg 393 6 ((sg 393 6) - 1))).2.2 393 3 = true]) rfl (zA zob_393 (zA zob_393 (zA ⟨zob_393, rfl⟩ (zA zob_393 (zA ⟨zob_393, rfl⟩ trivial))))) ?_
    refine zG_calls (As := [.ref 396, .int (995 * ((zup sg 393 6 ((sg 393 6) - 1)) 393 6)), .ref 395, .int 0]) (rest := []) (N2 := 411) bdMo_undo_46 okMo_copy lk10_76 (And.intro (by decide) (by decide)) rfl rfl (Nat.le_of_ble_eq_true rfl) (Nat.le_of_ble_eq_true rfl) (Nat.le_refl 411) (Nat.le_refl 411) (cMo_copy_396_395 (sp := 995 * ((zup sg 393 6 ((sg 393 6) - 1)) 393 6)) (dp := 0) (by (try rw [zcp_e, if_neg (fun q => absurd q.1 (by decide))]); (try rw [zup_s]); lia) (by (try rw [zcp_e, if_neg (fun q => absurd q.1 (by decide))]); (try rw [zup_s]); lia) (by (try rw [zcp_e, if_neg (fun q => absurd q.1 (by decide))]); (try rw [zup_s]); lia) (by (try rw [zcp_e, if_neg (fun q => absurd q.1 (by decide))]); (try rw [zup_s]); lia)) ?_
    rintro rr h' ⟨rfl, rfl⟩ -
    refine zG_run bkMo_undo_49 (lv' := [(0, .ref 393)]) (st' := [.int ((zcp (zup sg 393 6 ((sg 393 6) - 1)) 396 395 (995 * ((zup sg 393 6 ((sg 393 6) - 1)) 393 6)) 0 995) 397 ((zcp (zup sg 393 6 ((sg 393 6) - 1)) 396 395 (995 * ((zup sg 393 6 ((sg 393 6) - 1)) 393 6)) 0 995) 393 6)), .ref 393]) (h' := zN (zcp (zup sg 393 6 ((sg 393 6) - 1)) 396 395 (995 * ((zup sg 393 6 ((sg 393 6) - 1)) 393 6)) 0 995)) (Ps := [zOb (zN (zcp (zup sg 393 6 ((sg 393 6) - 1)) 396 395 (995 * ((zup sg 393 6 ((sg 393 6) - 1)) 393 6)) 0 995)) 393 10 ∧ (zN (zcp (zup sg 393 6 ((sg 393 6) - 1)) 396 395 (995 * ((zup sg 393 6 ((sg 393 6) - 1)) 393 6)) 0 995)).2.2 393 5 = true, zOb (zN (zcp (zup sg 393 6 ((sg 393 6) - 1)) 396 395 (995 * ((zup sg 393 6 ((sg 393 6) - 1)) 393 6)) 0 995)) 393 10, zInL (zN (zcp (zup sg 393 6 ((sg 393 6) - 1)) 396 395 (995 * ((zup sg 393 6 ((sg 393 6) - 1)) 393 6)) 0 995)) 397 ((zcp (zup sg 393 6 ((sg 393 6) - 1)) 396 395 (995 * ((zup sg 393 6 ((sg 393 6) - 1)) 393 6)) 0 995) 393 6)]) rfl (zA ⟨zob_393, rfl⟩ (zA zob_393 (zA (zinL_397 (i := (zcp (zup sg 393 6 ((sg 393 6) - 1)) 396 395 (995 * ((zup sg 393 6 ((sg 393 6) - 1)) 393 6)) 0 995) 393 6) (by (try rw [zcp_e, if_neg (fun q => absurd q.1 (by decide))]); (try rw [zup_s]); lia) (by (try rw [zcp_e, if_neg (fun q => absurd q.1 (by decide))]); (try rw [zup_s]); lia)) trivial))) ?_
    refine zG_callv (a := 393) (c := 10) (As := [.int ((zcp (zup sg 393 6 ((sg 393 6) - 1)) 396 395 (995 * ((zup sg 393 6 ((sg 393 6) - 1)) 393 6)) 0 995) 397 ((zcp (zup sg 393 6 ((sg 393 6) - 1)) 396 395 (995 * ((zup sg 393 6 ((sg 393 6) - 1)) 393 6)) 0 995) 393 6))]) (rest := []) (N2 := 411) bdMo_undo_59 okMo_tell lk10_84 (And.intro (by decide) (by decide)) (by decide) rfl rfl rfl (Nat.le_of_ble_eq_true rfl) (Nat.le_of_ble_eq_true rfl) (Nat.le_refl 411) (Nat.le_refl 411) zob_393 cMo_tell ?_
    rintro rr h' ⟨rfl, rfl⟩ -
    refine zb_iret bkMo_undo_62 bdMo_undo_62 rfl (x := (zcp (zup sg 393 6 ((sg 393 6) - 1)) 396 395 (995 * ((zup sg 393 6 ((sg 393 6) - 1)) 393 6)) 0 995) 397 ((zcp (zup sg 393 6 ((sg 393 6) - 1)) 396 395 (995 * ((zup sg 393 6 ((sg 393 6) - 1)) 393 6)) 0 995) 393 6)) (h' := zN (hTell (zcp (zup sg 393 6 ((sg 393 6) - 1)) 396 395 (995 * ((zup sg 393 6 ((sg 393 6) - 1)) 393 6)) 0 995))) (Ps := []) rfl trivial rfl ?_
    have e1 : zcp (zup sg 393 6 (sg 393 6 - 1)) 396 395 (995 * zup sg 393 6 (sg 393 6 - 1) 393 6) 0 995 = zcp (zup sg 393 6 (sg 393 6 - 1)) 396 395 (995 * (sg 393 6 - 1)) 0 995 := by rw [zup_s]
    have e2 : zcp (zup sg 393 6 (sg 393 6 - 1)) 396 395 (995 * (sg 393 6 - 1)) 0 995 393 6 = sg 393 6 - 1 := by rw [zcp_e, if_neg (fun q => absurd q.1 (by decide)), zup_s]
    exact Or.inr (⟨by assumption, by rw [e1, e2, zcp_e, if_neg (fun q => absurd q.1 (by decide)), zup_a (by decide)], by rw [e1]⟩)
  · skip
    refine zG_run bkMo_undo_12 (lv' := [(0, .ref 393)]) (st' := [.int (-4), .ref 393]) (h' := zN sg) (Ps := []) rfl trivial ?_
    refine zG_callv (a := 393) (c := 10) (As := [.int (-4)]) (rest := []) (N2 := 411) bdMo_undo_15 okMo_refuse lk10_80 (And.intro (by decide) (by decide)) (by decide) rfl rfl rfl (Nat.le_of_ble_eq_true rfl) (Nat.le_of_ble_eq_true rfl) (Nat.le_refl 411) (Nat.le_refl 411) zob_393 (cMo_refuse (by decide) (by decide)) ?_
    rintro rr h' ⟨rfl, rfl⟩ -
    refine zb_iret bkMo_undo_18 bdMo_undo_18 rfl (x := (-4)) (h' := zN (hRef sg (-4))) (Ps := []) rfl trivial rfl ?_
    exact Or.inl ⟨rfl, rfl, by grind⟩
theorem tMo_undo {sg : zSig}  {Q : Option Value → zHp → Prop} (g : zG mMo_undo 411 Q 5 [(0, .ref 393)] [] (zN (zup sg 393 0 0))) : zG mMo_undo 411 Q 0 [(0, .ref 393)] [] (zN sg) :=
  zG_run bkMo_undo_0 (lv' := [(0, .ref 393)]) (st' := []) (h' := zN (zup sg 393 0 0)) (Ps := [zOb (zN sg) 393 10]) rfl (zA zob_393 trivial) g
def hFdM (sg : zSig) (a b c d e : Int32) : zSig := hCm (hCm (hCm (hCm (hCm sg a) b) c) d) e
theorem hCm_len {sg : zSig} {v : Int32} : hCm sg v 393 11 = sg 393 11 + 4 := by unfold hCm; rw [if_pos ⟨rfl, rfl⟩]
theorem bkMo_feed_5 : zBk mMo_feed 5 [(1, 0, 1, 0, 0), (5, 10, 11, 0, 11), (0, 0, 0, 0, 380)] = some 12 := by decide +kernel
theorem bkMo_feed_17 : zBk mMo_feed 17 [(1, 0, 1, 0, 0), (1, 1, 0, 0, 0)] = some 19 := by decide +kernel
theorem bkMo_feed_22 : zBk mMo_feed 22 [(1, 0, 1, 0, 0), (1, 2, 0, 0, 0)] = some 24 := by decide +kernel
theorem bkMo_feed_27 : zBk mMo_feed 27 [(1, 0, 1, 0, 0), (1, 3, 0, 0, 0)] = some 29 := by decide +kernel
theorem bkMo_feed_32 : zBk mMo_feed 32 [(1, 0, 1, 0, 0), (1, 4, 0, 0, 0)] = some 35 := by decide +kernel
theorem bkMo_feed_38 : zBk mMo_feed 38 [(1, 0, 1, 0, 0), (1, 5, 0, 0, 0)] = some 41 := by decide +kernel
theorem bkMo_feed_44 : zBk mMo_feed 44 [(1, 0, 1, 0, 0), (5, 10, 11, 0, 11)] = some 48 := by decide +kernel
theorem bkMo_feed_15 : zBk mMo_feed 15 [(0, 0, 0, 0, -1)] = some 16 := by decide +kernel
theorem bkMo_feed_0 : zBk mMo_feed 0 [(1, 0, 1, 0, 0), (0, 0, 0, 0, 0), (6, 10, 0, 0, 0)] = some 5 := by decide +kernel
theorem bdMo_feed_12 : decode mMo_feed.2.2.1 12 = .ok (.if_icmp .le 5, 3) := by decide +kernel
theorem bdMo_feed_16 : decode mMo_feed.2.2.1 16 = .ok (.ireturn, 1) := by decide +kernel
theorem bdMo_feed_19 : decode mMo_feed.2.2.1 19 = .ok (.invokevirtual 116, 3) := by decide +kernel
theorem bdMo_feed_24 : decode mMo_feed.2.2.1 24 = .ok (.invokevirtual 116, 3) := by decide +kernel
theorem bdMo_feed_29 : decode mMo_feed.2.2.1 29 = .ok (.invokevirtual 116, 3) := by decide +kernel
theorem bdMo_feed_35 : decode mMo_feed.2.2.1 35 = .ok (.invokevirtual 116, 3) := by decide +kernel
theorem bdMo_feed_41 : decode mMo_feed.2.2.1 41 = .ok (.invokevirtual 116, 3) := by decide +kernel
theorem bdMo_feed_48 : decode mMo_feed.2.2.1 48 = .ok (.ireturn, 1) := by decide +kernel
theorem bMo_feed {sg : zSig} {a b c d e : Int32}  (t0 : 0 ≤ sg 393 11) (t1 : sg 393 11 ≤ 400) : zG mMo_feed 411 (fun rr h' => (rr = some (.int (-1)) ∧ h' = zN sg ∧ 380 < sg 393 11) ∨ (rr = some (.int (sg 393 11 + 20)) ∧ h' = zN (hFdM sg a b c d e) ∧ sg 393 11 ≤ 380)) 5 [(0, .ref 393), (1, .int a), (2, .int b), (3, .int c), (4, .int d), (5, .int e)] [] (zN sg) := by
  refine zb_icle (tgt := 17) bkMo_feed_5 bdMo_feed_12 (by decide) (lv' := [(0, .ref 393), (1, .int a), (2, .int b), (3, .int c), (4, .int d), (5, .int e)]) (st' := []) (h' := zN sg) (x := sg 393 11) (y := 380) (Ps := [zOb (zN sg) 393 10]) rfl (zA zob_393 trivial) (fun c1 => ?_) (fun c1 => ?_)
  · skip
    refine zG_run bkMo_feed_17 (lv' := [(0, .ref 393), (1, .int a), (2, .int b), (3, .int c), (4, .int d), (5, .int e)]) (st' := [.int a, .ref 393]) (h' := zN sg) (Ps := []) rfl trivial ?_
    refine zG_callv (a := 393) (c := 10) (As := [.int a]) (rest := []) (N2 := 411) bdMo_feed_19 okMo_comes lk10_116 (And.intro (by decide) (by decide)) (by decide) rfl rfl rfl (Nat.le_of_ble_eq_true rfl) (Nat.le_of_ble_eq_true rfl) (Nat.le_refl 411) (Nat.le_refl 411) zob_393 (cMo_comes (by (try simp only [hCm_len]); lia) (by (try simp only [hCm_len]); lia)) ?_
    rintro rr h' ⟨rfl, rfl⟩ -
    refine zG_run bkMo_feed_22 (lv' := [(0, .ref 393), (1, .int a), (2, .int b), (3, .int c), (4, .int d), (5, .int e)]) (st' := [.int b, .ref 393]) (h' := zN (hCm sg a)) (Ps := []) rfl trivial ?_
    refine zG_callv (a := 393) (c := 10) (As := [.int b]) (rest := []) (N2 := 411) bdMo_feed_24 okMo_comes lk10_116 (And.intro (by decide) (by decide)) (by decide) rfl rfl rfl (Nat.le_of_ble_eq_true rfl) (Nat.le_of_ble_eq_true rfl) (Nat.le_refl 411) (Nat.le_refl 411) zob_393 (cMo_comes (by (try simp only [hCm_len]); lia) (by (try simp only [hCm_len]); lia)) ?_
    rintro rr h' ⟨rfl, rfl⟩ -
    refine zG_run bkMo_feed_27 (lv' := [(0, .ref 393), (1, .int a), (2, .int b), (3, .int c), (4, .int d), (5, .int e)]) (st' := [.int c, .ref 393]) (h' := zN (hCm (hCm sg a) b)) (Ps := []) rfl trivial ?_
    refine zG_callv (a := 393) (c := 10) (As := [.int c]) (rest := []) (N2 := 411) bdMo_feed_29 okMo_comes lk10_116 (And.intro (by decide) (by decide)) (by decide) rfl rfl rfl (Nat.le_of_ble_eq_true rfl) (Nat.le_of_ble_eq_true rfl) (Nat.le_refl 411) (Nat.le_refl 411) zob_393 (cMo_comes (by (try simp only [hCm_len]); lia) (by (try simp only [hCm_len]); lia)) ?_
    rintro rr h' ⟨rfl, rfl⟩ -
    refine zG_run bkMo_feed_32 (lv' := [(0, .ref 393), (1, .int a), (2, .int b), (3, .int c), (4, .int d), (5, .int e)]) (st' := [.int d, .ref 393]) (h' := zN (hCm (hCm (hCm sg a) b) c)) (Ps := []) rfl trivial ?_
    refine zG_callv (a := 393) (c := 10) (As := [.int d]) (rest := []) (N2 := 411) bdMo_feed_35 okMo_comes lk10_116 (And.intro (by decide) (by decide)) (by decide) rfl rfl rfl (Nat.le_of_ble_eq_true rfl) (Nat.le_of_ble_eq_true rfl) (Nat.le_refl 411) (Nat.le_refl 411) zob_393 (cMo_comes (by (try simp only [hCm_len]); lia) (by (try simp only [hCm_len]); lia)) ?_
    rintro rr h' ⟨rfl, rfl⟩ -
    refine zG_run bkMo_feed_38 (lv' := [(0, .ref 393), (1, .int a), (2, .int b), (3, .int c), (4, .int d), (5, .int e)]) (st' := [.int e, .ref 393]) (h' := zN (hCm (hCm (hCm (hCm sg a) b) c) d)) (Ps := []) rfl trivial ?_
    refine zG_callv (a := 393) (c := 10) (As := [.int e]) (rest := []) (N2 := 411) bdMo_feed_41 okMo_comes lk10_116 (And.intro (by decide) (by decide)) (by decide) rfl rfl rfl (Nat.le_of_ble_eq_true rfl) (Nat.le_of_ble_eq_true rfl) (Nat.le_refl 411) (Nat.le_refl 411) zob_393 (cMo_comes (by (try simp only [hCm_len]); lia) (by (try simp only [hCm_len]); lia)) ?_
    rintro rr h' ⟨rfl, rfl⟩ -
    refine zb_iret bkMo_feed_44 bdMo_feed_48 rfl (x := (hCm (hCm (hCm (hCm (hCm sg a) b) c) d) e) 393 11) (h' := zN (hCm (hCm (hCm (hCm (hCm sg a) b) c) d) e)) (Ps := [zOb (zN (hCm (hCm (hCm (hCm (hCm sg a) b) c) d) e)) 393 10]) rfl (zA zob_393 trivial) rfl ?_
    first | exact Or.inl ⟨rfl, rfl, by lia⟩ | exact Or.inr ⟨by rw [show sg 393 11 + 20 = sg 393 11 + 4 + 4 + 4 + 4 + 4 by grind]; simp only [hCm_len], rfl, by lia⟩
  · skip
    refine zb_iret bkMo_feed_15 bdMo_feed_16 rfl (x := (-1)) (h' := zN sg) (Ps := []) rfl trivial rfl ?_
    first | exact Or.inl ⟨rfl, rfl, by lia⟩ | exact Or.inr ⟨by rw [show sg 393 11 + 20 = sg 393 11 + 4 + 4 + 4 + 4 + 4 by grind]; simp only [hCm_len], rfl, by lia⟩
theorem tMo_feed {sg : zSig} {a b c d e : Int32} {Q : Option Value → zHp → Prop} (g : zG mMo_feed 411 Q 5 [(0, .ref 393), (1, .int a), (2, .int b), (3, .int c), (4, .int d), (5, .int e)] [] (zN (zup sg 393 0 0))) : zG mMo_feed 411 Q 0 [(0, .ref 393), (1, .int a), (2, .int b), (3, .int c), (4, .int d), (5, .int e)] [] (zN sg) :=
  zG_run bkMo_feed_0 (lv' := [(0, .ref 393), (1, .int a), (2, .int b), (3, .int c), (4, .int d), (5, .int e)]) (st' := []) (h' := zN (zup sg 393 0 0)) (Ps := [zOb (zN sg) 393 10]) rfl (zA zob_393 trivial) g
theorem bkMo_end_5 : zBk mMo_end 5 [(1, 1, 0, 0, 0), (14, 0, 0, 0, 0), (15, 0, 0, 0, 0), (1, 0, 1, 0, 0), (5, 10, 11, 0, 11), (14, 0, 0, 0, 0)] = some 13 := by decide +kernel
theorem bkMo_end_16 : zBk mMo_end 16 [] = some 16 := by decide +kernel
theorem bkMo_end_21 : zBk mMo_end 21 [(1, 0, 1, 0, 0), (1, 1, 0, 0, 0), (6, 10, 11, 0, 11), (1, 1, 0, 0, 0)] = some 27 := by decide +kernel
theorem bkMo_end_19 : zBk mMo_end 19 [(0, 0, 0, 0, -1)] = some 20 := by decide +kernel
theorem bkMo_end_0 : zBk mMo_end 0 [(1, 0, 1, 0, 0), (0, 0, 0, 0, 0), (6, 10, 0, 0, 0)] = some 5 := by decide +kernel
theorem bdMo_end_13 : decode mMo_end.2.2.1 13 = .ok (.invokestatic 87, 3) := by decide +kernel
theorem bdMo_end_16 : decode mMo_end.2.2.1 16 = .ok (.ifCond .ne 5, 3) := by decide +kernel
theorem bdMo_end_20 : decode mMo_end.2.2.1 20 = .ok (.ireturn, 1) := by decide +kernel
theorem bdMo_end_27 : decode mMo_end.2.2.1 27 = .ok (.ireturn, 1) := by decide +kernel
theorem bMo_end {sg : zSig} {n : Int32}  : zG mMo_end 411 (fun rr h' => (rr = some (.int (-1)) ∧ h' = zN sg ∧ ¬ (0 ≤ n ∧ n ≤ sg 393 11)) ∨ (rr = some (.int n) ∧ h' = zN (zup sg 393 11 n) ∧ 0 ≤ n ∧ n ≤ sg 393 11)) 5 [(0, .ref 393), (1, .int n)] [] (zN sg) := by
  refine zG_run bkMo_end_5 (lv' := [(0, .ref 393), (1, .int n)]) (st' := [.long ((sg 393 11).toInt64), .long ((0 : Int32).toInt64), .long n.toInt64]) (h' := zN sg) (Ps := [zOb (zN sg) 393 10]) rfl (zA zob_393 trivial) ?_
  refine zG_calls (As := [.long n.toInt64, .long ((0 : Int32).toInt64), .long ((sg 393 11).toInt64)]) (rest := []) (N2 := 411) bdMo_end_13 okMo_in lk10_87 (And.intro (by decide) (by decide)) rfl rfl (Nat.le_of_ble_eq_true rfl) (Nat.le_of_ble_eq_true rfl) (Nat.le_refl 411) (Nat.le_refl 411) cMo_inA ?_
  rintro rr h' ⟨rfl, rfl⟩ -
  refine zb_ifne (tgt := 21) bkMo_end_16 bdMo_end_16 (by decide) (lv' := [(0, .ref 393), (1, .int n)]) (st' := []) (h' := zN sg) (x := if 0 ≤ n ∧ n ≤ (sg 393 11) then 1 else 0) (Ps := []) rfl trivial (fun c1 => ?_) (fun c1 => ?_)
  · skip
    refine zb_iret bkMo_end_21 bdMo_end_27 rfl (x := n) (h' := zN (zup sg 393 11 n)) (Ps := [zOb (zN sg) 393 10]) rfl (zA zob_393 trivial) rfl ?_
    first | exact Or.inl ⟨rfl, rfl, by grind⟩ | exact Or.inr ⟨rfl, rfl, by grind⟩
  · skip
    refine zb_iret bkMo_end_19 bdMo_end_20 rfl (x := (-1)) (h' := zN sg) (Ps := []) rfl trivial rfl ?_
    first | exact Or.inl ⟨rfl, rfl, by grind⟩ | exact Or.inr ⟨rfl, rfl, by grind⟩
theorem tMo_end {sg : zSig} {n : Int32} {Q : Option Value → zHp → Prop} (g : zG mMo_end 411 Q 5 [(0, .ref 393), (1, .int n)] [] (zN (zup sg 393 0 0))) : zG mMo_end 411 Q 0 [(0, .ref 393), (1, .int n)] [] (zN sg) :=
  zG_run bkMo_end_0 (lv' := [(0, .ref 393), (1, .int n)]) (st' := []) (h' := zN (zup sg 393 0 0)) (Ps := [zOb (zN sg) 393 10]) rfl (zA zob_393 trivial) g
theorem bkMo_tape_5 : zBk mMo_tape 5 [(1, 1, 0, 0, 0), (14, 0, 0, 0, 0), (15, 0, 0, 0, 0), (1, 0, 1, 0, 0), (5, 10, 11, 0, 11), (14, 0, 0, 0, 0), (15, 0, 0, 0, 1), (16, 0, 0, 0, 0)] = some 15 := by decide +kernel
theorem bkMo_tape_18 : zBk mMo_tape 18 [] = some 18 := by decide +kernel
theorem bkMo_tape_34 : zBk mMo_tape 34 [(0, 0, 0, 0, -1)] = some 35 := by decide +kernel
theorem bkMo_tape_21 : zBk mMo_tape 21 [(1, 0, 1, 0, 0), (5, 10, 10, 8, 10), (1, 1, 0, 0, 0), (7, 1, 0, 0, 0), (0, 0, 0, 0, 255), (4, 3, 0, 0, 0), (22, 35, 0, 0, 0)] = some 35 := by decide +kernel
theorem bkMo_tape_0 : zBk mMo_tape 0 [(1, 0, 1, 0, 0), (0, 0, 0, 0, 0), (6, 10, 0, 0, 0)] = some 5 := by decide +kernel
theorem bdMo_tape_15 : decode mMo_tape.2.2.1 15 = .ok (.invokestatic 87, 3) := by decide +kernel
theorem bdMo_tape_18 : decode mMo_tape.2.2.1 18 = .ok (.ifCond .eq 16, 3) := by decide +kernel
theorem bdMo_tape_35 : decode mMo_tape.2.2.1 35 = .ok (.ireturn, 1) := by decide +kernel
theorem bMo_tape {sg : zSig} {i : Int32}  (t0 : 0 ≤ sg 393 11) (t1 : sg 393 11 ≤ 400) : zG mMo_tape 411 (fun rr h' => rr = some (.int (if 0 ≤ i ∧ i < sg 393 11 then sg 401 i &&& 255 else -1)) ∧ h' = zN sg) 5 [(0, .ref 393), (1, .int i)] [] (zN sg) := by
  refine zG_run bkMo_tape_5 (lv' := [(0, .ref 393), (1, .int i)]) (st' := [.long (((sg 393 11).toInt64) - ((1 : Int32).toInt64)), .long ((0 : Int32).toInt64), .long i.toInt64]) (h' := zN sg) (Ps := [zOb (zN sg) 393 10]) rfl (zA zob_393 trivial) ?_
  refine zG_calls (As := [.long i.toInt64, .long ((0 : Int32).toInt64), .long (((sg 393 11).toInt64) - ((1 : Int32).toInt64))]) (rest := []) (N2 := 411) bdMo_tape_15 okMo_in lk10_87 (And.intro (by decide) (by decide)) rfl rfl (Nat.le_of_ble_eq_true rfl) (Nat.le_of_ble_eq_true rfl) (Nat.le_refl 411) (Nat.le_refl 411) cMo_inB ?_
  rintro rr h' ⟨rfl, rfl⟩ -
  refine zb_ifeq (tgt := 34) bkMo_tape_18 bdMo_tape_18 (by decide) (lv' := [(0, .ref 393), (1, .int i)]) (st' := []) (h' := zN sg) (x := if 0 ≤ i ∧ i < (sg 393 11) then 1 else 0) (Ps := []) rfl trivial (fun c1 => ?_) (fun c1 => ?_)
  · skip
    refine zb_iret bkMo_tape_34 bdMo_tape_35 rfl (x := (-1)) (h' := zN sg) (Ps := []) rfl trivial rfl ?_
    exact ⟨by grind, rfl⟩
  · skip
    refine zb_iret bkMo_tape_21 bdMo_tape_35 rfl (x := (sg 401 i) &&& 255) (h' := zN sg) (Ps := [zOb (zN sg) 393 10 ∧ (zN sg).2.2 393 10 = true, zIn (zN sg) 401 1 i]) rfl (zA ⟨zob_393, rfl⟩ (zA (zin_401 (i := i) (by grind) (by grind)) trivial)) rfl ?_
    exact ⟨by grind, rfl⟩
theorem tMo_tape {sg : zSig} {i : Int32} {Q : Option Value → zHp → Prop} (g : zG mMo_tape 411 Q 5 [(0, .ref 393), (1, .int i)] [] (zN (zup sg 393 0 0))) : zG mMo_tape 411 Q 0 [(0, .ref 393), (1, .int i)] [] (zN sg) :=
  zG_run bkMo_tape_0 (lv' := [(0, .ref 393), (1, .int i)]) (st' := []) (h' := zN (zup sg 393 0 0)) (Ps := [zOb (zN sg) 393 10]) rfl (zA zob_393 trivial) g
theorem bkMo_status_5 : zBk mMo_status 5 [(1, 0, 1, 0, 0), (5, 10, 1, 0, 1)] = some 9 := by decide +kernel
theorem bkMo_status_0 : zBk mMo_status 0 [(1, 0, 1, 0, 0), (0, 0, 0, 0, 0), (6, 10, 0, 0, 0)] = some 5 := by decide +kernel
theorem bdMo_status_9 : decode mMo_status.2.2.1 9 = .ok (.ireturn, 1) := by decide +kernel
theorem bMo_status {sg : zSig}   : zG mMo_status 411 (fun rr h' => rr = some (.int (sg 393 1)) ∧ h' = zN sg) 5 [(0, .ref 393)] [] (zN sg) := by
  refine zb_iret bkMo_status_5 bdMo_status_9 rfl (x := sg 393 1) (h' := zN sg) (Ps := [zOb (zN sg) 393 10]) rfl (zA zob_393 trivial) rfl ?_
  exact ⟨rfl, rfl⟩
theorem tMo_status {sg : zSig}  {Q : Option Value → zHp → Prop} (g : zG mMo_status 411 Q 5 [(0, .ref 393)] [] (zN (zup sg 393 0 0))) : zG mMo_status 411 Q 0 [(0, .ref 393)] [] (zN sg) :=
  zG_run bkMo_status_0 (lv' := [(0, .ref 393)]) (st' := []) (h' := zN (zup sg 393 0 0)) (Ps := [zOb (zN sg) 393 10]) rfl (zA zob_393 trivial) g
theorem bkMo_fault_5 : zBk mMo_fault 5 [(1, 0, 1, 0, 0), (5, 10, 12, 0, 12)] = some 9 := by decide +kernel
theorem bkMo_fault_0 : zBk mMo_fault 0 [(1, 0, 1, 0, 0), (0, 0, 0, 0, 0), (6, 10, 0, 0, 0)] = some 5 := by decide +kernel
theorem bdMo_fault_9 : decode mMo_fault.2.2.1 9 = .ok (.ireturn, 1) := by decide +kernel
theorem bMo_fault {sg : zSig}   : zG mMo_fault 411 (fun rr h' => rr = some (.int (sg 393 12)) ∧ h' = zN sg) 5 [(0, .ref 393)] [] (zN sg) := by
  refine zb_iret bkMo_fault_5 bdMo_fault_9 rfl (x := sg 393 12) (h' := zN sg) (Ps := [zOb (zN sg) 393 10]) rfl (zA zob_393 trivial) rfl ?_
  exact ⟨rfl, rfl⟩
theorem tMo_fault {sg : zSig}  {Q : Option Value → zHp → Prop} (g : zG mMo_fault 411 Q 5 [(0, .ref 393)] [] (zN (zup sg 393 0 0))) : zG mMo_fault 411 Q 0 [(0, .ref 393)] [] (zN sg) :=
  zG_run bkMo_fault_0 (lv' := [(0, .ref 393)]) (st' := []) (h' := zN (zup sg 393 0 0)) (Ps := [zOb (zN sg) 393 10]) rfl (zA zob_393 trivial) g
theorem bkMo_letter_5 : zBk mMo_letter 5 [(1, 0, 1, 0, 0), (1, 1, 0, 0, 0)] = some 7 := by decide +kernel
theorem bkMo_letter_10 : zBk mMo_letter 10 [] = some 10 := by decide +kernel
theorem bkMo_letter_25 : zBk mMo_letter 25 [(0, 0, 0, 0, -1)] = some 26 := by decide +kernel
theorem bkMo_letter_13 : zBk mMo_letter 13 [(1, 0, 1, 0, 0), (5, 10, 3, 2, 3), (1, 1, 0, 0, 0)] = some 18 := by decide +kernel
theorem bkMo_letter_21 : zBk mMo_letter 21 [(7, 0, 0, 0, 0), (22, 26, 0, 0, 0)] = some 26 := by decide +kernel
theorem bkMo_letter_0 : zBk mMo_letter 0 [(1, 0, 1, 0, 0), (0, 0, 0, 0, 0), (6, 10, 0, 0, 0)] = some 5 := by decide +kernel
theorem bdMo_letter_7 : decode mMo_letter.2.2.1 7 = .ok (.invokevirtual 258, 3) := by decide +kernel
theorem bdMo_letter_10 : decode mMo_letter.2.2.1 10 = .ok (.ifCond .eq 15, 3) := by decide +kernel
theorem bdMo_letter_18 : decode mMo_letter.2.2.1 18 = .ok (.invokestatic 141, 3) := by decide +kernel
theorem bdMo_letter_26 : decode mMo_letter.2.2.1 26 = .ok (.ireturn, 1) := by decide +kernel
theorem bMo_letter {sg : zSig} {i : Int32} (n2 : sg 395 0 ≤ 200) : zG mMo_letter 411 (fun rr h' => rr = some (.int (if 0 ≤ i ∧ i < sg 395 0 then sg 395 (3 + 4 * i) else -1)) ∧ h' = zN sg) 5 [(0, .ref 393), (1, .int i)] [] (zN sg) := by
  refine zG_run bkMo_letter_5 (lv' := [(0, .ref 393), (1, .int i)]) (st' := [.int i, .ref 393]) (h' := zN sg) (Ps := []) rfl trivial ?_
  refine zG_callv (a := 393) (c := 10) (As := [.int i]) (rest := []) (N2 := 411) bdMo_letter_7 okMo_isLetter lk10_258 (And.intro (by decide) (by decide)) (by decide) rfl rfl rfl (Nat.le_of_ble_eq_true rfl) (Nat.le_of_ble_eq_true rfl) (Nat.le_refl 411) (Nat.le_refl 411) zob_393 cMo_isLetter ?_
  rintro rr h' ⟨rfl, rfl⟩ -
  refine zb_ifeq (tgt := 25) bkMo_letter_10 bdMo_letter_10 (by decide) (lv' := [(0, .ref 393), (1, .int i)]) (st' := []) (h' := zN sg) (x := if 0 ≤ i ∧ i < sg 395 0 then 1 else 0) (Ps := []) rfl trivial (fun c1 => ?_) (fun c1 => ?_)
  · skip
    refine zb_iret bkMo_letter_25 bdMo_letter_26 rfl (x := (-1)) (h' := zN sg) (Ps := []) rfl trivial rfl ?_
    exact ⟨by grind, rfl⟩
  · skip
    have hc : 0 ≤ i ∧ i < sg 395 0 := by grind
    refine zG_run bkMo_letter_13 (lv' := [(0, .ref 393), (1, .int i)]) (st' := [.int i, .ref 395]) (h' := zN sg) (Ps := [zOb (zN sg) 393 10 ∧ (zN sg).2.2 393 3 = true]) rfl (zA ⟨zob_393, rfl⟩ trivial) ?_
    refine zG_calls (As := [.int i]) (rest := [.ref 395]) (N2 := 411) bdMo_letter_18 okMo_letterAt lk10_141 (And.intro (by decide) (by decide)) rfl rfl (Nat.le_of_ble_eq_true rfl) (Nat.le_of_ble_eq_true rfl) (Nat.le_refl 411) (Nat.le_refl 411) cMo_letterAt ?_
    rintro rr h' ⟨rfl, rfl⟩ -
    refine zb_iret bkMo_letter_21 bdMo_letter_26 rfl (x := sg 395 (3 + 4 * i)) (h' := zN sg) (Ps := [zInL (zN sg) 395 (3 + 4 * i)]) rfl (zA (zinL_395 (i := 3 + 4 * i) (by lia) (by lia)) trivial) rfl ?_
    exact ⟨by grind, rfl⟩
theorem tMo_letter {sg : zSig} {i : Int32} {Q : Option Value → zHp → Prop} (g : zG mMo_letter 411 Q 5 [(0, .ref 393), (1, .int i)] [] (zN (zup sg 393 0 0))) : zG mMo_letter 411 Q 0 [(0, .ref 393), (1, .int i)] [] (zN sg) :=
  zG_run bkMo_letter_0 (lv' := [(0, .ref 393), (1, .int i)]) (st' := []) (h' := zN (zup sg 393 0 0)) (Ps := [zOb (zN sg) 393 10]) rfl (zA zob_393 trivial) g
theorem bkMo_anchor_5 : zBk mMo_anchor 5 [(1, 0, 1, 0, 0), (1, 1, 0, 0, 0)] = some 7 := by decide +kernel
theorem bkMo_anchor_10 : zBk mMo_anchor 10 [] = some 10 := by decide +kernel
theorem bkMo_anchor_41 : zBk mMo_anchor 41 [(0, 0, 0, 0, -1)] = some 42 := by decide +kernel
theorem bkMo_anchor_13 : zBk mMo_anchor 13 [(1, 2, 0, 0, 0), (14, 0, 0, 0, 0), (15, 0, 0, 0, 0), (15, 0, 0, 0, 2)] = some 19 := by decide +kernel
theorem bkMo_anchor_22 : zBk mMo_anchor 22 [] = some 22 := by decide +kernel
theorem bkMo_anchor_25 : zBk mMo_anchor 25 [(1, 0, 1, 0, 0), (5, 10, 3, 2, 3), (1, 1, 0, 0, 0)] = some 30 := by decide +kernel
theorem bkMo_anchor_33 : zBk mMo_anchor 33 [(0, 0, 0, 0, 1), (4, 0, 0, 0, 0), (1, 2, 0, 0, 0), (4, 0, 0, 0, 0), (7, 0, 0, 0, 0), (22, 42, 0, 0, 0)] = some 42 := by decide +kernel
theorem bkMo_anchor_0 : zBk mMo_anchor 0 [(1, 0, 1, 0, 0), (0, 0, 0, 0, 0), (6, 10, 0, 0, 0)] = some 5 := by decide +kernel
theorem bdMo_anchor_7 : decode mMo_anchor.2.2.1 7 = .ok (.invokevirtual 154, 3) := by decide +kernel
theorem bdMo_anchor_10 : decode mMo_anchor.2.2.1 10 = .ok (.ifCond .eq 31, 3) := by decide +kernel
theorem bdMo_anchor_19 : decode mMo_anchor.2.2.1 19 = .ok (.invokestatic 87, 3) := by decide +kernel
theorem bdMo_anchor_22 : decode mMo_anchor.2.2.1 22 = .ok (.ifCond .eq 19, 3) := by decide +kernel
theorem bdMo_anchor_30 : decode mMo_anchor.2.2.1 30 = .ok (.invokestatic 94, 3) := by decide +kernel
theorem bdMo_anchor_42 : decode mMo_anchor.2.2.1 42 = .ok (.ireturn, 1) := by decide +kernel
theorem bMo_anchor {sg : zSig} {n w : Int32} (a1 : sg 395 2 ≤ 12) : zG mMo_anchor 411 (fun rr h' => rr = some (.int (if ((0 ≤ n ∧ n < sg 395 2) ∧ sg 395 (947 + 4 * n) = 1) ∧ 0 ≤ w ∧ w ≤ 2 then sg 395 (947 + 4 * n + 1 + w) else -1)) ∧ h' = zN sg) 5 [(0, .ref 393), (1, .int n), (2, .int w)] [] (zN sg) := by
  refine zG_run bkMo_anchor_5 (lv' := [(0, .ref 393), (1, .int n), (2, .int w)]) (st' := [.int n, .ref 393]) (h' := zN sg) (Ps := []) rfl trivial ?_
  refine zG_callv (a := 393) (c := 10) (As := [.int n]) (rest := []) (N2 := 411) bdMo_anchor_7 okMo_isAnchor lk10_154 (And.intro (by decide) (by decide)) (by decide) rfl rfl rfl (Nat.le_of_ble_eq_true rfl) (Nat.le_of_ble_eq_true rfl) (Nat.le_refl 411) (Nat.le_refl 411) zob_393 (cMo_isAnchor (by lia)) ?_
  rintro rr h' ⟨rfl, rfl⟩ -
  refine zb_ifeq (tgt := 41) bkMo_anchor_10 bdMo_anchor_10 (by decide) (lv' := [(0, .ref 393), (1, .int n), (2, .int w)]) (st' := []) (h' := zN sg) (x := if (0 ≤ n ∧ n < sg 395 2) ∧ sg 395 (947 + 4 * n) = 1 then 1 else 0) (Ps := []) rfl trivial (fun c1 => ?_) (fun c1 => ?_)
  · skip
    refine zb_iret bkMo_anchor_41 bdMo_anchor_42 rfl (x := (-1)) (h' := zN sg) (Ps := []) rfl trivial rfl ?_
    exact ⟨by grind, rfl⟩
  · skip
    refine zG_run bkMo_anchor_13 (lv' := [(0, .ref 393), (1, .int n), (2, .int w)]) (st' := [.long ((2 : Int32).toInt64), .long ((0 : Int32).toInt64), .long w.toInt64]) (h' := zN sg) (Ps := []) rfl trivial ?_
    refine zG_calls (As := [.long w.toInt64, .long ((0 : Int32).toInt64), .long ((2 : Int32).toInt64)]) (rest := []) (N2 := 411) bdMo_anchor_19 okMo_in lk10_87 (And.intro (by decide) (by decide)) rfl rfl (Nat.le_of_ble_eq_true rfl) (Nat.le_of_ble_eq_true rfl) (Nat.le_refl 411) (Nat.le_refl 411) cMo_inA ?_
    rintro rr h' ⟨rfl, rfl⟩ -
    refine zb_ifeq (tgt := 41) bkMo_anchor_22 bdMo_anchor_22 (by decide) (lv' := [(0, .ref 393), (1, .int n), (2, .int w)]) (st' := []) (h' := zN sg) (x := if 0 ≤ w ∧ w ≤ 2 then 1 else 0) (Ps := []) rfl trivial (fun c2 => ?_) (fun c2 => ?_)
    · skip
      refine zb_iret bkMo_anchor_41 bdMo_anchor_42 rfl (x := (-1)) (h' := zN sg) (Ps := []) rfl trivial rfl ?_
      exact ⟨by grind, rfl⟩
    · skip
      have hc : ((0 ≤ n ∧ n < sg 395 2) ∧ sg 395 (947 + 4 * n) = 1) ∧ 0 ≤ w ∧ w ≤ 2 := by grind
      refine zG_run bkMo_anchor_25 (lv' := [(0, .ref 393), (1, .int n), (2, .int w)]) (st' := [.int n, .ref 395]) (h' := zN sg) (Ps := [zOb (zN sg) 393 10 ∧ (zN sg).2.2 393 3 = true]) rfl (zA ⟨zob_393, rfl⟩ trivial) ?_
      refine zG_calls (As := [.int n]) (rest := [.ref 395]) (N2 := 411) bdMo_anchor_30 okMo_anchorAt lk10_94 (And.intro (by decide) (by decide)) rfl rfl (Nat.le_of_ble_eq_true rfl) (Nat.le_of_ble_eq_true rfl) (Nat.le_refl 411) (Nat.le_refl 411) cMo_anchorAt ?_
      rintro rr h' ⟨rfl, rfl⟩ -
      refine zb_iret bkMo_anchor_33 bdMo_anchor_42 rfl (x := sg 395 (((947 + 4 * n) + 1) + w)) (h' := zN sg) (Ps := [zInL (zN sg) 395 (((947 + 4 * n) + 1) + w)]) rfl (zA (zinL_395 (i := ((947 + 4 * n) + 1) + w) (by lia) (by lia)) trivial) rfl ?_
      exact ⟨by grind, rfl⟩
theorem tMo_anchor {sg : zSig} {n w : Int32} {Q : Option Value → zHp → Prop} (g : zG mMo_anchor 411 Q 5 [(0, .ref 393), (1, .int n), (2, .int w)] [] (zN (zup sg 393 0 0))) : zG mMo_anchor 411 Q 0 [(0, .ref 393), (1, .int n), (2, .int w)] [] (zN sg) :=
  zG_run bkMo_anchor_0 (lv' := [(0, .ref 393), (1, .int n), (2, .int w)]) (st' := []) (h' := zN (zup sg 393 0 0)) (Ps := [zOb (zN sg) 393 10]) rfl (zA zob_393 trivial) g
theorem bkMo_follow_5 : zBk mMo_follow 5 [(1, 0, 1, 0, 0), (1, 1, 0, 0, 0)] = some 7 := by decide +kernel
theorem bkMo_follow_10 : zBk mMo_follow 10 [] = some 10 := by decide +kernel
theorem bkMo_follow_31 : zBk mMo_follow 31 [(0, 0, 0, 0, -1)] = some 32 := by decide +kernel
theorem bkMo_follow_13 : zBk mMo_follow 13 [(1, 2, 0, 0, 0), (14, 0, 0, 0, 0), (15, 0, 0, 0, 0), (15, 0, 0, 0, 1)] = some 17 := by decide +kernel
theorem bkMo_follow_20 : zBk mMo_follow 20 [] = some 20 := by decide +kernel
theorem bkMo_follow_23 : zBk mMo_follow 23 [(1, 0, 1, 0, 0), (1, 3, 0, 0, 0)] = some 25 := by decide +kernel
theorem bkMo_follow_28 : zBk mMo_follow 28 [] = some 28 := by decide +kernel
theorem bkMo_follow_33 : zBk mMo_follow 33 [(1, 5, 0, 0, 0)] = some 35 := by decide +kernel
theorem bkMo_follow_64 : zBk mMo_follow 64 [(1, 0, 1, 0, 0), (1, 3, 0, 0, 0), (1, 4, 0, 0, 0)] = some 68 := by decide +kernel
theorem bkMo_follow_71 : zBk mMo_follow 71 [] = some 71 := by decide +kernel
theorem bkMo_follow_84 : zBk mMo_follow 84 [(0, 0, 0, 0, -1)] = some 85 := by decide +kernel
theorem bkMo_follow_74 : zBk mMo_follow 74 [(1, 1, 0, 0, 0), (1, 3, 0, 0, 0), (1, 4, 0, 0, 0)] = some 78 := by decide +kernel
theorem bkMo_follow_81 : zBk mMo_follow 81 [(22, 85, 0, 0, 0)] = some 85 := by decide +kernel
theorem bkMo_follow_38 : zBk mMo_follow 38 [(1, 4, 0, 0, 0), (14, 0, 0, 0, 0), (15, 0, 0, 0, 1), (15, 0, 0, 0, 200)] = some 45 := by decide +kernel
theorem bkMo_follow_48 : zBk mMo_follow 48 [] = some 48 := by decide +kernel
theorem bkMo_follow_62 : zBk mMo_follow 62 [(0, 0, 0, 0, -1)] = some 63 := by decide +kernel
theorem bkMo_follow_51 : zBk mMo_follow 51 [(1, 1, 0, 0, 0), (1, 2, 0, 0, 0), (1, 3, 0, 0, 0), (1, 4, 0, 0, 0)] = some 56 := by decide +kernel
theorem bkMo_follow_59 : zBk mMo_follow 59 [(22, 63, 0, 0, 0)] = some 63 := by decide +kernel
theorem bkMo_follow_0 : zBk mMo_follow 0 [(1, 0, 1, 0, 0), (0, 0, 0, 0, 0), (6, 10, 0, 0, 0)] = some 5 := by decide +kernel
theorem bdMo_follow_7 : decode mMo_follow.2.2.1 7 = .ok (.invokevirtual 97, 3) := by decide +kernel
theorem bdMo_follow_10 : decode mMo_follow.2.2.1 10 = .ok (.ifCond .eq 21, 3) := by decide +kernel
theorem bdMo_follow_17 : decode mMo_follow.2.2.1 17 = .ok (.invokestatic 87, 3) := by decide +kernel
theorem bdMo_follow_20 : decode mMo_follow.2.2.1 20 = .ok (.ifCond .eq 11, 3) := by decide +kernel
theorem bdMo_follow_25 : decode mMo_follow.2.2.1 25 = .ok (.invokevirtual 97, 3) := by decide +kernel
theorem bdMo_follow_28 : decode mMo_follow.2.2.1 28 = .ok (.ifCond .ne 5, 3) := by decide +kernel
theorem bdMo_follow_32 : decode mMo_follow.2.2.1 32 = .ok (.ireturn, 1) := by decide +kernel
theorem bdMo_follow_35 : decode mMo_follow.2.2.1 35 = .ok (.ifCond .eq 29, 3) := by decide +kernel
theorem bdMo_follow_45 : decode mMo_follow.2.2.1 45 = .ok (.invokestatic 87, 3) := by decide +kernel
theorem bdMo_follow_48 : decode mMo_follow.2.2.1 48 = .ok (.ifCond .eq 14, 3) := by decide +kernel
theorem bdMo_follow_56 : decode mMo_follow.2.2.1 56 = .ok (.invokestatic 105, 3) := by decide +kernel
theorem bdMo_follow_63 : decode mMo_follow.2.2.1 63 = .ok (.ireturn, 1) := by decide +kernel
theorem bdMo_follow_68 : decode mMo_follow.2.2.1 68 = .ok (.invokevirtual 144, 3) := by decide +kernel
theorem bdMo_follow_71 : decode mMo_follow.2.2.1 71 = .ok (.ifCond .eq 13, 3) := by decide +kernel
theorem bdMo_follow_78 : decode mMo_follow.2.2.1 78 = .ok (.invokestatic 109, 3) := by decide +kernel
theorem bdMo_follow_85 : decode mMo_follow.2.2.1 85 = .ok (.ireturn, 1) := by decide +kernel
theorem bMo_follow {sg : zSig} {x l p q b : Int32}  : zG mMo_follow 411 (fun rr h' => rr = some (.int (if (0 ≤ x ∧ x ≤ sg 395 0) ∧ (0 ≤ l ∧ l ≤ 1) then (if b ≠ 0 then (if (0 ≤ p ∧ p ≤ sg 395 0) ∧ 1 ≤ q ∧ q ≤ 200 then pOn x l p q else -1) else (if 0 ≤ p ∧ p < q ∧ q ≤ sg 395 0 then pBk x p q else -1)) else -1)) ∧ h' = zN sg) 5 [(0, .ref 393), (1, .int x), (2, .int l), (3, .int p), (4, .int q), (5, .int b)] [] (zN sg) := by
  refine zG_run bkMo_follow_5 (lv' := [(0, .ref 393), (1, .int x), (2, .int l), (3, .int p), (4, .int q), (5, .int b)]) (st' := [.int x, .ref 393]) (h' := zN sg) (Ps := []) rfl trivial ?_
  refine zG_callv (a := 393) (c := 10) (As := [.int x]) (rest := []) (N2 := 411) bdMo_follow_7 okMo_isPlace lk10_97 (And.intro (by decide) (by decide)) (by decide) rfl rfl rfl (Nat.le_of_ble_eq_true rfl) (Nat.le_of_ble_eq_true rfl) (Nat.le_refl 411) (Nat.le_refl 411) zob_393 cMo_isPlace ?_
  rintro rr h' ⟨rfl, rfl⟩ -
  refine zb_ifeq (tgt := 31) bkMo_follow_10 bdMo_follow_10 (by decide) (lv' := [(0, .ref 393), (1, .int x), (2, .int l), (3, .int p), (4, .int q), (5, .int b)]) (st' := []) (h' := zN sg) (x := if 0 ≤ x ∧ x ≤ sg 395 0 then 1 else 0) (Ps := []) rfl trivial (fun c1 => ?_) (fun c1 => ?_)
  · skip
    refine zb_iret bkMo_follow_31 bdMo_follow_32 rfl (x := (-1)) (h' := zN sg) (Ps := []) rfl trivial rfl ?_
    exact ⟨by grind, rfl⟩
  · skip
    refine zG_run bkMo_follow_13 (lv' := [(0, .ref 393), (1, .int x), (2, .int l), (3, .int p), (4, .int q), (5, .int b)]) (st' := [.long ((1 : Int32).toInt64), .long ((0 : Int32).toInt64), .long l.toInt64]) (h' := zN sg) (Ps := []) rfl trivial ?_
    refine zG_calls (As := [.long l.toInt64, .long ((0 : Int32).toInt64), .long ((1 : Int32).toInt64)]) (rest := []) (N2 := 411) bdMo_follow_17 okMo_in lk10_87 (And.intro (by decide) (by decide)) rfl rfl (Nat.le_of_ble_eq_true rfl) (Nat.le_of_ble_eq_true rfl) (Nat.le_refl 411) (Nat.le_refl 411) cMo_inA ?_
    rintro rr h' ⟨rfl, rfl⟩ -
    refine zb_ifeq (tgt := 31) bkMo_follow_20 bdMo_follow_20 (by decide) (lv' := [(0, .ref 393), (1, .int x), (2, .int l), (3, .int p), (4, .int q), (5, .int b)]) (st' := []) (h' := zN sg) (x := if 0 ≤ l ∧ l ≤ 1 then 1 else 0) (Ps := []) rfl trivial (fun c2 => ?_) (fun c2 => ?_)
    · skip
      refine zb_iret bkMo_follow_31 bdMo_follow_32 rfl (x := (-1)) (h' := zN sg) (Ps := []) rfl trivial rfl ?_
      exact ⟨by grind, rfl⟩
    · skip
      refine zG_run bkMo_follow_23 (lv' := [(0, .ref 393), (1, .int x), (2, .int l), (3, .int p), (4, .int q), (5, .int b)]) (st' := [.int p, .ref 393]) (h' := zN sg) (Ps := []) rfl trivial ?_
      refine zG_callv (a := 393) (c := 10) (As := [.int p]) (rest := []) (N2 := 411) bdMo_follow_25 okMo_isPlace lk10_97 (And.intro (by decide) (by decide)) (by decide) rfl rfl rfl (Nat.le_of_ble_eq_true rfl) (Nat.le_of_ble_eq_true rfl) (Nat.le_refl 411) (Nat.le_refl 411) zob_393 cMo_isPlace ?_
      rintro rr h' ⟨rfl, rfl⟩ -
      refine zb_ifne (tgt := 33) bkMo_follow_28 bdMo_follow_28 (by decide) (lv' := [(0, .ref 393), (1, .int x), (2, .int l), (3, .int p), (4, .int q), (5, .int b)]) (st' := []) (h' := zN sg) (x := if 0 ≤ p ∧ p ≤ sg 395 0 then 1 else 0) (Ps := []) rfl trivial (fun c3 => ?_) (fun c3 => ?_)
      · skip
        refine zb_ifeq (tgt := 64) bkMo_follow_33 bdMo_follow_35 (by decide) (lv' := [(0, .ref 393), (1, .int x), (2, .int l), (3, .int p), (4, .int q), (5, .int b)]) (st' := []) (h' := zN sg) (x := b) (Ps := []) rfl trivial (fun c4 => ?_) (fun c4 => ?_)
        · skip
          refine zG_run bkMo_follow_64 (lv' := [(0, .ref 393), (1, .int x), (2, .int l), (3, .int p), (4, .int q), (5, .int b)]) (st' := [.int q, .int p, .ref 393]) (h' := zN sg) (Ps := []) rfl trivial ?_
          refine zG_callv (a := 393) (c := 10) (As := [.int p, .int q]) (rest := []) (N2 := 411) bdMo_follow_68 okMo_isRange lk10_144 (And.intro (by decide) (by decide)) (by decide) rfl rfl rfl (Nat.le_of_ble_eq_true rfl) (Nat.le_of_ble_eq_true rfl) (Nat.le_refl 411) (Nat.le_refl 411) zob_393 cMo_isRange ?_
          rintro rr h' ⟨rfl, rfl⟩ -
          refine zb_ifeq (tgt := 84) bkMo_follow_71 bdMo_follow_71 (by decide) (lv' := [(0, .ref 393), (1, .int x), (2, .int l), (3, .int p), (4, .int q), (5, .int b)]) (st' := []) (h' := zN sg) (x := if 0 ≤ p ∧ p < q ∧ q ≤ sg 395 0 then 1 else 0) (Ps := []) rfl trivial (fun c5 => ?_) (fun c5 => ?_)
          · skip
            refine zb_iret bkMo_follow_84 bdMo_follow_85 rfl (x := (-1)) (h' := zN sg) (Ps := []) rfl trivial rfl ?_
            exact ⟨by grind, rfl⟩
          · skip
            refine zG_run bkMo_follow_74 (lv' := [(0, .ref 393), (1, .int x), (2, .int l), (3, .int p), (4, .int q), (5, .int b)]) (st' := [.int q, .int p, .int x]) (h' := zN sg) (Ps := []) rfl trivial ?_
            refine zG_calls (As := [.int x, .int p, .int q]) (rest := []) (N2 := 411) bdMo_follow_78 okMo_backward lk10_109 (And.intro (by decide) (by decide)) rfl rfl (Nat.le_of_ble_eq_true rfl) (Nat.le_of_ble_eq_true rfl) (Nat.le_refl 411) (Nat.le_refl 411) cMo_backward ?_
            rintro rr h' ⟨rfl, rfl⟩ -
            refine zb_iret bkMo_follow_81 bdMo_follow_85 rfl (x := pBk x p q) (h' := zN sg) (Ps := []) rfl trivial rfl ?_
            exact ⟨by grind, rfl⟩
        · skip
          refine zG_run bkMo_follow_38 (lv' := [(0, .ref 393), (1, .int x), (2, .int l), (3, .int p), (4, .int q), (5, .int b)]) (st' := [.long ((200 : Int32).toInt64), .long ((1 : Int32).toInt64), .long q.toInt64]) (h' := zN sg) (Ps := []) rfl trivial ?_
          refine zG_calls (As := [.long q.toInt64, .long ((1 : Int32).toInt64), .long ((200 : Int32).toInt64)]) (rest := []) (N2 := 411) bdMo_follow_45 okMo_in lk10_87 (And.intro (by decide) (by decide)) rfl rfl (Nat.le_of_ble_eq_true rfl) (Nat.le_of_ble_eq_true rfl) (Nat.le_refl 411) (Nat.le_refl 411) cMo_inA ?_
          rintro rr h' ⟨rfl, rfl⟩ -
          refine zb_ifeq (tgt := 62) bkMo_follow_48 bdMo_follow_48 (by decide) (lv' := [(0, .ref 393), (1, .int x), (2, .int l), (3, .int p), (4, .int q), (5, .int b)]) (st' := []) (h' := zN sg) (x := if 1 ≤ q ∧ q ≤ 200 then 1 else 0) (Ps := []) rfl trivial (fun c6 => ?_) (fun c6 => ?_)
          · skip
            refine zb_iret bkMo_follow_62 bdMo_follow_63 rfl (x := (-1)) (h' := zN sg) (Ps := []) rfl trivial rfl ?_
            exact ⟨by grind, rfl⟩
          · skip
            refine zG_run bkMo_follow_51 (lv' := [(0, .ref 393), (1, .int x), (2, .int l), (3, .int p), (4, .int q), (5, .int b)]) (st' := [.int q, .int p, .int l, .int x]) (h' := zN sg) (Ps := []) rfl trivial ?_
            refine zG_calls (As := [.int x, .int l, .int p, .int q]) (rest := []) (N2 := 411) bdMo_follow_56 okMo_onward lk10_105 (And.intro (by decide) (by decide)) rfl rfl (Nat.le_of_ble_eq_true rfl) (Nat.le_of_ble_eq_true rfl) (Nat.le_refl 411) (Nat.le_refl 411) cMo_onward ?_
            rintro rr h' ⟨rfl, rfl⟩ -
            refine zb_iret bkMo_follow_59 bdMo_follow_63 rfl (x := pOn x l p q) (h' := zN sg) (Ps := []) rfl trivial rfl ?_
            exact ⟨by grind, rfl⟩
      · skip
        refine zb_iret bkMo_follow_31 bdMo_follow_32 rfl (x := (-1)) (h' := zN sg) (Ps := []) rfl trivial rfl ?_
        exact ⟨by grind, rfl⟩
theorem tMo_follow {sg : zSig} {x l p q b : Int32} {Q : Option Value → zHp → Prop} (g : zG mMo_follow 411 Q 5 [(0, .ref 393), (1, .int x), (2, .int l), (3, .int p), (4, .int q), (5, .int b)] [] (zN (zup sg 393 0 0))) : zG mMo_follow 411 Q 0 [(0, .ref 393), (1, .int x), (2, .int l), (3, .int p), (4, .int q), (5, .int b)] [] (zN sg) :=
  zG_run bkMo_follow_0 (lv' := [(0, .ref 393), (1, .int x), (2, .int l), (3, .int p), (4, .int q), (5, .int b)]) (st' := []) (h' := zN (zup sg 393 0 0)) (Ps := [zOb (zN sg) 393 10]) rfl (zA zob_393 trivial) g
