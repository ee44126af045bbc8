/-! Looks.see, isLike: printed by wip/whole/p17.py -/
theorem bkLoo_see_0 : zBk mLoo_see 0 [(1, 0, 1, 0, 0), (1, 1, 1, 0, 0), (5, 5, 2, 0, 2), (6, 3, 1, 0, 1)] = some 8 := by decide +kernel
theorem bkLoo_see_8 : zBk mLoo_see 8 [(1, 1, 1, 0, 0), (5, 5, 1, 2, 1), (0, 0, 0, 0, 0), (1, 0, 1, 0, 0), (5, 3, 0, 1, 0), (0, 0, 0, 0, 0), (1, 0, 1, 0, 0), (5, 3, 1, 0, 1)] = some 22 := by decide +kernel
theorem bkLoo_see_25 : zBk mLoo_see 25 [(0, 0, 0, 0, 0), (2, 5, 0, 0, 0)] = some 28 := by decide +kernel
theorem bkLoo_see_28 : zBk mLoo_see 28 [(1, 5, 0, 0, 0), (0, 0, 0, 0, 10)] = some 32 := by decide +kernel
theorem bkLoo_see_113 : zBk mLoo_see 113 [] = some 113 := by decide +kernel
theorem bkLoo_see_35 : zBk mLoo_see 35 [(0, 0, 0, 0, 0), (2, 6, 0, 0, 0)] = some 38 := by decide +kernel
theorem bkLoo_see_38 : zBk mLoo_see 38 [(1, 6, 0, 0, 0), (1, 1, 1, 0, 0), (5, 5, 4, 0, 4)] = some 44 := by decide +kernel
theorem bkLoo_see_107 : zBk mLoo_see 107 [(3, 5, 0, 0, 1), (22, 28, 0, 0, 0)] = some 28 := by decide +kernel
theorem bkLoo_see_47 : zBk mLoo_see 47 [(1, 1, 1, 0, 0), (5, 5, 3, 3, 3), (1, 6, 0, 0, 0), (9, 0, 0, 0, 0), (2, 7, 1, 0, 0), (1, 6, 0, 0, 0), (1, 3, 0, 0, 0)] = some 59 := by decide +kernel
theorem bkLoo_see_67 : zBk mLoo_see 67 [(1, 7, 1, 0, 0), (5, 6, 3, 0, 3), (2, 8, 0, 0, 0), (1, 7, 1, 0, 0), (5, 6, 0, 0, 0)] = some 79 := by decide +kernel
theorem bkLoo_see_101 : zBk mLoo_see 101 [(3, 6, 0, 0, 1), (22, 38, 0, 0, 0)] = some 38 := by decide +kernel
theorem bkLoo_see_82 : zBk mLoo_see 82 [(1, 6, 0, 0, 0), (1, 2, 0, 0, 0)] = some 85 := by decide +kernel
theorem bkLoo_see_88 : zBk mLoo_see 88 [(1, 8, 0, 0, 0), (1, 5, 0, 0, 0)] = some 92 := by decide +kernel
theorem bkLoo_see_95 : zBk mLoo_see 95 [(1, 0, 1, 0, 0), (1, 7, 1, 0, 0)] = some 98 := by decide +kernel
theorem bkLoo_see_62 : zBk mLoo_see 62 [(1, 4, 0, 0, 0), (22, 72, 0, 0, 0), (2, 8, 0, 0, 0), (1, 7, 1, 0, 0), (5, 6, 0, 0, 0)] = some 79 := by decide +kernel
theorem bdLoo_see_22 : decode mLoo_see.2.2.1 22 = .ok (.invokestatic 25, 3) := by decide +kernel
theorem bdLoo_see_32 : decode mLoo_see.2.2.1 32 = .ok (.if_icmp .ge 81, 3) := by decide +kernel
theorem bdLoo_see_44 : decode mLoo_see.2.2.1 44 = .ok (.if_icmp .ge 63, 3) := by decide +kernel
theorem bdLoo_see_59 : decode mLoo_see.2.2.1 59 = .ok (.if_icmp .ne 8, 3) := by decide +kernel
theorem bdLoo_see_79 : decode mLoo_see.2.2.1 79 = .ok (.ifCond .eq 22, 3) := by decide +kernel
theorem bdLoo_see_85 : decode mLoo_see.2.2.1 85 = .ok (.if_icmp .eq 16, 3) := by decide +kernel
theorem bdLoo_see_92 : decode mLoo_see.2.2.1 92 = .ok (.if_icmp .ne 9, 3) := by decide +kernel
theorem bdLoo_see_98 : decode mLoo_see.2.2.1 98 = .ok (.invokevirtual 47, 3) := by decide +kernel
theorem bdLoo_see_113 : decode mLoo_see.2.2.1 113 = .ok (.return_, 1) := by decide +kernel
theorem lLoo_see_313 {sg : zSig} {wo mv mt : Int32} (hn0 : 0 ≤ sg 1 2) (hn : sg 1 2 ≤ 200) (hk0 : 0 ≤ sg 1 4) (hk : sg 1 4 ≤ 16) {Q : Option Value → zHp → Prop} (hq : ∀ rr h', (∃ sg', rr = none ∧ h' = zN sg' ∧ (∀ c j, c ≠ 313 → c ≠ 314 → sg' c j = sg c j) ∧ sg' 313 1 = sg 1 2 ∧ ∀ j, 0 ≤ j → j < sg 1 2 → sg' 314 j = cS sg wo mv mt j) → Q rr h') : zG mLoo_see 411 Q 0 [(0, .ref 313), (1, .ref 1), (2, .int wo), (3, .int mv), (4, .int mt)] [] (zN sg) := by
  refine zG_run bkLoo_see_0 (lv' := [(0, .ref 313), (1, .ref 1), (2, .int wo), (3, .int mv), (4, .int mt)]) (st' := []) (h' := zN (zup sg 313 1 (sg 1 2))) (Ps := [zOb (zN sg) 1 5, zOb (zN sg) 313 3]) rfl (zA zob_1 (zA zob_313 trivial)) ?_
  refine zG_nm (sg := zup sg 313 1 (sg 1 2)) (fun sg1 e1 => ?_)
  have a1 : sg1 313 1 = sg 1 2 := by rw [e1]; exact zup_s
  have f1 : ∀ c j, c ≠ 313 → sg1 c j = sg c j := fun c j h => by rw [e1]; exact zup_a h
  refine zG_run bkLoo_see_8 (lv' := [(0, .ref 313), (1, .ref 1), (2, .int wo), (3, .int mv), (4, .int mt)]) (st' := [.int (sg1 313 1), .int 0, .ref 314, .int 0, .ref 3]) (h' := zN sg1) (Ps := [zOb (zN sg1) 1 5 ∧ (zN sg1).2.2 1 1 = true, zOb (zN sg1) 313 3 ∧ (zN sg1).2.2 313 0 = true, zOb (zN sg1) 313 3]) rfl (zA ⟨zob_1, rfl⟩ (zA ⟨zob_313, rfl⟩ (zA zob_313 trivial))) ?_
  refine zs_acopy bdLoo_see_22 lk3_25 (And.intro (by decide) (by decide)) (Nat.le_of_ble_eq_true rfl) (zcp_3_314 (sp := 0) (dp := 0) (n := sg1 313 1) (by grind) (by grind) (by grind) (by grind) (by grind) (by grind) (by grind)) ?_
  refine zG_nm (sg := zcp sg1 3 314 0 0 (sg1 313 1)) (fun sg2 e2 => ?_)
  have f2 : ∀ c j, c ≠ 313 → c ≠ 314 → sg2 c j = sg c j := fun c j h1 h2 => by rw [e2, zcp_e, if_neg (fun q => h2 q.1)]; exact f1 c j h1
  have a2 : sg2 313 1 = sg 1 2 := by rw [e2, zcp_e, if_neg (fun q => absurd q.1 (by decide))]; exact a1
  have c2 : ∀ j, 0 ≤ j → j < sg 1 2 → sg2 314 j = sg 3 j := fun j h1 h2 => by rw [e2, zcp_e, if_pos ⟨rfl, h1, by rw [a1]; grind⟩, f1 3 _ (by decide)]; congr 1; grind
  refine zG_run bkLoo_see_25 (lv' := [(5, .int 0), (0, .ref 313), (1, .ref 1), (2, .int wo), (3, .int mv), (4, .int mt)]) (st' := []) (h' := zN sg2) (Ps := []) rfl trivial ?_
  refine zG_pick (lv' := [(0, .ref 313), (1, .ref 1), (2, .int wo), (3, .int mv), (4, .int mt), (5, .int 0)]) [1, 2, 3, 4, 5, 0] rfl ?_
  refine zlp2 (fun (lay : Int32) (sg3 : zSig) => zG mLoo_see 411 Q 28 [(0, .ref 313), (1, .ref 1), (2, .int wo), (3, .int mv), (4, .int mt), (5, .int lay)] [] (zN sg3)) (fun (lay : Int32) (sg3 : zSig) => (0 ≤ lay) ∧ (lay ≤ 10) ∧ (∀ c j, c ≠ 313 → c ≠ 314 → sg3 c j = sg c j) ∧ (sg3 313 1 = sg 1 2) ∧ (∀ j, 0 ≤ j → j < sg 1 2 → sg3 314 j = zit (cS2 sg wo mv mt j) (sg 3 j) lay)) (fun (lay : Int32) (sg3 : zSig) => zmu 10 lay) ?_ 0 sg2 ?_
  · intro lay sg3 ho iho
    obtain ⟨o0, o1, of, oa, oc⟩ := ho
    refine zb_icge (tgt := 113) bkLoo_see_28 bdLoo_see_32 (by decide) (lv' := [(0, .ref 313), (1, .ref 1), (2, .int wo), (3, .int mv), (4, .int mt), (5, .int lay)]) (st' := []) (h' := zN sg3) (x := lay) (y := 10) (Ps := []) rfl trivial (fun c1 => ?_) (fun c1 => ?_)
    · skip
      refine zb_vret bkLoo_see_113 bdLoo_see_113 rfl (h' := zN sg3) (Ps := []) rfl trivial rfl ?_
      refine hq _ _ ?_
      have e3 : lay = 10 := by grind
      exact ⟨sg3, rfl, rfl, of, oa, fun j h5 h6 => by rw [oc j h5 h6, e3]; rfl⟩
    · skip
      refine zG_run bkLoo_see_35 (lv' := [(6, .int 0), (0, .ref 313), (1, .ref 1), (2, .int wo), (3, .int mv), (4, .int mt), (5, .int lay)]) (st' := []) (h' := zN sg3) (Ps := []) rfl trivial ?_
      refine zG_pick (lv' := [(0, .ref 313), (1, .ref 1), (2, .int wo), (3, .int mv), (4, .int mt), (5, .int lay), (6, .int 0)]) [1, 2, 3, 4, 5, 6, 0] rfl ?_
      refine zlp2 (fun (k : Int32) (sg4 : zSig) => zG mLoo_see 411 Q 38 [(0, .ref 313), (1, .ref 1), (2, .int wo), (3, .int mv), (4, .int mt), (5, .int lay), (6, .int k)] [] (zN sg4)) (fun (k : Int32) (sg4 : zSig) => (0 ≤ k) ∧ (k ≤ sg 1 4) ∧ (∀ c j, c ≠ 313 → c ≠ 314 → sg4 c j = sg c j) ∧ (sg4 313 1 = sg 1 2) ∧ (∀ j, 0 ≤ j → j < sg 1 2 → sg4 314 j = zit (cS1 sg wo mv mt j lay) (zit (cS2 sg wo mv mt j) (sg 3 j) lay) k)) (fun (k : Int32) (sg4 : zSig) => zmu (sg 1 4) k) ?_ 0 sg3 ?_
      · intro k sg4 hk ihk
        obtain ⟨k0, k1, kf, ka, kc⟩ := hk
        have e14 := kf 1 4 (by decide) (by decide)
        refine zb_icge (tgt := 107) bkLoo_see_38 bdLoo_see_44 (by decide) (lv' := [(0, .ref 313), (1, .ref 1), (2, .int wo), (3, .int mv), (4, .int mt), (5, .int lay), (6, .int k)]) (st' := []) (h' := zN sg4) (x := k) (y := sg4 1 4) (Ps := [zOb (zN sg4) 1 5]) rfl (zA zob_1 trivial) (fun c2 => ?_) (fun c2 => ?_)
        · skip
          refine zG_run bkLoo_see_107 (lv' := [(5, .int (lay + 1)), (0, .ref 313), (1, .ref 1), (2, .int wo), (3, .int mv), (4, .int mt), (6, .int k)]) (st' := []) (h' := zN sg4) (Ps := []) rfl trivial ?_
          refine zG_pick (lv' := [(0, .ref 313), (1, .ref 1), (2, .int wo), (3, .int mv), (4, .int mt), (5, .int (lay + 1))]) [1, 2, 3, 4, 5, 0] rfl ?_
          refine iho (lay + 1) sg4 ?_ ?_
          · refine ⟨?_, ?_, ?_, ?_, ?_⟩
            · grind
            · grind
            · exact kf
            · exact ka
            · intro j hj0 hj1; rw [zit_s _ _ o0 (by grind : lay < 10)]; have e1 := kc j hj0 hj1; have e2 : k = sg 1 4 := by grind
              rw [e1, e2]; rfl
          · exact zmu_up (by grind)
        · skip
          have hz := zel4_rng (i := k) k0 (by grind)
          refine zb_icne (tgt := 67) bkLoo_see_47 bdLoo_see_59 (by decide) (lv' := [(7, .ref (zel 4 k)), (0, .ref 313), (1, .ref 1), (2, .int wo), (3, .int mv), (4, .int mt), (5, .int lay), (6, .int k)]) (st' := []) (h' := zN sg4) (x := k) (y := mv) (Ps := [zOb (zN sg4) 1 5 ∧ (zN sg4).2.2 1 3 = true, zInR (zN sg4) 4 k]) rfl (zA ⟨zob_1, rfl⟩ (zA (zinR_4 (i := k) (by grind) (by grind)) trivial)) (fun c3 => ?_) (fun c3 => ?_)
          · skip
            refine zb_ifeq (tgt := 101) bkLoo_see_67 bdLoo_see_79 (by decide) (lv' := [(8, .int (sg4 (zel 4 k) 3)), (7, .ref (zel 4 k)), (0, .ref 313), (1, .ref 1), (2, .int wo), (3, .int mv), (4, .int mt), (5, .int lay), (6, .int k)]) (st' := []) (h' := zN sg4) (x := sg4 (zel 4 k) 0) (Ps := [zOb (zN sg4) (zel 4 k) 6, zOb (zN sg4) (zel 4 k) 6]) rfl (zA (zel_ob4 (i := k) (by grind) (by grind)) (zA (zel_ob4 (i := k) (by grind) (by grind)) trivial)) (fun c4 => ?_) (fun c4 => ?_)
            · skip
              refine zG_run bkLoo_see_101 (lv' := [(6, .int (k + 1)), (8, .int (sg4 (zel 4 k) 3)), (7, .ref (zel 4 k)), (0, .ref 313), (1, .ref 1), (2, .int wo), (3, .int mv), (4, .int mt), (5, .int lay)]) (st' := []) (h' := zN sg4) (Ps := []) rfl trivial ?_
              refine zG_pick (lv' := [(0, .ref 313), (1, .ref 1), (2, .int wo), (3, .int mv), (4, .int mt), (5, .int lay), (6, .int (k + 1))]) [3, 4, 5, 6, 7, 8, 0] rfl ?_
              refine ihk (k + 1) sg4 ?_ ?_
              · refine ⟨?_, ?_, ?_, ?_, ?_⟩
                · grind
                · grind
                · intro c j h1 h2; exact kf c j h1 h2
                · exact ka
                · intro j hj0 hj1; rw [zit_s _ _ k0 (by grind : k < sg 1 4)]; have e1 := kc j hj0 hj1
                  have e3 := kf (zel 4 k) 0 (by omega) (by omega); have e4 := kf (zel 4 k) 1 (by omega) (by omega); have e5 := kf (zel 4 k) 2 (by omega) (by omega); have e6 := kf (zel 4 k) 3 (by omega) (by omega)
                  have e7 := kf (zel 4 k) 4 (by omega) (by omega); have e8 := kf (zel 4 k) 5 (by omega) (by omega); have e9 := kf (zel 4 k) 6 (by omega) (by omega); have e10 := kf (zel 4 k) 7 (by omega) (by omega)
                  simp only [cS1]; grind
              · exact zmu_up (by grind)
            · skip
              refine zb_iceq (tgt := 101) bkLoo_see_82 bdLoo_see_85 (by decide) (lv' := [(8, .int (sg4 (zel 4 k) 3)), (7, .ref (zel 4 k)), (0, .ref 313), (1, .ref 1), (2, .int wo), (3, .int mv), (4, .int mt), (5, .int lay), (6, .int k)]) (st' := []) (h' := zN sg4) (x := k) (y := wo) (Ps := []) rfl trivial (fun c5 => ?_) (fun c5 => ?_)
              · skip
                refine zG_run bkLoo_see_101 (lv' := [(6, .int (k + 1)), (8, .int (sg4 (zel 4 k) 3)), (7, .ref (zel 4 k)), (0, .ref 313), (1, .ref 1), (2, .int wo), (3, .int mv), (4, .int mt), (5, .int lay)]) (st' := []) (h' := zN sg4) (Ps := []) rfl trivial ?_
                refine zG_pick (lv' := [(0, .ref 313), (1, .ref 1), (2, .int wo), (3, .int mv), (4, .int mt), (5, .int lay), (6, .int (k + 1))]) [3, 4, 5, 6, 7, 8, 0] rfl ?_
                refine ihk (k + 1) sg4 ?_ ?_
                · refine ⟨?_, ?_, ?_, ?_, ?_⟩
                  · grind
                  · grind
                  · intro c j h1 h2; exact kf c j h1 h2
                  · exact ka
                  · intro j hj0 hj1; rw [zit_s _ _ k0 (by grind : k < sg 1 4)]; have e1 := kc j hj0 hj1
                    have e3 := kf (zel 4 k) 0 (by omega) (by omega); have e4 := kf (zel 4 k) 1 (by omega) (by omega); have e5 := kf (zel 4 k) 2 (by omega) (by omega); have e6 := kf (zel 4 k) 3 (by omega) (by omega)
                    have e7 := kf (zel 4 k) 4 (by omega) (by omega); have e8 := kf (zel 4 k) 5 (by omega) (by omega); have e9 := kf (zel 4 k) 6 (by omega) (by omega); have e10 := kf (zel 4 k) 7 (by omega) (by omega)
                    simp only [cS1]; grind
                · exact zmu_up (by grind)
              · skip
                refine zb_icne (tgt := 101) bkLoo_see_88 bdLoo_see_92 (by decide) (lv' := [(8, .int (sg4 (zel 4 k) 3)), (7, .ref (zel 4 k)), (0, .ref 313), (1, .ref 1), (2, .int wo), (3, .int mv), (4, .int mt), (5, .int lay), (6, .int k)]) (st' := []) (h' := zN sg4) (x := sg4 (zel 4 k) 3) (y := lay) (Ps := []) rfl trivial (fun c6 => ?_) (fun c6 => ?_)
                · skip
                  refine zG_run bkLoo_see_101 (lv' := [(6, .int (k + 1)), (8, .int (sg4 (zel 4 k) 3)), (7, .ref (zel 4 k)), (0, .ref 313), (1, .ref 1), (2, .int wo), (3, .int mv), (4, .int mt), (5, .int lay)]) (st' := []) (h' := zN sg4) (Ps := []) rfl trivial ?_
                  refine zG_pick (lv' := [(0, .ref 313), (1, .ref 1), (2, .int wo), (3, .int mv), (4, .int mt), (5, .int lay), (6, .int (k + 1))]) [3, 4, 5, 6, 7, 8, 0] rfl ?_
                  refine ihk (k + 1) sg4 ?_ ?_
                  · refine ⟨?_, ?_, ?_, ?_, ?_⟩
                    · grind
                    · grind
                    · intro c j h1 h2; exact kf c j h1 h2
                    · exact ka
                    · intro j hj0 hj1; rw [zit_s _ _ k0 (by grind : k < sg 1 4)]; have e1 := kc j hj0 hj1
                      have e3 := kf (zel 4 k) 0 (by omega) (by omega); have e4 := kf (zel 4 k) 1 (by omega) (by omega); have e5 := kf (zel 4 k) 2 (by omega) (by omega); have e6 := kf (zel 4 k) 3 (by omega) (by omega)
                      have e7 := kf (zel 4 k) 4 (by omega) (by omega); have e8 := kf (zel 4 k) 5 (by omega) (by omega); have e9 := kf (zel 4 k) 6 (by omega) (by omega); have e10 := kf (zel 4 k) 7 (by omega) (by omega)
                      simp only [cS1]; grind
                  · exact zmu_up (by grind)
                · skip
                  refine zG_run bkLoo_see_95 (lv' := [(8, .int (sg4 (zel 4 k) 3)), (7, .ref (zel 4 k)), (0, .ref 313), (1, .ref 1), (2, .int wo), (3, .int mv), (4, .int mt), (5, .int lay), (6, .int k)]) (st' := [.ref (zel 4 k), .ref 313]) (h' := zN sg4) (Ps := []) rfl trivial ?_
                  refine zG_callv (a := 313) (c := 3) (As := [.ref (zel 4 k)]) (rest := []) (N2 := 411) bdLoo_see_98 okLoo_brush lk3_47 (And.intro (by decide) (by decide)) (by decide) rfl rfl rfl (Nat.le_of_ble_eq_true rfl) (Nat.le_of_ble_eq_true rfl) (Nat.le_refl 411) (Nat.le_refl 411) zob_313 (cLoo_brush_313 (zel_ob4 (i := k) (by grind) (by grind)) (by grind) (by grind)) ?_
                  rintro rr h' ⟨sg7, rfl, rfl, bf, bc⟩ -
                  refine zG_run bkLoo_see_101 (lv' := [(6, .int (k + 1)), (8, .int (sg4 (zel 4 k) 3)), (7, .ref (zel 4 k)), (0, .ref 313), (1, .ref 1), (2, .int wo), (3, .int mv), (4, .int mt), (5, .int lay)]) (st' := []) (h' := zN sg7) (Ps := []) rfl trivial ?_
                  refine zG_pick (lv' := [(0, .ref 313), (1, .ref 1), (2, .int wo), (3, .int mv), (4, .int mt), (5, .int lay), (6, .int (k + 1))]) [3, 4, 5, 6, 7, 8, 0] rfl ?_
                  refine ihk (k + 1) sg7 ?_ ?_
                  · refine ⟨?_, ?_, ?_, ?_, ?_⟩
                    · grind
                    · grind
                    · intro c j h1 h2; rw [bf c j h2]; exact kf c j h1 h2
                    · rw [bf 313 1 (by decide)]; exact ka
                    · intro j hj0 hj1; rw [zit_s _ _ k0 (by grind : k < sg 1 4)]; have e1 := kc j hj0 hj1; have e2 := bc j hj0 (by grind)
                      have e3 := kf (zel 4 k) 0 (by omega) (by omega); have e4 := kf (zel 4 k) 1 (by omega) (by omega); have e5 := kf (zel 4 k) 2 (by omega) (by omega); have e6 := kf (zel 4 k) 3 (by omega) (by omega)
                      have e7 := kf (zel 4 k) 4 (by omega) (by omega); have e8 := kf (zel 4 k) 5 (by omega) (by omega); have e9 := kf (zel 4 k) 6 (by omega) (by omega); have e10 := kf (zel 4 k) 7 (by omega) (by omega)
                      simp only [cS1]; grind
                  · exact zmu_up (by grind)
          · skip
            refine zb_ifeq (tgt := 101) bkLoo_see_62 bdLoo_see_79 (by decide) (lv' := [(8, .int mt), (7, .ref (zel 4 k)), (0, .ref 313), (1, .ref 1), (2, .int wo), (3, .int mv), (4, .int mt), (5, .int lay), (6, .int k)]) (st' := []) (h' := zN sg4) (x := sg4 (zel 4 k) 0) (Ps := [zOb (zN sg4) (zel 4 k) 6]) rfl (zA (zel_ob4 (i := k) (by grind) (by grind)) trivial) (fun c9 => ?_) (fun c9 => ?_)
            · skip
              refine zG_run bkLoo_see_101 (lv' := [(6, .int (k + 1)), (8, .int mt), (7, .ref (zel 4 k)), (0, .ref 313), (1, .ref 1), (2, .int wo), (3, .int mv), (4, .int mt), (5, .int lay)]) (st' := []) (h' := zN sg4) (Ps := []) rfl trivial ?_
              refine zG_pick (lv' := [(0, .ref 313), (1, .ref 1), (2, .int wo), (3, .int mv), (4, .int mt), (5, .int lay), (6, .int (k + 1))]) [3, 4, 5, 6, 7, 8, 0] rfl ?_
              refine ihk (k + 1) sg4 ?_ ?_
              · refine ⟨?_, ?_, ?_, ?_, ?_⟩
                · grind
                · grind
                · intro c j h1 h2; exact kf c j h1 h2
                · exact ka
                · intro j hj0 hj1; rw [zit_s _ _ k0 (by grind : k < sg 1 4)]; have e1 := kc j hj0 hj1
                  have e3 := kf (zel 4 k) 0 (by omega) (by omega); have e4 := kf (zel 4 k) 1 (by omega) (by omega); have e5 := kf (zel 4 k) 2 (by omega) (by omega); have e6 := kf (zel 4 k) 3 (by omega) (by omega)
                  have e7 := kf (zel 4 k) 4 (by omega) (by omega); have e8 := kf (zel 4 k) 5 (by omega) (by omega); have e9 := kf (zel 4 k) 6 (by omega) (by omega); have e10 := kf (zel 4 k) 7 (by omega) (by omega)
                  simp only [cS1]; grind
              · exact zmu_up (by grind)
            · skip
              refine zb_iceq (tgt := 101) bkLoo_see_82 bdLoo_see_85 (by decide) (lv' := [(8, .int mt), (7, .ref (zel 4 k)), (0, .ref 313), (1, .ref 1), (2, .int wo), (3, .int mv), (4, .int mt), (5, .int lay), (6, .int k)]) (st' := []) (h' := zN sg4) (x := k) (y := wo) (Ps := []) rfl trivial (fun c10 => ?_) (fun c10 => ?_)
              · skip
                refine zG_run bkLoo_see_101 (lv' := [(6, .int (k + 1)), (8, .int mt), (7, .ref (zel 4 k)), (0, .ref 313), (1, .ref 1), (2, .int wo), (3, .int mv), (4, .int mt), (5, .int lay)]) (st' := []) (h' := zN sg4) (Ps := []) rfl trivial ?_
                refine zG_pick (lv' := [(0, .ref 313), (1, .ref 1), (2, .int wo), (3, .int mv), (4, .int mt), (5, .int lay), (6, .int (k + 1))]) [3, 4, 5, 6, 7, 8, 0] rfl ?_
                refine ihk (k + 1) sg4 ?_ ?_
                · refine ⟨?_, ?_, ?_, ?_, ?_⟩
                  · grind
                  · grind
                  · intro c j h1 h2; exact kf c j h1 h2
                  · exact ka
                  · intro j hj0 hj1; rw [zit_s _ _ k0 (by grind : k < sg 1 4)]; have e1 := kc j hj0 hj1
                    have e3 := kf (zel 4 k) 0 (by omega) (by omega); have e4 := kf (zel 4 k) 1 (by omega) (by omega); have e5 := kf (zel 4 k) 2 (by omega) (by omega); have e6 := kf (zel 4 k) 3 (by omega) (by omega)
                    have e7 := kf (zel 4 k) 4 (by omega) (by omega); have e8 := kf (zel 4 k) 5 (by omega) (by omega); have e9 := kf (zel 4 k) 6 (by omega) (by omega); have e10 := kf (zel 4 k) 7 (by omega) (by omega)
                    simp only [cS1]; grind
                · exact zmu_up (by grind)
              · skip
                refine zb_icne (tgt := 101) bkLoo_see_88 bdLoo_see_92 (by decide) (lv' := [(8, .int mt), (7, .ref (zel 4 k)), (0, .ref 313), (1, .ref 1), (2, .int wo), (3, .int mv), (4, .int mt), (5, .int lay), (6, .int k)]) (st' := []) (h' := zN sg4) (x := mt) (y := lay) (Ps := []) rfl trivial (fun c11 => ?_) (fun c11 => ?_)
                · skip
                  refine zG_run bkLoo_see_101 (lv' := [(6, .int (k + 1)), (8, .int mt), (7, .ref (zel 4 k)), (0, .ref 313), (1, .ref 1), (2, .int wo), (3, .int mv), (4, .int mt), (5, .int lay)]) (st' := []) (h' := zN sg4) (Ps := []) rfl trivial ?_
                  refine zG_pick (lv' := [(0, .ref 313), (1, .ref 1), (2, .int wo), (3, .int mv), (4, .int mt), (5, .int lay), (6, .int (k + 1))]) [3, 4, 5, 6, 7, 8, 0] rfl ?_
                  refine ihk (k + 1) sg4 ?_ ?_
                  · refine ⟨?_, ?_, ?_, ?_, ?_⟩
                    · grind
                    · grind
                    · intro c j h1 h2; exact kf c j h1 h2
                    · exact ka
                    · intro j hj0 hj1; rw [zit_s _ _ k0 (by grind : k < sg 1 4)]; have e1 := kc j hj0 hj1
                      have e3 := kf (zel 4 k) 0 (by omega) (by omega); have e4 := kf (zel 4 k) 1 (by omega) (by omega); have e5 := kf (zel 4 k) 2 (by omega) (by omega); have e6 := kf (zel 4 k) 3 (by omega) (by omega)
                      have e7 := kf (zel 4 k) 4 (by omega) (by omega); have e8 := kf (zel 4 k) 5 (by omega) (by omega); have e9 := kf (zel 4 k) 6 (by omega) (by omega); have e10 := kf (zel 4 k) 7 (by omega) (by omega)
                      simp only [cS1]; grind
                  · exact zmu_up (by grind)
                · skip
                  refine zG_run bkLoo_see_95 (lv' := [(8, .int mt), (7, .ref (zel 4 k)), (0, .ref 313), (1, .ref 1), (2, .int wo), (3, .int mv), (4, .int mt), (5, .int lay), (6, .int k)]) (st' := [.ref (zel 4 k), .ref 313]) (h' := zN sg4) (Ps := []) rfl trivial ?_
                  refine zG_callv (a := 313) (c := 3) (As := [.ref (zel 4 k)]) (rest := []) (N2 := 411) bdLoo_see_98 okLoo_brush lk3_47 (And.intro (by decide) (by decide)) (by decide) rfl rfl rfl (Nat.le_of_ble_eq_true rfl) (Nat.le_of_ble_eq_true rfl) (Nat.le_refl 411) (Nat.le_refl 411) zob_313 (cLoo_brush_313 (zel_ob4 (i := k) (by grind) (by grind)) (by grind) (by grind)) ?_
                  rintro rr h' ⟨sg12, rfl, rfl, bf, bc⟩ -
                  refine zG_run bkLoo_see_101 (lv' := [(6, .int (k + 1)), (8, .int mt), (7, .ref (zel 4 k)), (0, .ref 313), (1, .ref 1), (2, .int wo), (3, .int mv), (4, .int mt), (5, .int lay)]) (st' := []) (h' := zN sg12) (Ps := []) rfl trivial ?_
                  refine zG_pick (lv' := [(0, .ref 313), (1, .ref 1), (2, .int wo), (3, .int mv), (4, .int mt), (5, .int lay), (6, .int (k + 1))]) [3, 4, 5, 6, 7, 8, 0] rfl ?_
                  refine ihk (k + 1) sg12 ?_ ?_
                  · refine ⟨?_, ?_, ?_, ?_, ?_⟩
                    · grind
                    · grind
                    · intro c j h1 h2; rw [bf c j h2]; exact kf c j h1 h2
                    · rw [bf 313 1 (by decide)]; exact ka
                    · intro j hj0 hj1; rw [zit_s _ _ k0 (by grind : k < sg 1 4)]; have e1 := kc j hj0 hj1; have e2 := bc j hj0 (by grind)
                      have e3 := kf (zel 4 k) 0 (by omega) (by omega); have e4 := kf (zel 4 k) 1 (by omega) (by omega); have e5 := kf (zel 4 k) 2 (by omega) (by omega); have e6 := kf (zel 4 k) 3 (by omega) (by omega)
                      have e7 := kf (zel 4 k) 4 (by omega) (by omega); have e8 := kf (zel 4 k) 5 (by omega) (by omega); have e9 := kf (zel 4 k) 6 (by omega) (by omega); have e10 := kf (zel 4 k) 7 (by omega) (by omega)
                      simp only [cS1]; grind
                  · exact zmu_up (by grind)
      · refine ⟨?_, ?_, ?_, ?_, ?_⟩
        · grind
        · grind
        · exact of
        · exact oa
        · intro j hj0 hj1; rw [zit_0]; exact oc j hj0 hj1
  · refine ⟨?_, ?_, ?_, ?_, ?_⟩
    · grind
    · grind
    · exact f2
    · exact a2
    · intro j hj0 hj1; rw [zit_0]; exact c2 j hj0 hj1
theorem cLoo_see_313 {sg : zSig} {wo mv mt : Int32} (hn0 : 0 ≤ sg 1 2) (hn : sg 1 2 ≤ 200) (hk0 : 0 ≤ sg 1 4) (hk : sg 1 4 ≤ 16) : zG mLoo_see 411 (fun rr h' => ∃ sg', rr = none ∧ h' = zN sg' ∧ (∀ c j, c ≠ 313 → c ≠ 314 → sg' c j = sg c j) ∧ sg' 313 1 = sg 1 2 ∧ ∀ j, 0 ≤ j → j < sg 1 2 → sg' 314 j = cS sg wo mv mt j) 0 [(0, .ref 313), (1, .ref 1), (2, .int wo), (3, .int mv), (4, .int mt)] [] (zN sg) := lLoo_see_313 hn0 hn hk0 hk (fun _ _ q => q)
theorem lLoo_see_315 {sg : zSig} {wo mv mt : Int32} (hn0 : 0 ≤ sg 1 2) (hn : sg 1 2 ≤ 200) (hk0 : 0 ≤ sg 1 4) (hk : sg 1 4 ≤ 16) {Q : Option Value → zHp → Prop} (hq : ∀ rr h', (∃ sg', rr = none ∧ h' = zN sg' ∧ (∀ c j, c ≠ 315 → c ≠ 316 → sg' c j = sg c j) ∧ sg' 315 1 = sg 1 2 ∧ ∀ j, 0 ≤ j → j < sg 1 2 → sg' 316 j = cS sg wo mv mt j) → Q rr h') : zG mLoo_see 411 Q 0 [(0, .ref 315), (1, .ref 1), (2, .int wo), (3, .int mv), (4, .int mt)] [] (zN sg) := by
  refine zG_run bkLoo_see_0 (lv' := [(0, .ref 315), (1, .ref 1), (2, .int wo), (3, .int mv), (4, .int mt)]) (st' := []) (h' := zN (zup sg 315 1 (sg 1 2))) (Ps := [zOb (zN sg) 1 5, zOb (zN sg) 315 3]) rfl (zA zob_1 (zA zob_315 trivial)) ?_
  refine zG_nm (sg := zup sg 315 1 (sg 1 2)) (fun sg1 e1 => ?_)
  have a1 : sg1 315 1 = sg 1 2 := by rw [e1]; exact zup_s
  have f1 : ∀ c j, c ≠ 315 → sg1 c j = sg c j := fun c j h => by rw [e1]; exact zup_a h
  refine zG_run bkLoo_see_8 (lv' := [(0, .ref 315), (1, .ref 1), (2, .int wo), (3, .int mv), (4, .int mt)]) (st' := [.int (sg1 315 1), .int 0, .ref 316, .int 0, .ref 3]) (h' := zN sg1) (Ps := [zOb (zN sg1) 1 5 ∧ (zN sg1).2.2 1 1 = true, zOb (zN sg1) 315 3 ∧ (zN sg1).2.2 315 0 = true, zOb (zN sg1) 315 3]) rfl (zA ⟨zob_1, rfl⟩ (zA ⟨zob_315, rfl⟩ (zA zob_315 trivial))) ?_
  refine zs_acopy bdLoo_see_22 lk3_25 (And.intro (by decide) (by decide)) (Nat.le_of_ble_eq_true rfl) (zcp_3_316 (sp := 0) (dp := 0) (n := sg1 315 1) (by grind) (by grind) (by grind) (by grind) (by grind) (by grind) (by grind)) ?_
  refine zG_nm (sg := zcp sg1 3 316 0 0 (sg1 315 1)) (fun sg2 e2 => ?_)
  have f2 : ∀ c j, c ≠ 315 → c ≠ 316 → sg2 c j = sg c j := fun c j h1 h2 => by rw [e2, zcp_e, if_neg (fun q => h2 q.1)]; exact f1 c j h1
  have a2 : sg2 315 1 = sg 1 2 := by rw [e2, zcp_e, if_neg (fun q => absurd q.1 (by decide))]; exact a1
  have c2 : ∀ j, 0 ≤ j → j < sg 1 2 → sg2 316 j = sg 3 j := fun j h1 h2 => by rw [e2, zcp_e, if_pos ⟨rfl, h1, by rw [a1]; grind⟩, f1 3 _ (by decide)]; congr 1; grind
  refine zG_run bkLoo_see_25 (lv' := [(5, .int 0), (0, .ref 315), (1, .ref 1), (2, .int wo), (3, .int mv), (4, .int mt)]) (st' := []) (h' := zN sg2) (Ps := []) rfl trivial ?_
  refine zG_pick (lv' := [(0, .ref 315), (1, .ref 1), (2, .int wo), (3, .int mv), (4, .int mt), (5, .int 0)]) [1, 2, 3, 4, 5, 0] rfl ?_
  refine zlp2 (fun (lay : Int32) (sg3 : zSig) => zG mLoo_see 411 Q 28 [(0, .ref 315), (1, .ref 1), (2, .int wo), (3, .int mv), (4, .int mt), (5, .int lay)] [] (zN sg3)) (fun (lay : Int32) (sg3 : zSig) => (0 ≤ lay) ∧ (lay ≤ 10) ∧ (∀ c j, c ≠ 315 → c ≠ 316 → sg3 c j = sg c j) ∧ (sg3 315 1 = sg 1 2) ∧ (∀ j, 0 ≤ j → j < sg 1 2 → sg3 316 j = zit (cS2 sg wo mv mt j) (sg 3 j) lay)) (fun (lay : Int32) (sg3 : zSig) => zmu 10 lay) ?_ 0 sg2 ?_
  · intro lay sg3 ho iho
    obtain ⟨o0, o1, of, oa, oc⟩ := ho
    refine zb_icge (tgt := 113) bkLoo_see_28 bdLoo_see_32 (by decide) (lv' := [(0, .ref 315), (1, .ref 1), (2, .int wo), (3, .int mv), (4, .int mt), (5, .int lay)]) (st' := []) (h' := zN sg3) (x := lay) (y := 10) (Ps := []) rfl trivial (fun c1 => ?_) (fun c1 => ?_)
    · skip
      refine zb_vret bkLoo_see_113 bdLoo_see_113 rfl (h' := zN sg3) (Ps := []) rfl trivial rfl ?_
      refine hq _ _ ?_
      have e3 : lay = 10 := by grind
      exact ⟨sg3, rfl, rfl, of, oa, fun j h5 h6 => by rw [oc j h5 h6, e3]; rfl⟩
    · skip
      refine zG_run bkLoo_see_35 (lv' := [(6, .int 0), (0, .ref 315), (1, .ref 1), (2, .int wo), (3, .int mv), (4, .int mt), (5, .int lay)]) (st' := []) (h' := zN sg3) (Ps := []) rfl trivial ?_
      refine zG_pick (lv' := [(0, .ref 315), (1, .ref 1), (2, .int wo), (3, .int mv), (4, .int mt), (5, .int lay), (6, .int 0)]) [1, 2, 3, 4, 5, 6, 0] rfl ?_
      refine zlp2 (fun (k : Int32) (sg4 : zSig) => zG mLoo_see 411 Q 38 [(0, .ref 315), (1, .ref 1), (2, .int wo), (3, .int mv), (4, .int mt), (5, .int lay), (6, .int k)] [] (zN sg4)) (fun (k : Int32) (sg4 : zSig) => (0 ≤ k) ∧ (k ≤ sg 1 4) ∧ (∀ c j, c ≠ 315 → c ≠ 316 → sg4 c j = sg c j) ∧ (sg4 315 1 = sg 1 2) ∧ (∀ j, 0 ≤ j → j < sg 1 2 → sg4 316 j = zit (cS1 sg wo mv mt j lay) (zit (cS2 sg wo mv mt j) (sg 3 j) lay) k)) (fun (k : Int32) (sg4 : zSig) => zmu (sg 1 4) k) ?_ 0 sg3 ?_
      · intro k sg4 hk ihk
        obtain ⟨k0, k1, kf, ka, kc⟩ := hk
        have e14 := kf 1 4 (by decide) (by decide)
        refine zb_icge (tgt := 107) bkLoo_see_38 bdLoo_see_44 (by decide) (lv' := [(0, .ref 315), (1, .ref 1), (2, .int wo), (3, .int mv), (4, .int mt), (5, .int lay), (6, .int k)]) (st' := []) (h' := zN sg4) (x := k) (y := sg4 1 4) (Ps := [zOb (zN sg4) 1 5]) rfl (zA zob_1 trivial) (fun c2 => ?_) (fun c2 => ?_)
        · skip
          refine zG_run bkLoo_see_107 (lv' := [(5, .int (lay + 1)), (0, .ref 315), (1, .ref 1), (2, .int wo), (3, .int mv), (4, .int mt), (6, .int k)]) (st' := []) (h' := zN sg4) (Ps := []) rfl trivial ?_
          refine zG_pick (lv' := [(0, .ref 315), (1, .ref 1), (2, .int wo), (3, .int mv), (4, .int mt), (5, .int (lay + 1))]) [1, 2, 3, 4, 5, 0] rfl ?_
          refine iho (lay + 1) sg4 ?_ ?_
          · refine ⟨?_, ?_, ?_, ?_, ?_⟩
            · grind
            · grind
            · exact kf
            · exact ka
            · intro j hj0 hj1; rw [zit_s _ _ o0 (by grind : lay < 10)]; have e1 := kc j hj0 hj1; have e2 : k = sg 1 4 := by grind
              rw [e1, e2]; rfl
          · exact zmu_up (by grind)
        · skip
          have hz := zel4_rng (i := k) k0 (by grind)
          refine zb_icne (tgt := 67) bkLoo_see_47 bdLoo_see_59 (by decide) (lv' := [(7, .ref (zel 4 k)), (0, .ref 315), (1, .ref 1), (2, .int wo), (3, .int mv), (4, .int mt), (5, .int lay), (6, .int k)]) (st' := []) (h' := zN sg4) (x := k) (y := mv) (Ps := [zOb (zN sg4) 1 5 ∧ (zN sg4).2.2 1 3 = true, zInR (zN sg4) 4 k]) rfl (zA ⟨zob_1, rfl⟩ (zA (zinR_4 (i := k) (by grind) (by grind)) trivial)) (fun c3 => ?_) (fun c3 => ?_)
          · skip
            refine zb_ifeq (tgt := 101) bkLoo_see_67 bdLoo_see_79 (by decide) (lv' := [(8, .int (sg4 (zel 4 k) 3)), (7, .ref (zel 4 k)), (0, .ref 315), (1, .ref 1), (2, .int wo), (3, .int mv), (4, .int mt), (5, .int lay), (6, .int k)]) (st' := []) (h' := zN sg4) (x := sg4 (zel 4 k) 0) (Ps := [zOb (zN sg4) (zel 4 k) 6, zOb (zN sg4) (zel 4 k) 6]) rfl (zA (zel_ob4 (i := k) (by grind) (by grind)) (zA (zel_ob4 (i := k) (by grind) (by grind)) trivial)) (fun c4 => ?_) (fun c4 => ?_)
            · skip
              refine zG_run bkLoo_see_101 (lv' := [(6, .int (k + 1)), (8, .int (sg4 (zel 4 k) 3)), (7, .ref (zel 4 k)), (0, .ref 315), (1, .ref 1), (2, .int wo), (3, .int mv), (4, .int mt), (5, .int lay)]) (st' := []) (h' := zN sg4) (Ps := []) rfl trivial ?_
              refine zG_pick (lv' := [(0, .ref 315), (1, .ref 1), (2, .int wo), (3, .int mv), (4, .int mt), (5, .int lay), (6, .int (k + 1))]) [3, 4, 5, 6, 7, 8, 0] rfl ?_
              refine ihk (k + 1) sg4 ?_ ?_
              · refine ⟨?_, ?_, ?_, ?_, ?_⟩
                · grind
                · grind
                · intro c j h1 h2; exact kf c j h1 h2
                · exact ka
                · intro j hj0 hj1; rw [zit_s _ _ k0 (by grind : k < sg 1 4)]; have e1 := kc j hj0 hj1
                  have e3 := kf (zel 4 k) 0 (by omega) (by omega); have e4 := kf (zel 4 k) 1 (by omega) (by omega); have e5 := kf (zel 4 k) 2 (by omega) (by omega); have e6 := kf (zel 4 k) 3 (by omega) (by omega)
                  have e7 := kf (zel 4 k) 4 (by omega) (by omega); have e8 := kf (zel 4 k) 5 (by omega) (by omega); have e9 := kf (zel 4 k) 6 (by omega) (by omega); have e10 := kf (zel 4 k) 7 (by omega) (by omega)
                  simp only [cS1]; grind
              · exact zmu_up (by grind)
            · skip
              refine zb_iceq (tgt := 101) bkLoo_see_82 bdLoo_see_85 (by decide) (lv' := [(8, .int (sg4 (zel 4 k) 3)), (7, .ref (zel 4 k)), (0, .ref 315), (1, .ref 1), (2, .int wo), (3, .int mv), (4, .int mt), (5, .int lay), (6, .int k)]) (st' := []) (h' := zN sg4) (x := k) (y := wo) (Ps := []) rfl trivial (fun c5 => ?_) (fun c5 => ?_)
              · skip
                refine zG_run bkLoo_see_101 (lv' := [(6, .int (k + 1)), (8, .int (sg4 (zel 4 k) 3)), (7, .ref (zel 4 k)), (0, .ref 315), (1, .ref 1), (2, .int wo), (3, .int mv), (4, .int mt), (5, .int lay)]) (st' := []) (h' := zN sg4) (Ps := []) rfl trivial ?_
                refine zG_pick (lv' := [(0, .ref 315), (1, .ref 1), (2, .int wo), (3, .int mv), (4, .int mt), (5, .int lay), (6, .int (k + 1))]) [3, 4, 5, 6, 7, 8, 0] rfl ?_
                refine ihk (k + 1) sg4 ?_ ?_
                · refine ⟨?_, ?_, ?_, ?_, ?_⟩
                  · grind
                  · grind
                  · intro c j h1 h2; exact kf c j h1 h2
                  · exact ka
                  · intro j hj0 hj1; rw [zit_s _ _ k0 (by grind : k < sg 1 4)]; have e1 := kc j hj0 hj1
                    have e3 := kf (zel 4 k) 0 (by omega) (by omega); have e4 := kf (zel 4 k) 1 (by omega) (by omega); have e5 := kf (zel 4 k) 2 (by omega) (by omega); have e6 := kf (zel 4 k) 3 (by omega) (by omega)
                    have e7 := kf (zel 4 k) 4 (by omega) (by omega); have e8 := kf (zel 4 k) 5 (by omega) (by omega); have e9 := kf (zel 4 k) 6 (by omega) (by omega); have e10 := kf (zel 4 k) 7 (by omega) (by omega)
                    simp only [cS1]; grind
                · exact zmu_up (by grind)
              · skip
                refine zb_icne (tgt := 101) bkLoo_see_88 bdLoo_see_92 (by decide) (lv' := [(8, .int (sg4 (zel 4 k) 3)), (7, .ref (zel 4 k)), (0, .ref 315), (1, .ref 1), (2, .int wo), (3, .int mv), (4, .int mt), (5, .int lay), (6, .int k)]) (st' := []) (h' := zN sg4) (x := sg4 (zel 4 k) 3) (y := lay) (Ps := []) rfl trivial (fun c6 => ?_) (fun c6 => ?_)
                · skip
                  refine zG_run bkLoo_see_101 (lv' := [(6, .int (k + 1)), (8, .int (sg4 (zel 4 k) 3)), (7, .ref (zel 4 k)), (0, .ref 315), (1, .ref 1), (2, .int wo), (3, .int mv), (4, .int mt), (5, .int lay)]) (st' := []) (h' := zN sg4) (Ps := []) rfl trivial ?_
                  refine zG_pick (lv' := [(0, .ref 315), (1, .ref 1), (2, .int wo), (3, .int mv), (4, .int mt), (5, .int lay), (6, .int (k + 1))]) [3, 4, 5, 6, 7, 8, 0] rfl ?_
                  refine ihk (k + 1) sg4 ?_ ?_
                  · refine ⟨?_, ?_, ?_, ?_, ?_⟩
                    · grind
                    · grind
                    · intro c j h1 h2; exact kf c j h1 h2
                    · exact ka
                    · intro j hj0 hj1; rw [zit_s _ _ k0 (by grind : k < sg 1 4)]; have e1 := kc j hj0 hj1
                      have e3 := kf (zel 4 k) 0 (by omega) (by omega); have e4 := kf (zel 4 k) 1 (by omega) (by omega); have e5 := kf (zel 4 k) 2 (by omega) (by omega); have e6 := kf (zel 4 k) 3 (by omega) (by omega)
                      have e7 := kf (zel 4 k) 4 (by omega) (by omega); have e8 := kf (zel 4 k) 5 (by omega) (by omega); have e9 := kf (zel 4 k) 6 (by omega) (by omega); have e10 := kf (zel 4 k) 7 (by omega) (by omega)
                      simp only [cS1]; grind
                  · exact zmu_up (by grind)
                · skip
                  refine zG_run bkLoo_see_95 (lv' := [(8, .int (sg4 (zel 4 k) 3)), (7, .ref (zel 4 k)), (0, .ref 315), (1, .ref 1), (2, .int wo), (3, .int mv), (4, .int mt), (5, .int lay), (6, .int k)]) (st' := [.ref (zel 4 k), .ref 315]) (h' := zN sg4) (Ps := []) rfl trivial ?_
                  refine zG_callv (a := 315) (c := 3) (As := [.ref (zel 4 k)]) (rest := []) (N2 := 411) bdLoo_see_98 okLoo_brush lk3_47 (And.intro (by decide) (by decide)) (by decide) rfl rfl rfl (Nat.le_of_ble_eq_true rfl) (Nat.le_of_ble_eq_true rfl) (Nat.le_refl 411) (Nat.le_refl 411) zob_315 (cLoo_brush_315 (zel_ob4 (i := k) (by grind) (by grind)) (by grind) (by grind)) ?_
                  rintro rr h' ⟨sg7, rfl, rfl, bf, bc⟩ -
                  refine zG_run bkLoo_see_101 (lv' := [(6, .int (k + 1)), (8, .int (sg4 (zel 4 k) 3)), (7, .ref (zel 4 k)), (0, .ref 315), (1, .ref 1), (2, .int wo), (3, .int mv), (4, .int mt), (5, .int lay)]) (st' := []) (h' := zN sg7) (Ps := []) rfl trivial ?_
                  refine zG_pick (lv' := [(0, .ref 315), (1, .ref 1), (2, .int wo), (3, .int mv), (4, .int mt), (5, .int lay), (6, .int (k + 1))]) [3, 4, 5, 6, 7, 8, 0] rfl ?_
                  refine ihk (k + 1) sg7 ?_ ?_
                  · refine ⟨?_, ?_, ?_, ?_, ?_⟩
                    · grind
                    · grind
                    · intro c j h1 h2; rw [bf c j h2]; exact kf c j h1 h2
                    · rw [bf 315 1 (by decide)]; exact ka
                    · intro j hj0 hj1; rw [zit_s _ _ k0 (by grind : k < sg 1 4)]; have e1 := kc j hj0 hj1; have e2 := bc j hj0 (by grind)
                      have e3 := kf (zel 4 k) 0 (by omega) (by omega); have e4 := kf (zel 4 k) 1 (by omega) (by omega); have e5 := kf (zel 4 k) 2 (by omega) (by omega); have e6 := kf (zel 4 k) 3 (by omega) (by omega)
                      have e7 := kf (zel 4 k) 4 (by omega) (by omega); have e8 := kf (zel 4 k) 5 (by omega) (by omega); have e9 := kf (zel 4 k) 6 (by omega) (by omega); have e10 := kf (zel 4 k) 7 (by omega) (by omega)
                      simp only [cS1]; grind
                  · exact zmu_up (by grind)
          · skip
            refine zb_ifeq (tgt := 101) bkLoo_see_62 bdLoo_see_79 (by decide) (lv' := [(8, .int mt), (7, .ref (zel 4 k)), (0, .ref 315), (1, .ref 1), (2, .int wo), (3, .int mv), (4, .int mt), (5, .int lay), (6, .int k)]) (st' := []) (h' := zN sg4) (x := sg4 (zel 4 k) 0) (Ps := [zOb (zN sg4) (zel 4 k) 6]) rfl (zA (zel_ob4 (i := k) (by grind) (by grind)) trivial) (fun c9 => ?_) (fun c9 => ?_)
            · skip
              refine zG_run bkLoo_see_101 (lv' := [(6, .int (k + 1)), (8, .int mt), (7, .ref (zel 4 k)), (0, .ref 315), (1, .ref 1), (2, .int wo), (3, .int mv), (4, .int mt), (5, .int lay)]) (st' := []) (h' := zN sg4) (Ps := []) rfl trivial ?_
              refine zG_pick (lv' := [(0, .ref 315), (1, .ref 1), (2, .int wo), (3, .int mv), (4, .int mt), (5, .int lay), (6, .int (k + 1))]) [3, 4, 5, 6, 7, 8, 0] rfl ?_
              refine ihk (k + 1) sg4 ?_ ?_
              · refine ⟨?_, ?_, ?_, ?_, ?_⟩
                · grind
                · grind
                · intro c j h1 h2; exact kf c j h1 h2
                · exact ka
                · intro j hj0 hj1; rw [zit_s _ _ k0 (by grind : k < sg 1 4)]; have e1 := kc j hj0 hj1
                  have e3 := kf (zel 4 k) 0 (by omega) (by omega); have e4 := kf (zel 4 k) 1 (by omega) (by omega); have e5 := kf (zel 4 k) 2 (by omega) (by omega); have e6 := kf (zel 4 k) 3 (by omega) (by omega)
                  have e7 := kf (zel 4 k) 4 (by omega) (by omega); have e8 := kf (zel 4 k) 5 (by omega) (by omega); have e9 := kf (zel 4 k) 6 (by omega) (by omega); have e10 := kf (zel 4 k) 7 (by omega) (by omega)
                  simp only [cS1]; grind
              · exact zmu_up (by grind)
            · skip
              refine zb_iceq (tgt := 101) bkLoo_see_82 bdLoo_see_85 (by decide) (lv' := [(8, .int mt), (7, .ref (zel 4 k)), (0, .ref 315), (1, .ref 1), (2, .int wo), (3, .int mv), (4, .int mt), (5, .int lay), (6, .int k)]) (st' := []) (h' := zN sg4) (x := k) (y := wo) (Ps := []) rfl trivial (fun c10 => ?_) (fun c10 => ?_)
              · skip
                refine zG_run bkLoo_see_101 (lv' := [(6, .int (k + 1)), (8, .int mt), (7, .ref (zel 4 k)), (0, .ref 315), (1, .ref 1), (2, .int wo), (3, .int mv), (4, .int mt), (5, .int lay)]) (st' := []) (h' := zN sg4) (Ps := []) rfl trivial ?_
                refine zG_pick (lv' := [(0, .ref 315), (1, .ref 1), (2, .int wo), (3, .int mv), (4, .int mt), (5, .int lay), (6, .int (k + 1))]) [3, 4, 5, 6, 7, 8, 0] rfl ?_
                refine ihk (k + 1) sg4 ?_ ?_
                · refine ⟨?_, ?_, ?_, ?_, ?_⟩
                  · grind
                  · grind
                  · intro c j h1 h2; exact kf c j h1 h2
                  · exact ka
                  · intro j hj0 hj1; rw [zit_s _ _ k0 (by grind : k < sg 1 4)]; have e1 := kc j hj0 hj1
                    have e3 := kf (zel 4 k) 0 (by omega) (by omega); have e4 := kf (zel 4 k) 1 (by omega) (by omega); have e5 := kf (zel 4 k) 2 (by omega) (by omega); have e6 := kf (zel 4 k) 3 (by omega) (by omega)
                    have e7 := kf (zel 4 k) 4 (by omega) (by omega); have e8 := kf (zel 4 k) 5 (by omega) (by omega); have e9 := kf (zel 4 k) 6 (by omega) (by omega); have e10 := kf (zel 4 k) 7 (by omega) (by omega)
                    simp only [cS1]; grind
                · exact zmu_up (by grind)
              · skip
                refine zb_icne (tgt := 101) bkLoo_see_88 bdLoo_see_92 (by decide) (lv' := [(8, .int mt), (7, .ref (zel 4 k)), (0, .ref 315), (1, .ref 1), (2, .int wo), (3, .int mv), (4, .int mt), (5, .int lay), (6, .int k)]) (st' := []) (h' := zN sg4) (x := mt) (y := lay) (Ps := []) rfl trivial (fun c11 => ?_) (fun c11 => ?_)
                · skip
                  refine zG_run bkLoo_see_101 (lv' := [(6, .int (k + 1)), (8, .int mt), (7, .ref (zel 4 k)), (0, .ref 315), (1, .ref 1), (2, .int wo), (3, .int mv), (4, .int mt), (5, .int lay)]) (st' := []) (h' := zN sg4) (Ps := []) rfl trivial ?_
                  refine zG_pick (lv' := [(0, .ref 315), (1, .ref 1), (2, .int wo), (3, .int mv), (4, .int mt), (5, .int lay), (6, .int (k + 1))]) [3, 4, 5, 6, 7, 8, 0] rfl ?_
                  refine ihk (k + 1) sg4 ?_ ?_
                  · refine ⟨?_, ?_, ?_, ?_, ?_⟩
                    · grind
                    · grind
                    · intro c j h1 h2; exact kf c j h1 h2
                    · exact ka
                    · intro j hj0 hj1; rw [zit_s _ _ k0 (by grind : k < sg 1 4)]; have e1 := kc j hj0 hj1
                      have e3 := kf (zel 4 k) 0 (by omega) (by omega); have e4 := kf (zel 4 k) 1 (by omega) (by omega); have e5 := kf (zel 4 k) 2 (by omega) (by omega); have e6 := kf (zel 4 k) 3 (by omega) (by omega)
                      have e7 := kf (zel 4 k) 4 (by omega) (by omega); have e8 := kf (zel 4 k) 5 (by omega) (by omega); have e9 := kf (zel 4 k) 6 (by omega) (by omega); have e10 := kf (zel 4 k) 7 (by omega) (by omega)
                      simp only [cS1]; grind
                  · exact zmu_up (by grind)
                · skip
                  refine zG_run bkLoo_see_95 (lv' := [(8, .int mt), (7, .ref (zel 4 k)), (0, .ref 315), (1, .ref 1), (2, .int wo), (3, .int mv), (4, .int mt), (5, .int lay), (6, .int k)]) (st' := [.ref (zel 4 k), .ref 315]) (h' := zN sg4) (Ps := []) rfl trivial ?_
                  refine zG_callv (a := 315) (c := 3) (As := [.ref (zel 4 k)]) (rest := []) (N2 := 411) bdLoo_see_98 okLoo_brush lk3_47 (And.intro (by decide) (by decide)) (by decide) rfl rfl rfl (Nat.le_of_ble_eq_true rfl) (Nat.le_of_ble_eq_true rfl) (Nat.le_refl 411) (Nat.le_refl 411) zob_315 (cLoo_brush_315 (zel_ob4 (i := k) (by grind) (by grind)) (by grind) (by grind)) ?_
                  rintro rr h' ⟨sg12, rfl, rfl, bf, bc⟩ -
                  refine zG_run bkLoo_see_101 (lv' := [(6, .int (k + 1)), (8, .int mt), (7, .ref (zel 4 k)), (0, .ref 315), (1, .ref 1), (2, .int wo), (3, .int mv), (4, .int mt), (5, .int lay)]) (st' := []) (h' := zN sg12) (Ps := []) rfl trivial ?_
                  refine zG_pick (lv' := [(0, .ref 315), (1, .ref 1), (2, .int wo), (3, .int mv), (4, .int mt), (5, .int lay), (6, .int (k + 1))]) [3, 4, 5, 6, 7, 8, 0] rfl ?_
                  refine ihk (k + 1) sg12 ?_ ?_
                  · refine ⟨?_, ?_, ?_, ?_, ?_⟩
                    · grind
                    · grind
                    · intro c j h1 h2; rw [bf c j h2]; exact kf c j h1 h2
                    · rw [bf 315 1 (by decide)]; exact ka
                    · intro j hj0 hj1; rw [zit_s _ _ k0 (by grind : k < sg 1 4)]; have e1 := kc j hj0 hj1; have e2 := bc j hj0 (by grind)
                      have e3 := kf (zel 4 k) 0 (by omega) (by omega); have e4 := kf (zel 4 k) 1 (by omega) (by omega); have e5 := kf (zel 4 k) 2 (by omega) (by omega); have e6 := kf (zel 4 k) 3 (by omega) (by omega)
                      have e7 := kf (zel 4 k) 4 (by omega) (by omega); have e8 := kf (zel 4 k) 5 (by omega) (by omega); have e9 := kf (zel 4 k) 6 (by omega) (by omega); have e10 := kf (zel 4 k) 7 (by omega) (by omega)
                      simp only [cS1]; grind
                  · exact zmu_up (by grind)
      · refine ⟨?_, ?_, ?_, ?_, ?_⟩
        · grind
        · grind
        · exact of
        · exact oa
        · intro j hj0 hj1; rw [zit_0]; exact oc j hj0 hj1
  · refine ⟨?_, ?_, ?_, ?_, ?_⟩
    · grind
    · grind
    · exact f2
    · exact a2
    · intro j hj0 hj1; rw [zit_0]; exact c2 j hj0 hj1
theorem cLoo_see_315 {sg : zSig} {wo mv mt : Int32} (hn0 : 0 ≤ sg 1 2) (hn : sg 1 2 ≤ 200) (hk0 : 0 ≤ sg 1 4) (hk : sg 1 4 ≤ 16) : zG mLoo_see 411 (fun rr h' => ∃ sg', rr = none ∧ h' = zN sg' ∧ (∀ c j, c ≠ 315 → c ≠ 316 → sg' c j = sg c j) ∧ sg' 315 1 = sg 1 2 ∧ ∀ j, 0 ≤ j → j < sg 1 2 → sg' 316 j = cS sg wo mv mt j) 0 [(0, .ref 315), (1, .ref 1), (2, .int wo), (3, .int mv), (4, .int mt)] [] (zN sg) := lLoo_see_315 hn0 hn hk0 hk (fun _ _ q => q)
theorem bkLoo_isLike_0 : zBk mLoo_isLike 0 [(1, 0, 1, 0, 0), (5, 3, 1, 0, 1), (1, 1, 1, 0, 0), (5, 3, 1, 0, 1)] = some 8 := by decide +kernel
theorem bkLoo_isLike_13 : zBk mLoo_isLike 13 [(0, 0, 0, 0, 0), (2, 2, 0, 0, 0)] = some 15 := by decide +kernel
theorem bkLoo_isLike_15 : zBk mLoo_isLike 15 [(1, 2, 0, 0, 0), (1, 0, 1, 0, 0), (5, 3, 1, 0, 1)] = some 20 := by decide +kernel
theorem bkLoo_isLike_46 : zBk mLoo_isLike 46 [(0, 0, 0, 0, 1)] = some 47 := by decide +kernel
theorem bkLoo_isLike_23 : zBk mLoo_isLike 23 [(1, 0, 1, 0, 0), (5, 3, 0, 1, 0), (1, 2, 0, 0, 0), (7, 0, 0, 0, 0), (1, 1, 1, 0, 0), (5, 3, 0, 1, 0), (1, 2, 0, 0, 0), (7, 0, 0, 0, 0)] = some 35 := by decide +kernel
theorem bkLoo_isLike_40 : zBk mLoo_isLike 40 [(3, 2, 0, 0, 1), (22, 15, 0, 0, 0)] = some 15 := by decide +kernel
theorem bkLoo_isLike_38 : zBk mLoo_isLike 38 [(0, 0, 0, 0, 0)] = some 39 := by decide +kernel
theorem bkLoo_isLike_11 : zBk mLoo_isLike 11 [(0, 0, 0, 0, 0)] = some 12 := by decide +kernel
theorem bdLoo_isLike_8 : decode mLoo_isLike.2.2.1 8 = .ok (.if_icmp .eq 5, 3) := by decide +kernel
theorem bdLoo_isLike_12 : decode mLoo_isLike.2.2.1 12 = .ok (.ireturn, 1) := by decide +kernel
theorem bdLoo_isLike_20 : decode mLoo_isLike.2.2.1 20 = .ok (.if_icmp .ge 26, 3) := by decide +kernel
theorem bdLoo_isLike_35 : decode mLoo_isLike.2.2.1 35 = .ok (.if_icmp .eq 5, 3) := by decide +kernel
theorem bdLoo_isLike_39 : decode mLoo_isLike.2.2.1 39 = .ok (.ireturn, 1) := by decide +kernel
theorem bdLoo_isLike_47 : decode mLoo_isLike.2.2.1 47 = .ok (.ireturn, 1) := by decide +kernel
theorem lLoo_isLike {sg : zSig}  (hn0 : 0 ≤ sg 315 1) (hn : sg 315 1 ≤ 200) {Q : Option Value → zHp → Prop} (hq : ∀ rr h', (∃ v, rr = some (.int v) ∧ h' = zN sg ∧ ((v = 1 ∧ sg 315 1 = sg 313 1 ∧ ∀ j, 0 ≤ j → j < sg 315 1 → sg 316 j = sg 314 j) ∨ (v = 0 ∧ (sg 315 1 ≠ sg 313 1 ∨ ∃ j, 0 ≤ j ∧ j < sg 315 1 ∧ sg 316 j ≠ sg 314 j)))) → Q rr h') : zG mLoo_isLike 411 Q 0 [(0, .ref 315), (1, .ref 313)] [] (zN sg) := by
  refine zb_iceq (tgt := 13) bkLoo_isLike_0 bdLoo_isLike_8 (by decide) (lv' := [(0, .ref 315), (1, .ref 313)]) (st' := []) (h' := zN sg) (x := sg 315 1) (y := sg 313 1) (Ps := [zOb (zN sg) 315 3, zOb (zN sg) 313 3]) rfl (zA zob_315 (zA zob_313 trivial)) (fun c1 => ?_) (fun c1 => ?_)
  · skip
    refine zG_run bkLoo_isLike_13 (lv' := [(2, .int 0), (0, .ref 315), (1, .ref 313)]) (st' := []) (h' := zN sg) (Ps := []) rfl trivial ?_
    refine zG_pick (lv' := [(0, .ref 315), (1, .ref 313), (2, .int 0)]) [1, 2, 0] rfl ?_
    refine zlp1 (fun (i : Int32) => zG mLoo_isLike 411 Q 15 [(0, .ref 315), (1, .ref 313), (2, .int i)] [] (zN sg)) (fun (i : Int32) => (0 ≤ i) ∧ (i ≤ sg 315 1) ∧ (∀ j, 0 ≤ j → j < i → sg 316 j = sg 314 j)) (fun (i : Int32) => zmu (sg 315 1) i) ?_ 0 ?_
    · intro i hI ih
      obtain ⟨h0, h1, h2⟩ := hI
      refine zb_icge (tgt := 46) bkLoo_isLike_15 bdLoo_isLike_20 (by decide) (lv' := [(0, .ref 315), (1, .ref 313), (2, .int i)]) (st' := []) (h' := zN sg) (x := i) (y := sg 315 1) (Ps := [zOb (zN sg) 315 3]) rfl (zA zob_315 trivial) (fun c2 => ?_) (fun c2 => ?_)
      · skip
        refine zb_zret bkLoo_isLike_46 bdLoo_isLike_47 rfl (x := 1) (h' := zN sg) (Ps := []) rfl trivial rfl (Or.inr rfl) ?_
        refine hq _ _ ?_
        exact ⟨_, rfl, rfl, Or.inl ⟨rfl, by grind, fun j h5 h6 => h2 j h5 (by grind)⟩⟩
      · skip
        refine zb_iceq (tgt := 40) bkLoo_isLike_23 bdLoo_isLike_35 (by decide) (lv' := [(0, .ref 315), (1, .ref 313), (2, .int i)]) (st' := []) (h' := zN sg) (x := sg 316 i) (y := sg 314 i) (Ps := [zOb (zN sg) 315 3 ∧ (zN sg).2.2 315 0 = true, zInL (zN sg) 316 i, zOb (zN sg) 313 3 ∧ (zN sg).2.2 313 0 = true, zInL (zN sg) 314 i]) rfl (zA ⟨zob_315, rfl⟩ (zA (zinL_316 (i := i) (by grind) (by grind)) (zA ⟨zob_313, rfl⟩ (zA (zinL_314 (i := i) (by grind) (by grind)) trivial)))) (fun c3 => ?_) (fun c3 => ?_)
        · skip
          refine zG_run bkLoo_isLike_40 (lv' := [(2, .int (i + 1)), (0, .ref 315), (1, .ref 313)]) (st' := []) (h' := zN sg) (Ps := []) rfl trivial ?_
          refine zG_pick (lv' := [(0, .ref 315), (1, .ref 313), (2, .int (i + 1))]) [1, 2, 0] rfl ?_
          refine ih (i + 1) ?_ ?_
          · refine ⟨?_, ?_, ?_⟩
            · grind
            · grind
            · intro j hj0 hj1; by_cases hj : j = i; · subst hj; grind
              exact h2 j hj0 (by grind)
          · exact zmu_up (by grind)
        · skip
          refine zb_zret bkLoo_isLike_38 bdLoo_isLike_39 rfl (x := 0) (h' := zN sg) (Ps := []) rfl trivial rfl (Or.inl rfl) ?_
          refine hq _ _ ?_
          exact ⟨_, rfl, rfl, Or.inr ⟨rfl, Or.inr ⟨i, h0, by grind, by grind⟩⟩⟩
    · refine ⟨?_, ?_, ?_⟩
      · grind
      · grind
      · grind
  · skip
    refine zb_zret bkLoo_isLike_11 bdLoo_isLike_12 rfl (x := 0) (h' := zN sg) (Ps := []) rfl trivial rfl (Or.inl rfl) ?_
    refine hq _ _ ?_
    exact ⟨_, rfl, rfl, Or.inr ⟨rfl, Or.inl (by grind)⟩⟩
theorem cLoo_isLike {sg : zSig}  (hn0 : 0 ≤ sg 315 1) (hn : sg 315 1 ≤ 200) : zG mLoo_isLike 411 (fun rr h' => ∃ v, rr = some (.int v) ∧ h' = zN sg ∧ ((v = 1 ∧ sg 315 1 = sg 313 1 ∧ ∀ j, 0 ≤ j → j < sg 315 1 → sg 316 j = sg 314 j) ∨ (v = 0 ∧ (sg 315 1 ≠ sg 313 1 ∨ ∃ j, 0 ≤ j ∧ j < sg 315 1 ∧ sg 316 j ≠ sg 314 j)))) 0 [(0, .ref 315), (1, .ref 313)] [] (zN sg) := lLoo_isLike hn0 hn (fun _ _ q => q)
