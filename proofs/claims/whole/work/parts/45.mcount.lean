/-! the reference: write, count: printed by wip/whole/p45.py -/
theorem bkMo_write_5 : zBk mMo_write 5 [(1, 0, 1, 0, 0)] = some 6 := by decide +kernel
theorem bkMo_write_9 : zBk mMo_write 9 [(1, 0, 1, 0, 0), (5, 10, 27, 0, 27), (0, 0, 0, 0, 400)] = some 16 := by decide +kernel
theorem bkMo_write_26 : zBk mMo_write 26 [(0, 0, 0, 0, 0), (2, 1, 0, 0, 0)] = some 28 := by decide +kernel
theorem bkMo_write_28 : zBk mMo_write 28 [(1, 1, 0, 0, 0), (1, 0, 1, 0, 0), (5, 10, 27, 0, 27)] = some 33 := by decide +kernel
theorem bkMo_write_54 : zBk mMo_write 54 [(1, 0, 1, 0, 0), (1, 0, 1, 0, 0), (5, 10, 27, 0, 27), (6, 10, 11, 0, 11), (1, 0, 1, 0, 0), (1, 0, 1, 0, 0), (5, 10, 11, 0, 11)] = some 67 := by decide +kernel
theorem bkMo_write_70 : zBk mMo_write 70 [] = some 70 := by decide +kernel
theorem bkMo_write_36 : zBk mMo_write 36 [(1, 0, 1, 0, 0), (5, 10, 10, 8, 10), (1, 1, 0, 0, 0), (1, 0, 1, 0, 0), (5, 10, 26, 15, 26), (1, 1, 0, 0, 0), (7, 1, 0, 0, 0), (8, 1, 0, 0, 0), (3, 1, 0, 0, 1), (22, 28, 0, 0, 0)] = some 28 := by decide +kernel
theorem bkMo_write_19 : zBk mMo_write 19 [(1, 0, 1, 0, 0), (0, 0, 0, 0, -5)] = some 22 := by decide +kernel
theorem bkMo_write_25 : zBk mMo_write 25 [] = some 25 := by decide +kernel
theorem bkMo_write_0 : zBk mMo_write 0 [(1, 0, 1, 0, 0), (0, 0, 0, 0, 0), (6, 10, 0, 0, 0)] = some 5 := by decide +kernel
theorem bdMo_write_6 : decode mMo_write.2.2.1 6 = .ok (.invokevirtual 255, 3) := by decide +kernel
theorem bdMo_write_16 : decode mMo_write.2.2.1 16 = .ok (.if_icmp .le 10, 3) := by decide +kernel
theorem bdMo_write_22 : decode mMo_write.2.2.1 22 = .ok (.invokevirtual 80, 3) := by decide +kernel
theorem bdMo_write_25 : decode mMo_write.2.2.1 25 = .ok (.ireturn, 1) := by decide +kernel
theorem bdMo_write_33 : decode mMo_write.2.2.1 33 = .ok (.if_icmp .ge 21, 3) := by decide +kernel
theorem bdMo_write_67 : decode mMo_write.2.2.1 67 = .ok (.invokevirtual 84, 3) := by decide +kernel
theorem bdMo_write_70 : decode mMo_write.2.2.1 70 = .ok (.ireturn, 1) := by decide +kernel
theorem lMo_write {sg : zSig}  (n0 : 0 ≤ sg 395 0) (n2 : sg 395 0 ≤ 200) (g0 : 0 ≤ sg 395 1) (g1 : sg 395 1 ≤ 16) {Q : Option Value → zHp → Prop} (hq : ∀ rr h', (∃ sW, sW = mWall sg ∧ mQ sg sW ∧ 0 ≤ sW 393 27 ∧ sW 393 27 ≤ 10000 ∧ ((400 < sW 393 27 ∧ rr = some (.int (-5)) ∧ h' = zN (hRef sW (-5))) ∨ (sW 393 27 ≤ 400 ∧ ∃ s', rr = some (.int (sW 393 27)) ∧ h' = zN (hTell s') ∧ (∀ c j, c ≠ 401 → (c ≠ 393 ∨ j ≠ 11) → s' c j = sW c j) ∧ s' 393 11 = sW 393 27 ∧ ∀ j, 0 ≤ j → j < sW 393 27 → s' 401 j = (sW 408 j).toInt8.toInt32))) → Q rr h') : zG mMo_write 411 Q 5 [(0, .ref 393)] [] (zN sg) := by
  refine zG_run bkMo_write_5 (lv' := [(0, .ref 393)]) (st' := [.ref 393]) (h' := zN sg) (Ps := []) rfl trivial ?_
  refine zG_callv (a := 393) (c := 10) (As := []) (rest := []) (N2 := 411) bdMo_write_6 okMo_writes lk10_255 (And.intro (by decide) (by decide)) (by decide) rfl rfl rfl (Nat.le_of_ble_eq_true rfl) (Nat.le_of_ble_eq_true rfl) (Nat.le_refl 411) (Nat.le_refl 411) zob_393 (cMo_writes (by lia) (by lia) (by lia) (by lia)) ?_
  rintro rr h' ⟨sW, rfl, rfl, eW, qW, wl0, wl1⟩ -
  refine zb_icle (tgt := 26) bkMo_write_9 bdMo_write_16 (by decide) (lv' := [(0, .ref 393)]) (st' := []) (h' := zN sW) (x := sW 393 27) (y := 400) (Ps := [zOb (zN sW) 393 10]) rfl (zA zob_393 trivial) (fun c1 => ?_) (fun c1 => ?_)
  · skip
    refine zG_run bkMo_write_26 (lv' := [(1, .int 0), (0, .ref 393)]) (st' := []) (h' := zN sW) (Ps := []) rfl trivial ?_
    refine zG_pick (lv' := [(0, .ref 393), (1, .int 0)]) [1, 0] rfl ?_
    refine zlp2 (fun (k : Int32) (s1 : zSig) => zG mMo_write 411 Q 28 [(0, .ref 393), (1, .int k)] [] (zN s1)) (fun (k : Int32) (s1 : zSig) => (0 ≤ k) ∧ (k ≤ sW 393 27) ∧ (∀ c j, c ≠ 401 → s1 c j = sW c j) ∧ (∀ j, 0 ≤ j → j < k → s1 401 j = (sW 408 j).toInt8.toInt32)) (fun (k : Int32) (s1 : zSig) => zmu (sW 393 27) k) ?_ 0 sW ?_
    · intro k s1 hI ih
      obtain ⟨k0, k1, kf, kz⟩ := hI
      have k27 : s1 393 27 = sW 393 27 := kf 393 27 (by decide)
      refine zb_icge (tgt := 54) bkMo_write_28 bdMo_write_33 (by decide) (lv' := [(0, .ref 393), (1, .int k)]) (st' := []) (h' := zN s1) (x := k) (y := s1 393 27) (Ps := [zOb (zN s1) 393 10]) rfl (zA zob_393 trivial) (fun c2 => ?_) (fun c2 => ?_)
      · skip
        refine zG_run bkMo_write_54 (lv' := [(0, .ref 393), (1, .int k)]) (st' := [.int ((zup s1 393 11 (s1 393 27)) 393 11), .ref 393]) (h' := zN (zup s1 393 11 (s1 393 27))) (Ps := [zOb (zN s1) 393 10, zOb (zN s1) 393 10, zOb (zN (zup s1 393 11 (s1 393 27))) 393 10]) rfl (zA zob_393 (zA zob_393 (zA zob_393 trivial))) ?_
        refine zG_callv (a := 393) (c := 10) (As := [.int ((zup s1 393 11 (s1 393 27)) 393 11)]) (rest := []) (N2 := 411) bdMo_write_67 okMo_tell lk10_84 (And.intro (by decide) (by decide)) (by decide) rfl rfl rfl (Nat.le_of_ble_eq_true rfl) (Nat.le_of_ble_eq_true rfl) (Nat.le_refl 411) (Nat.le_refl 411) zob_393 cMo_tell ?_
        rintro rr h' ⟨rfl, rfl⟩ -
        refine zb_iret bkMo_write_70 bdMo_write_70 rfl (x := (zup s1 393 11 (s1 393 27)) 393 11) (h' := zN (hTell (zup s1 393 11 (s1 393 27)))) (Ps := []) rfl trivial rfl ?_
        refine hq _ _ ?_
        have ek : k = sW 393 27 := by lia
        rw [ek] at kz
        refine ⟨sW, eW, qW, wl0, wl1, Or.inr ⟨by lia, _, ?_, rfl, fun c j h1 h2 => ?_, ?_, fun j j0 j1 => ?_⟩⟩
        · rw [zup_s, k27]
        · rw [zup_e, if_neg (fun q => h2.elim (fun h => h q.1) (fun h => h q.2))]; exact kf c j h1
        · rw [zup_s]; exact k27
        · rw [zup_a (by decide)]; exact kz j j0 j1
      · skip
        refine zG_run bkMo_write_36 (lv' := [(1, .int (k + 1)), (0, .ref 393)]) (st' := []) (h' := zN (zup s1 401 k (s1 408 k).toInt8.toInt32)) (Ps := [zOb (zN s1) 393 10 ∧ (zN s1).2.2 393 10 = true, zOb (zN s1) 393 10 ∧ (zN s1).2.2 393 26 = true, zIn (zN s1) 408 1 k, zIn (zN s1) 401 1 k]) rfl (zA ⟨zob_393, rfl⟩ (zA ⟨zob_393, rfl⟩ (zA (zin_408 (i := k) (by lia) (by lia)) (zA (zin_401 (i := k) (by lia) (by lia)) trivial)))) ?_
        refine zG_pick (lv' := [(0, .ref 393), (1, .int (k + 1))]) [1, 0] rfl ?_
        refine ih (k + 1) (zup s1 401 k (s1 408 k).toInt8.toInt32) ?_ ?_
        · refine ⟨?_, ?_, ?_, ?_⟩
          · lia
          · lia
          · intro c j h; rw [zup_a h]; exact kf c j h
          · intro j j0 j1; rw [zup_e]; by_cases hj : j = k
            · rw [if_pos ⟨rfl, hj⟩, kf 408 k (by decide), hj]
            · rw [if_neg (fun q => hj q.2)]; exact kz j j0 (by lia)
        · exact zmu_up (by lia)
    · refine ⟨?_, ?_, ?_, ?_⟩
      · lia
      · lia
      · intro c j _; rfl
      · intro j j0 j1; exfalso; lia
  · skip
    refine zG_run bkMo_write_19 (lv' := [(0, .ref 393)]) (st' := [.int (-5), .ref 393]) (h' := zN sW) (Ps := []) rfl trivial ?_
    refine zG_callv (a := 393) (c := 10) (As := [.int (-5)]) (rest := []) (N2 := 411) bdMo_write_22 okMo_refuse lk10_80 (And.intro (by decide) (by decide)) (by decide) rfl rfl rfl (Nat.le_of_ble_eq_true rfl) (Nat.le_of_ble_eq_true rfl) (Nat.le_refl 411) (Nat.le_refl 411) zob_393 (cMo_refuse (by decide) (by decide)) ?_
    rintro rr h' ⟨rfl, rfl⟩ -
    refine zb_iret bkMo_write_25 bdMo_write_25 rfl (x := (-5)) (h' := zN (hRef sW (-5))) (Ps := []) rfl trivial rfl ?_
    refine hq _ _ ?_
    exact ⟨sW, eW, qW, wl0, wl1, Or.inl ⟨by lia, rfl, rfl⟩⟩
theorem bMo_write {sg : zSig}  (n0 : 0 ≤ sg 395 0) (n2 : sg 395 0 ≤ 200) (g0 : 0 ≤ sg 395 1) (g1 : sg 395 1 ≤ 16) : zG mMo_write 411 (fun rr h' => ∃ sW, sW = mWall sg ∧ mQ sg sW ∧ 0 ≤ sW 393 27 ∧ sW 393 27 ≤ 10000 ∧ ((400 < sW 393 27 ∧ rr = some (.int (-5)) ∧ h' = zN (hRef sW (-5))) ∨ (sW 393 27 ≤ 400 ∧ ∃ s', rr = some (.int (sW 393 27)) ∧ h' = zN (hTell s') ∧ (∀ c j, c ≠ 401 → (c ≠ 393 ∨ j ≠ 11) → s' c j = sW c j) ∧ s' 393 11 = sW 393 27 ∧ ∀ j, 0 ≤ j → j < sW 393 27 → s' 401 j = (sW 408 j).toInt8.toInt32))) 5 [(0, .ref 393)] [] (zN sg) := lMo_write n0 n2 g0 g1 (fun _ _ q => q)
theorem tMo_write {sg : zSig}  {Q : Option Value → zHp → Prop} (g : zG mMo_write 411 Q 5 [(0, .ref 393)] [] (zN (zup sg 393 0 0))) : zG mMo_write 411 Q 0 [(0, .ref 393)] [] (zN sg) :=
  zG_run bkMo_write_0 (lv' := [(0, .ref 393)]) (st' := []) (h' := zN (zup sg 393 0 0)) (Ps := [zOb (zN sg) 393 10]) rfl (zA zob_393 trivial) g
def mCt (sg : zSig) (w v : Int32) : Prop := (w = 0 → v = sg 395 0) ∧ (w = 1 → v = zit (rN (mSy sg (-1))) 0 (sg 395 0)) ∧ (w = 2 → v = zit (mNs sg) 0 (sg 395 1)) ∧ (w = 3 → v = zit (mOa sg 0) 0 (sg 395 2)) ∧ (w = 4 → v = sg 395 1) ∧ (w = 5 → v = sg 395 2) ∧ (w = 6 → v = (zit (rL (mSy sg (-1))) (0, 0) (sg 395 0)).1) ∧ (w = 7 → qLr (mSy sg (-1)) (sg 395 0) v) ∧ (w = 8 → v = zit (uN (mSy sg (-1))) 0 (sg 395 0)) ∧ (w = 9 → v = zit (mMo sg) 0 (sg 395 0)) ∧ (w = 10 → v = zit (mOa sg 3) 0 (sg 395 2)) ∧ (w = 11 → v = mWall sg 393 27) ∧ (w = 12 → v = sg 393 6) ∧ (w = 13 → v = sg 393 11) ∧ (w = 14 → v = sg 394 1) ∧ (w = 15 → v = sg 394 2) ∧ (w = 16 → v = sg 394 4) ∧ (w = 17 → v = sg 394 5) ∧ (w = 18 → v = sg 394 6) ∧ (¬ (0 ≤ w ∧ w ≤ 18) → v = -1)
theorem bkMo_count_5 : zBk mMo_count 5 [(1, 1, 0, 0, 0)] = some 6 := by decide +kernel
theorem bkMo_count_96 : zBk mMo_count 96 [(1, 0, 1, 0, 0), (5, 10, 3, 2, 3), (0, 0, 0, 0, 0), (7, 0, 0, 0, 0)] = some 102 := by decide +kernel
theorem bkMo_count_103 : zBk mMo_count 103 [(1, 0, 1, 0, 0), (0, 0, 0, 0, -1)] = some 105 := by decide +kernel
theorem bkMo_count_108 : zBk mMo_count 108 [(1, 0, 1, 0, 0), (5, 10, 29, 0, 29)] = some 112 := by decide +kernel
theorem bkMo_count_113 : zBk mMo_count 113 [(1, 0, 1, 0, 0)] = some 114 := by decide +kernel
theorem bkMo_count_117 : zBk mMo_count 117 [] = some 117 := by decide +kernel
theorem bkMo_count_118 : zBk mMo_count 118 [(1, 0, 1, 0, 0), (0, 0, 0, 0, 0)] = some 120 := by decide +kernel
theorem bkMo_count_123 : zBk mMo_count 123 [] = some 123 := by decide +kernel
theorem bkMo_count_124 : zBk mMo_count 124 [(1, 0, 1, 0, 0), (5, 10, 3, 2, 3), (0, 0, 0, 0, 1), (7, 0, 0, 0, 0)] = some 130 := by decide +kernel
theorem bkMo_count_131 : zBk mMo_count 131 [(1, 0, 1, 0, 0), (5, 10, 3, 2, 3), (0, 0, 0, 0, 2), (7, 0, 0, 0, 0)] = some 137 := by decide +kernel
theorem bkMo_count_138 : zBk mMo_count 138 [(1, 0, 1, 0, 0), (0, 0, 0, 0, 0)] = some 140 := by decide +kernel
theorem bkMo_count_143 : zBk mMo_count 143 [] = some 143 := by decide +kernel
theorem bkMo_count_144 : zBk mMo_count 144 [(1, 0, 1, 0, 0), (0, 0, 0, 0, 1)] = some 146 := by decide +kernel
theorem bkMo_count_149 : zBk mMo_count 149 [] = some 149 := by decide +kernel
theorem bkMo_count_150 : zBk mMo_count 150 [(1, 0, 1, 0, 0)] = some 151 := by decide +kernel
theorem bkMo_count_154 : zBk mMo_count 154 [] = some 154 := by decide +kernel
theorem bkMo_count_155 : zBk mMo_count 155 [(1, 0, 1, 0, 0)] = some 156 := by decide +kernel
theorem bkMo_count_159 : zBk mMo_count 159 [] = some 159 := by decide +kernel
theorem bkMo_count_160 : zBk mMo_count 160 [(1, 0, 1, 0, 0), (0, 0, 0, 0, 3)] = some 162 := by decide +kernel
theorem bkMo_count_165 : zBk mMo_count 165 [] = some 165 := by decide +kernel
theorem bkMo_count_166 : zBk mMo_count 166 [(1, 0, 1, 0, 0)] = some 167 := by decide +kernel
theorem bkMo_count_170 : zBk mMo_count 170 [(1, 0, 1, 0, 0), (5, 10, 27, 0, 27)] = some 174 := by decide +kernel
theorem bkMo_count_175 : zBk mMo_count 175 [(1, 0, 1, 0, 0), (5, 10, 6, 0, 6)] = some 179 := by decide +kernel
theorem bkMo_count_180 : zBk mMo_count 180 [(1, 0, 1, 0, 0), (5, 10, 11, 0, 11)] = some 184 := by decide +kernel
theorem bkMo_count_185 : zBk mMo_count 185 [(1, 0, 1, 0, 0), (5, 10, 2, 1, 2), (0, 0, 0, 0, 1), (7, 0, 0, 0, 0)] = some 191 := by decide +kernel
theorem bkMo_count_192 : zBk mMo_count 192 [(1, 0, 1, 0, 0), (5, 10, 2, 1, 2), (0, 0, 0, 0, 2), (7, 0, 0, 0, 0)] = some 198 := by decide +kernel
theorem bkMo_count_199 : zBk mMo_count 199 [(1, 0, 1, 0, 0), (5, 10, 2, 1, 2), (0, 0, 0, 0, 4), (7, 0, 0, 0, 0)] = some 205 := by decide +kernel
theorem bkMo_count_206 : zBk mMo_count 206 [(1, 0, 1, 0, 0), (5, 10, 2, 1, 2), (0, 0, 0, 0, 5), (7, 0, 0, 0, 0)] = some 212 := by decide +kernel
theorem bkMo_count_213 : zBk mMo_count 213 [(1, 0, 1, 0, 0), (5, 10, 2, 1, 2), (0, 0, 0, 0, 6), (7, 0, 0, 0, 0)] = some 220 := by decide +kernel
theorem bkMo_count_221 : zBk mMo_count 221 [(0, 0, 0, 0, -1)] = some 222 := by decide +kernel
theorem bkMo_count_0 : zBk mMo_count 0 [(1, 0, 1, 0, 0), (0, 0, 0, 0, 0), (6, 10, 0, 0, 0)] = some 5 := by decide +kernel
theorem bdMo_count_6 : decode mMo_count.2.2.1 6 = .ok (.tableswitch 215 0 18 #[90, 97, 107, 112, 118, 125, 132, 138, 144, 149, 154, 160, 169, 174, 179, 186, 193, 200, 207], 90) := by decide +kernel
theorem bdMo_count_102 : decode mMo_count.2.2.1 102 = .ok (.ireturn, 1) := by decide +kernel
theorem bdMo_count_105 : decode mMo_count.2.2.1 105 = .ok (.invokevirtual 272, 3) := by decide +kernel
theorem bdMo_count_112 : decode mMo_count.2.2.1 112 = .ok (.ireturn, 1) := by decide +kernel
theorem bdMo_count_114 : decode mMo_count.2.2.1 114 = .ok (.invokevirtual 173, 3) := by decide +kernel
theorem bdMo_count_117 : decode mMo_count.2.2.1 117 = .ok (.ireturn, 1) := by decide +kernel
theorem bdMo_count_120 : decode mMo_count.2.2.1 120 = .ok (.invokevirtual 305, 3) := by decide +kernel
theorem bdMo_count_123 : decode mMo_count.2.2.1 123 = .ok (.ireturn, 1) := by decide +kernel
theorem bdMo_count_130 : decode mMo_count.2.2.1 130 = .ok (.ireturn, 1) := by decide +kernel
theorem bdMo_count_137 : decode mMo_count.2.2.1 137 = .ok (.ireturn, 1) := by decide +kernel
theorem bdMo_count_140 : decode mMo_count.2.2.1 140 = .ok (.invokevirtual 308, 3) := by decide +kernel
theorem bdMo_count_143 : decode mMo_count.2.2.1 143 = .ok (.ireturn, 1) := by decide +kernel
theorem bdMo_count_146 : decode mMo_count.2.2.1 146 = .ok (.invokevirtual 308, 3) := by decide +kernel
theorem bdMo_count_149 : decode mMo_count.2.2.1 149 = .ok (.ireturn, 1) := by decide +kernel
theorem bdMo_count_151 : decode mMo_count.2.2.1 151 = .ok (.invokevirtual 312, 3) := by decide +kernel
theorem bdMo_count_154 : decode mMo_count.2.2.1 154 = .ok (.ireturn, 1) := by decide +kernel
theorem bdMo_count_156 : decode mMo_count.2.2.1 156 = .ok (.invokevirtual 315, 3) := by decide +kernel
theorem bdMo_count_159 : decode mMo_count.2.2.1 159 = .ok (.ireturn, 1) := by decide +kernel
theorem bdMo_count_162 : decode mMo_count.2.2.1 162 = .ok (.invokevirtual 305, 3) := by decide +kernel
theorem bdMo_count_165 : decode mMo_count.2.2.1 165 = .ok (.ireturn, 1) := by decide +kernel
theorem bdMo_count_167 : decode mMo_count.2.2.1 167 = .ok (.invokevirtual 255, 3) := by decide +kernel
theorem bdMo_count_174 : decode mMo_count.2.2.1 174 = .ok (.ireturn, 1) := by decide +kernel
theorem bdMo_count_179 : decode mMo_count.2.2.1 179 = .ok (.ireturn, 1) := by decide +kernel
theorem bdMo_count_184 : decode mMo_count.2.2.1 184 = .ok (.ireturn, 1) := by decide +kernel
theorem bdMo_count_191 : decode mMo_count.2.2.1 191 = .ok (.ireturn, 1) := by decide +kernel
theorem bdMo_count_198 : decode mMo_count.2.2.1 198 = .ok (.ireturn, 1) := by decide +kernel
theorem bdMo_count_205 : decode mMo_count.2.2.1 205 = .ok (.ireturn, 1) := by decide +kernel
theorem bdMo_count_212 : decode mMo_count.2.2.1 212 = .ok (.ireturn, 1) := by decide +kernel
theorem bdMo_count_220 : decode mMo_count.2.2.1 220 = .ok (.ireturn, 1) := by decide +kernel
theorem bdMo_count_222 : decode mMo_count.2.2.1 222 = .ok (.ireturn, 1) := by decide +kernel
set_option maxHeartbeats 4000000 in
theorem bMo_count {sg : zSig} {w : Int32} (n0 : 0 ≤ sg 395 0) (n2 : sg 395 0 ≤ 200) (g0 : 0 ≤ sg 395 1) (g1 : sg 395 1 ≤ 16) (hp : okP sg) (a0 : 0 ≤ sg 395 2) (a1 : sg 395 2 ≤ 12) : zG mMo_count 411 (fun rr h' => ∃ v sg', rr = some (.int v) ∧ h' = zN sg' ∧ mQ sg sg' ∧ mCt sg w v) 5 [(0, .ref 393), (1, .int w)] [] (zN sg) := by
  refine zG_run bkMo_count_5 (lv' := [(0, .ref 393), (1, .int w)]) (st' := [.int w]) (h' := zN sg) (Ps := []) rfl trivial ?_
  by_cases w1 : w = 0
  · refine zs_tableIn (off := 90) (tgt := 96) bdMo_count_6 (by rw [w1]; decide) (by rw [w1]; decide) (by rw [w1]; decide) (by decide) ?_
    refine zb_iret bkMo_count_96 bdMo_count_102 rfl (x := sg 395 0) (h' := zN sg) (Ps := [zOb (zN sg) 393 10 ∧ (zN sg).2.2 393 3 = true, zInL (zN sg) 395 0]) rfl (zA ⟨zob_393, rfl⟩ (zA (zinL_395 (i := 0) (by decide) (by decide)) trivial)) rfl ?_
    refine ⟨_, _, rfl, rfl, mQ_refl, ?_⟩
    refine ⟨?_, ?_, ?_, ?_, ?_, ?_, ?_, ?_, ?_, ?_, ?_, ?_, ?_, ?_, ?_, ?_, ?_, ?_, ?_, ?_⟩ <;> first | (intro hw; exfalso; lia; done) | (intro _; rfl) | (intro _; exact hr2.1) | (intro _; exact hl0 rfl) | (intro _; exact hl1 (by decide)) | (intro _; exact hu) | (intro _; rw [eW])
  by_cases w2 : w = 1
  · refine zs_tableIn (off := 97) (tgt := 103) bdMo_count_6 (by rw [w2]; decide) (by rw [w2]; decide) (by rw [w2]; decide) (by decide) ?_
    refine zG_run bkMo_count_103 (lv' := [(0, .ref 393), (1, .int w)]) (st' := [.int (-1), .ref 393]) (h' := zN sg) (Ps := []) rfl trivial ?_
    refine zG_callv (a := 393) (c := 10) (As := [.int (-1)]) (rest := []) (N2 := 411) bdMo_count_105 okMo_layRuns lk10_272 (And.intro (by decide) (by decide)) (by decide) rfl rfl rfl (Nat.le_of_ble_eq_true rfl) (Nat.le_of_ble_eq_true rfl) (Nat.le_refl 411) (Nat.le_refl 411) zob_393 (cMo_layRuns (but := (-1)) (by lia) (by lia) (by lia) (by lia) (mSy_n0 _ hp g0)) ?_
    rintro rr h' ⟨sg2, rfl, rfl, hf2, hr2⟩ -
    have kr2 := mQ_row hf2
    have r02 := hr2.2.1
    refine zb_iret bkMo_count_108 bdMo_count_112 rfl (x := sg2 393 29) (h' := zN sg2) (Ps := [zOb (zN sg2) 393 10]) rfl (zA zob_393 trivial) rfl ?_
    refine ⟨_, _, rfl, rfl, hf2, ?_⟩
    refine ⟨?_, ?_, ?_, ?_, ?_, ?_, ?_, ?_, ?_, ?_, ?_, ?_, ?_, ?_, ?_, ?_, ?_, ?_, ?_, ?_⟩ <;> first | (intro hw; exfalso; lia; done) | (intro _; rfl) | (intro _; exact hr2.1) | (intro _; exact hl0 rfl) | (intro _; exact hl1 (by decide)) | (intro _; exact hu) | (intro _; rw [eW])
  by_cases w3 : w = 2
  · refine zs_tableIn (off := 107) (tgt := 113) bdMo_count_6 (by rw [w3]; decide) (by rw [w3]; decide) (by rw [w3]; decide) (by decide) ?_
    refine zG_run bkMo_count_113 (lv' := [(0, .ref 393), (1, .int w)]) (st' := [.ref 393]) (h' := zN sg) (Ps := []) rfl trivial ?_
    refine zG_callv (a := 393) (c := 10) (As := []) (rest := []) (N2 := 411) bdMo_count_114 okMo_spans lk10_173 (And.intro (by decide) (by decide)) (by decide) rfl rfl rfl (Nat.le_of_ble_eq_true rfl) (Nat.le_of_ble_eq_true rfl) (Nat.le_refl 411) (Nat.le_refl 411) zob_393 (cMo_spans (by lia) (by lia)) ?_
    rintro rr h' ⟨rfl, rfl⟩ -
    refine zb_iret bkMo_count_117 bdMo_count_117 rfl (x := zit (mNs sg) 0 (sg 395 1)) (h' := zN sg) (Ps := []) rfl trivial rfl ?_
    refine ⟨_, _, rfl, rfl, mQ_refl, ?_⟩
    refine ⟨?_, ?_, ?_, ?_, ?_, ?_, ?_, ?_, ?_, ?_, ?_, ?_, ?_, ?_, ?_, ?_, ?_, ?_, ?_, ?_⟩ <;> first | (intro hw; exfalso; lia; done) | (intro _; rfl) | (intro _; exact hr2.1) | (intro _; exact hl0 rfl) | (intro _; exact hl1 (by decide)) | (intro _; exact hu) | (intro _; rw [eW])
  by_cases w4 : w = 3
  · refine zs_tableIn (off := 112) (tgt := 118) bdMo_count_6 (by rw [w4]; decide) (by rw [w4]; decide) (by rw [w4]; decide) (by decide) ?_
    refine zG_run bkMo_count_118 (lv' := [(0, .ref 393), (1, .int w)]) (st' := [.int 0, .ref 393]) (h' := zN sg) (Ps := []) rfl trivial ?_
    refine zG_callv (a := 393) (c := 10) (As := [.int 0]) (rest := []) (N2 := 411) bdMo_count_120 okMo_ofAnchors lk10_305 (And.intro (by decide) (by decide)) (by decide) rfl rfl rfl (Nat.le_of_ble_eq_true rfl) (Nat.le_of_ble_eq_true rfl) (Nat.le_refl 411) (Nat.le_refl 411) zob_393 (cMo_ofAnchors (by lia) (by lia) (by decide) (by decide)) ?_
    rintro rr h' ⟨rfl, rfl⟩ -
    refine zb_iret bkMo_count_123 bdMo_count_123 rfl (x := zit (mOa sg 0) 0 (sg 395 2)) (h' := zN sg) (Ps := []) rfl trivial rfl ?_
    refine ⟨_, _, rfl, rfl, mQ_refl, ?_⟩
    refine ⟨?_, ?_, ?_, ?_, ?_, ?_, ?_, ?_, ?_, ?_, ?_, ?_, ?_, ?_, ?_, ?_, ?_, ?_, ?_, ?_⟩ <;> first | (intro hw; exfalso; lia; done) | (intro _; rfl) | (intro _; exact hr2.1) | (intro _; exact hl0 rfl) | (intro _; exact hl1 (by decide)) | (intro _; exact hu) | (intro _; rw [eW])
  by_cases w5 : w = 4
  · refine zs_tableIn (off := 118) (tgt := 124) bdMo_count_6 (by rw [w5]; decide) (by rw [w5]; decide) (by rw [w5]; decide) (by decide) ?_
    refine zb_iret bkMo_count_124 bdMo_count_130 rfl (x := sg 395 1) (h' := zN sg) (Ps := [zOb (zN sg) 393 10 ∧ (zN sg).2.2 393 3 = true, zInL (zN sg) 395 1]) rfl (zA ⟨zob_393, rfl⟩ (zA (zinL_395 (i := 1) (by decide) (by decide)) trivial)) rfl ?_
    refine ⟨_, _, rfl, rfl, mQ_refl, ?_⟩
    refine ⟨?_, ?_, ?_, ?_, ?_, ?_, ?_, ?_, ?_, ?_, ?_, ?_, ?_, ?_, ?_, ?_, ?_, ?_, ?_, ?_⟩ <;> first | (intro hw; exfalso; lia; done) | (intro _; rfl) | (intro _; exact hr2.1) | (intro _; exact hl0 rfl) | (intro _; exact hl1 (by decide)) | (intro _; exact hu) | (intro _; rw [eW])
  by_cases w6 : w = 5
  · refine zs_tableIn (off := 125) (tgt := 131) bdMo_count_6 (by rw [w6]; decide) (by rw [w6]; decide) (by rw [w6]; decide) (by decide) ?_
    refine zb_iret bkMo_count_131 bdMo_count_137 rfl (x := sg 395 2) (h' := zN sg) (Ps := [zOb (zN sg) 393 10 ∧ (zN sg).2.2 393 3 = true, zInL (zN sg) 395 2]) rfl (zA ⟨zob_393, rfl⟩ (zA (zinL_395 (i := 2) (by decide) (by decide)) trivial)) rfl ?_
    refine ⟨_, _, rfl, rfl, mQ_refl, ?_⟩
    refine ⟨?_, ?_, ?_, ?_, ?_, ?_, ?_, ?_, ?_, ?_, ?_, ?_, ?_, ?_, ?_, ?_, ?_, ?_, ?_, ?_⟩ <;> first | (intro hw; exfalso; lia; done) | (intro _; rfl) | (intro _; exact hr2.1) | (intro _; exact hl0 rfl) | (intro _; exact hl1 (by decide)) | (intro _; exact hu) | (intro _; rw [eW])
  by_cases w7 : w = 6
  · refine zs_tableIn (off := 132) (tgt := 138) bdMo_count_6 (by rw [w7]; decide) (by rw [w7]; decide) (by rw [w7]; decide) (by decide) ?_
    refine zG_run bkMo_count_138 (lv' := [(0, .ref 393), (1, .int w)]) (st' := [.int 0, .ref 393]) (h' := zN sg) (Ps := []) rfl trivial ?_
    refine zG_callv (a := 393) (c := 10) (As := [.int 0]) (rest := []) (N2 := 411) bdMo_count_140 okMo_longest lk10_308 (And.intro (by decide) (by decide)) (by decide) rfl rfl rfl (Nat.le_of_ble_eq_true rfl) (Nat.le_of_ble_eq_true rfl) (Nat.le_refl 411) (Nat.le_refl 411) zob_393 (cMo_longest (b := 0) (by lia) (by lia) (by lia) (by lia) hp) ?_
    rintro rr h' ⟨vl, sg2, rfl, rfl, hf2, hl0, hl1⟩ -
    refine zb_iret bkMo_count_143 bdMo_count_143 rfl (x := vl) (h' := zN sg2) (Ps := []) rfl trivial rfl ?_
    refine ⟨_, _, rfl, rfl, hf2, ?_⟩
    refine ⟨?_, ?_, ?_, ?_, ?_, ?_, ?_, ?_, ?_, ?_, ?_, ?_, ?_, ?_, ?_, ?_, ?_, ?_, ?_, ?_⟩ <;> first | (intro hw; exfalso; lia; done) | (intro _; rfl) | (intro _; exact hr2.1) | (intro _; exact hl0 rfl) | (intro _; exact hl1 (by decide)) | (intro _; exact hu) | (intro _; rw [eW])
  by_cases w8 : w = 7
  · refine zs_tableIn (off := 138) (tgt := 144) bdMo_count_6 (by rw [w8]; decide) (by rw [w8]; decide) (by rw [w8]; decide) (by decide) ?_
    refine zG_run bkMo_count_144 (lv' := [(0, .ref 393), (1, .int w)]) (st' := [.int 1, .ref 393]) (h' := zN sg) (Ps := []) rfl trivial ?_
    refine zG_callv (a := 393) (c := 10) (As := [.int 1]) (rest := []) (N2 := 411) bdMo_count_146 okMo_longest lk10_308 (And.intro (by decide) (by decide)) (by decide) rfl rfl rfl (Nat.le_of_ble_eq_true rfl) (Nat.le_of_ble_eq_true rfl) (Nat.le_refl 411) (Nat.le_refl 411) zob_393 (cMo_longest (b := 1) (by lia) (by lia) (by lia) (by lia) hp) ?_
    rintro rr h' ⟨vl, sg2, rfl, rfl, hf2, hl0, hl1⟩ -
    refine zb_iret bkMo_count_149 bdMo_count_149 rfl (x := vl) (h' := zN sg2) (Ps := []) rfl trivial rfl ?_
    refine ⟨_, _, rfl, rfl, hf2, ?_⟩
    refine ⟨?_, ?_, ?_, ?_, ?_, ?_, ?_, ?_, ?_, ?_, ?_, ?_, ?_, ?_, ?_, ?_, ?_, ?_, ?_, ?_⟩ <;> first | (intro hw; exfalso; lia; done) | (intro _; rfl) | (intro _; exact hr2.1) | (intro _; exact hl0 rfl) | (intro _; exact hl1 (by decide)) | (intro _; exact hu) | (intro _; rw [eW])
  by_cases w9 : w = 8
  · refine zs_tableIn (off := 144) (tgt := 150) bdMo_count_6 (by rw [w9]; decide) (by rw [w9]; decide) (by rw [w9]; decide) (by decide) ?_
    refine zG_run bkMo_count_150 (lv' := [(0, .ref 393), (1, .int w)]) (st' := [.ref 393]) (h' := zN sg) (Ps := []) rfl trivial ?_
    refine zG_callv (a := 393) (c := 10) (As := []) (rest := []) (N2 := 411) bdMo_count_151 okMo_unlike lk10_312 (And.intro (by decide) (by decide)) (by decide) rfl rfl rfl (Nat.le_of_ble_eq_true rfl) (Nat.le_of_ble_eq_true rfl) (Nat.le_refl 411) (Nat.le_refl 411) zob_393 (cMo_unlike (by lia) (by lia) (by lia) (by lia)) ?_
    rintro rr h' ⟨vl, sg2, rfl, rfl, hf2, hu⟩ -
    refine zb_iret bkMo_count_154 bdMo_count_154 rfl (x := vl) (h' := zN sg2) (Ps := []) rfl trivial rfl ?_
    refine ⟨_, _, rfl, rfl, hf2, ?_⟩
    refine ⟨?_, ?_, ?_, ?_, ?_, ?_, ?_, ?_, ?_, ?_, ?_, ?_, ?_, ?_, ?_, ?_, ?_, ?_, ?_, ?_⟩ <;> first | (intro hw; exfalso; lia; done) | (intro _; rfl) | (intro _; exact hr2.1) | (intro _; exact hl0 rfl) | (intro _; exact hl1 (by decide)) | (intro _; exact hu) | (intro _; rw [eW])
  by_cases w10 : w = 9
  · refine zs_tableIn (off := 149) (tgt := 155) bdMo_count_6 (by rw [w10]; decide) (by rw [w10]; decide) (by rw [w10]; decide) (by decide) ?_
    refine zG_run bkMo_count_155 (lv' := [(0, .ref 393), (1, .int w)]) (st' := [.ref 393]) (h' := zN sg) (Ps := []) rfl trivial ?_
    refine zG_callv (a := 393) (c := 10) (As := []) (rest := []) (N2 := 411) bdMo_count_156 okMo_highest lk10_315 (And.intro (by decide) (by decide)) (by decide) rfl rfl rfl (Nat.le_of_ble_eq_true rfl) (Nat.le_of_ble_eq_true rfl) (Nat.le_refl 411) (Nat.le_refl 411) zob_393 (cMo_highest (by lia) (by lia) (by lia) (by lia)) ?_
    rintro rr h' ⟨rfl, rfl⟩ -
    refine zb_iret bkMo_count_159 bdMo_count_159 rfl (x := zit (mMo sg) 0 (sg 395 0)) (h' := zN sg) (Ps := []) rfl trivial rfl ?_
    refine ⟨_, _, rfl, rfl, mQ_refl, ?_⟩
    refine ⟨?_, ?_, ?_, ?_, ?_, ?_, ?_, ?_, ?_, ?_, ?_, ?_, ?_, ?_, ?_, ?_, ?_, ?_, ?_, ?_⟩ <;> first | (intro hw; exfalso; lia; done) | (intro _; rfl) | (intro _; exact hr2.1) | (intro _; exact hl0 rfl) | (intro _; exact hl1 (by decide)) | (intro _; exact hu) | (intro _; rw [eW])
  by_cases w11 : w = 10
  · refine zs_tableIn (off := 154) (tgt := 160) bdMo_count_6 (by rw [w11]; decide) (by rw [w11]; decide) (by rw [w11]; decide) (by decide) ?_
    refine zG_run bkMo_count_160 (lv' := [(0, .ref 393), (1, .int w)]) (st' := [.int 3, .ref 393]) (h' := zN sg) (Ps := []) rfl trivial ?_
    refine zG_callv (a := 393) (c := 10) (As := [.int 3]) (rest := []) (N2 := 411) bdMo_count_162 okMo_ofAnchors lk10_305 (And.intro (by decide) (by decide)) (by decide) rfl rfl rfl (Nat.le_of_ble_eq_true rfl) (Nat.le_of_ble_eq_true rfl) (Nat.le_refl 411) (Nat.le_refl 411) zob_393 (cMo_ofAnchors (by lia) (by lia) (by decide) (by decide)) ?_
    rintro rr h' ⟨rfl, rfl⟩ -
    refine zb_iret bkMo_count_165 bdMo_count_165 rfl (x := zit (mOa sg 3) 0 (sg 395 2)) (h' := zN sg) (Ps := []) rfl trivial rfl ?_
    refine ⟨_, _, rfl, rfl, mQ_refl, ?_⟩
    refine ⟨?_, ?_, ?_, ?_, ?_, ?_, ?_, ?_, ?_, ?_, ?_, ?_, ?_, ?_, ?_, ?_, ?_, ?_, ?_, ?_⟩ <;> first | (intro hw; exfalso; lia; done) | (intro _; rfl) | (intro _; exact hr2.1) | (intro _; exact hl0 rfl) | (intro _; exact hl1 (by decide)) | (intro _; exact hu) | (intro _; rw [eW])
  by_cases w12 : w = 11
  · refine zs_tableIn (off := 160) (tgt := 166) bdMo_count_6 (by rw [w12]; decide) (by rw [w12]; decide) (by rw [w12]; decide) (by decide) ?_
    refine zG_run bkMo_count_166 (lv' := [(0, .ref 393), (1, .int w)]) (st' := [.ref 393]) (h' := zN sg) (Ps := []) rfl trivial ?_
    refine zG_callv (a := 393) (c := 10) (As := []) (rest := []) (N2 := 411) bdMo_count_167 okMo_writes lk10_255 (And.intro (by decide) (by decide)) (by decide) rfl rfl rfl (Nat.le_of_ble_eq_true rfl) (Nat.le_of_ble_eq_true rfl) (Nat.le_refl 411) (Nat.le_refl 411) zob_393 (cMo_writes (by lia) (by lia) (by lia) (by lia)) ?_
    rintro rr h' ⟨sW, rfl, rfl, eW, qW, wl0, wl1⟩ -
    refine zb_iret bkMo_count_170 bdMo_count_174 rfl (x := sW 393 27) (h' := zN sW) (Ps := [zOb (zN sW) 393 10]) rfl (zA zob_393 trivial) rfl ?_
    refine ⟨_, _, rfl, rfl, qW, ?_⟩
    refine ⟨?_, ?_, ?_, ?_, ?_, ?_, ?_, ?_, ?_, ?_, ?_, ?_, ?_, ?_, ?_, ?_, ?_, ?_, ?_, ?_⟩ <;> first | (intro hw; exfalso; lia; done) | (intro _; rfl) | (intro _; exact hr2.1) | (intro _; exact hl0 rfl) | (intro _; exact hl1 (by decide)) | (intro _; exact hu) | (intro _; rw [eW])
  by_cases w13 : w = 12
  · refine zs_tableIn (off := 169) (tgt := 175) bdMo_count_6 (by rw [w13]; decide) (by rw [w13]; decide) (by rw [w13]; decide) (by decide) ?_
    refine zb_iret bkMo_count_175 bdMo_count_179 rfl (x := sg 393 6) (h' := zN sg) (Ps := [zOb (zN sg) 393 10]) rfl (zA zob_393 trivial) rfl ?_
    refine ⟨_, _, rfl, rfl, mQ_refl, ?_⟩
    refine ⟨?_, ?_, ?_, ?_, ?_, ?_, ?_, ?_, ?_, ?_, ?_, ?_, ?_, ?_, ?_, ?_, ?_, ?_, ?_, ?_⟩ <;> first | (intro hw; exfalso; lia; done) | (intro _; rfl) | (intro _; exact hr2.1) | (intro _; exact hl0 rfl) | (intro _; exact hl1 (by decide)) | (intro _; exact hu) | (intro _; rw [eW])
  by_cases w14 : w = 13
  · refine zs_tableIn (off := 174) (tgt := 180) bdMo_count_6 (by rw [w14]; decide) (by rw [w14]; decide) (by rw [w14]; decide) (by decide) ?_
    refine zb_iret bkMo_count_180 bdMo_count_184 rfl (x := sg 393 11) (h' := zN sg) (Ps := [zOb (zN sg) 393 10]) rfl (zA zob_393 trivial) rfl ?_
    refine ⟨_, _, rfl, rfl, mQ_refl, ?_⟩
    refine ⟨?_, ?_, ?_, ?_, ?_, ?_, ?_, ?_, ?_, ?_, ?_, ?_, ?_, ?_, ?_, ?_, ?_, ?_, ?_, ?_⟩ <;> first | (intro hw; exfalso; lia; done) | (intro _; rfl) | (intro _; exact hr2.1) | (intro _; exact hl0 rfl) | (intro _; exact hl1 (by decide)) | (intro _; exact hu) | (intro _; rw [eW])
  by_cases w15 : w = 14
  · refine zs_tableIn (off := 179) (tgt := 185) bdMo_count_6 (by rw [w15]; decide) (by rw [w15]; decide) (by rw [w15]; decide) (by decide) ?_
    refine zb_iret bkMo_count_185 bdMo_count_191 rfl (x := sg 394 1) (h' := zN sg) (Ps := [zOb (zN sg) 393 10 ∧ (zN sg).2.2 393 2 = true, zInL (zN sg) 394 1]) rfl (zA ⟨zob_393, rfl⟩ (zA (zinL_394 (i := 1) (by decide) (by decide)) trivial)) rfl ?_
    refine ⟨_, _, rfl, rfl, mQ_refl, ?_⟩
    refine ⟨?_, ?_, ?_, ?_, ?_, ?_, ?_, ?_, ?_, ?_, ?_, ?_, ?_, ?_, ?_, ?_, ?_, ?_, ?_, ?_⟩ <;> first | (intro hw; exfalso; lia; done) | (intro _; rfl) | (intro _; exact hr2.1) | (intro _; exact hl0 rfl) | (intro _; exact hl1 (by decide)) | (intro _; exact hu) | (intro _; rw [eW])
  by_cases w16 : w = 15
  · refine zs_tableIn (off := 186) (tgt := 192) bdMo_count_6 (by rw [w16]; decide) (by rw [w16]; decide) (by rw [w16]; decide) (by decide) ?_
    refine zb_iret bkMo_count_192 bdMo_count_198 rfl (x := sg 394 2) (h' := zN sg) (Ps := [zOb (zN sg) 393 10 ∧ (zN sg).2.2 393 2 = true, zInL (zN sg) 394 2]) rfl (zA ⟨zob_393, rfl⟩ (zA (zinL_394 (i := 2) (by decide) (by decide)) trivial)) rfl ?_
    refine ⟨_, _, rfl, rfl, mQ_refl, ?_⟩
    refine ⟨?_, ?_, ?_, ?_, ?_, ?_, ?_, ?_, ?_, ?_, ?_, ?_, ?_, ?_, ?_, ?_, ?_, ?_, ?_, ?_⟩ <;> first | (intro hw; exfalso; lia; done) | (intro _; rfl) | (intro _; exact hr2.1) | (intro _; exact hl0 rfl) | (intro _; exact hl1 (by decide)) | (intro _; exact hu) | (intro _; rw [eW])
  by_cases w17 : w = 16
  · refine zs_tableIn (off := 193) (tgt := 199) bdMo_count_6 (by rw [w17]; decide) (by rw [w17]; decide) (by rw [w17]; decide) (by decide) ?_
    refine zb_iret bkMo_count_199 bdMo_count_205 rfl (x := sg 394 4) (h' := zN sg) (Ps := [zOb (zN sg) 393 10 ∧ (zN sg).2.2 393 2 = true, zInL (zN sg) 394 4]) rfl (zA ⟨zob_393, rfl⟩ (zA (zinL_394 (i := 4) (by decide) (by decide)) trivial)) rfl ?_
    refine ⟨_, _, rfl, rfl, mQ_refl, ?_⟩
    refine ⟨?_, ?_, ?_, ?_, ?_, ?_, ?_, ?_, ?_, ?_, ?_, ?_, ?_, ?_, ?_, ?_, ?_, ?_, ?_, ?_⟩ <;> first | (intro hw; exfalso; lia; done) | (intro _; rfl) | (intro _; exact hr2.1) | (intro _; exact hl0 rfl) | (intro _; exact hl1 (by decide)) | (intro _; exact hu) | (intro _; rw [eW])
  by_cases w18 : w = 17
  · refine zs_tableIn (off := 200) (tgt := 206) bdMo_count_6 (by rw [w18]; decide) (by rw [w18]; decide) (by rw [w18]; decide) (by decide) ?_
    refine zb_iret bkMo_count_206 bdMo_count_212 rfl (x := sg 394 5) (h' := zN sg) (Ps := [zOb (zN sg) 393 10 ∧ (zN sg).2.2 393 2 = true, zInL (zN sg) 394 5]) rfl (zA ⟨zob_393, rfl⟩ (zA (zinL_394 (i := 5) (by decide) (by decide)) trivial)) rfl ?_
    refine ⟨_, _, rfl, rfl, mQ_refl, ?_⟩
    refine ⟨?_, ?_, ?_, ?_, ?_, ?_, ?_, ?_, ?_, ?_, ?_, ?_, ?_, ?_, ?_, ?_, ?_, ?_, ?_, ?_⟩ <;> first | (intro hw; exfalso; lia; done) | (intro _; rfl) | (intro _; exact hr2.1) | (intro _; exact hl0 rfl) | (intro _; exact hl1 (by decide)) | (intro _; exact hu) | (intro _; rw [eW])
  by_cases w19 : w = 18
  · refine zs_tableIn (off := 207) (tgt := 213) bdMo_count_6 (by rw [w19]; decide) (by rw [w19]; decide) (by rw [w19]; decide) (by decide) ?_
    refine zb_iret bkMo_count_213 bdMo_count_220 rfl (x := sg 394 6) (h' := zN sg) (Ps := [zOb (zN sg) 393 10 ∧ (zN sg).2.2 393 2 = true, zInL (zN sg) 394 6]) rfl (zA ⟨zob_393, rfl⟩ (zA (zinL_394 (i := 6) (by decide) (by decide)) trivial)) rfl ?_
    refine ⟨_, _, rfl, rfl, mQ_refl, ?_⟩
    refine ⟨?_, ?_, ?_, ?_, ?_, ?_, ?_, ?_, ?_, ?_, ?_, ?_, ?_, ?_, ?_, ?_, ?_, ?_, ?_, ?_⟩ <;> first | (intro hw; exfalso; lia; done) | (intro _; rfl) | (intro _; exact hr2.1) | (intro _; exact hl0 rfl) | (intro _; exact hl1 (by decide)) | (intro _; exact hu) | (intro _; rw [eW])
  refine zs_tableOut (tgt := 221) bdMo_count_6 (zsw_out (x := w) (n := 19) (by decide) (by intro j hj; match j, hj with | 0, _ => exact w1 | 1, _ => exact w2 | 2, _ => exact w3 | 3, _ => exact w4 | 4, _ => exact w5 | 5, _ => exact w6 | 6, _ => exact w7 | 7, _ => exact w8 | 8, _ => exact w9 | 9, _ => exact w10 | 10, _ => exact w11 | 11, _ => exact w12 | 12, _ => exact w13 | 13, _ => exact w14 | 14, _ => exact w15 | 15, _ => exact w16 | 16, _ => exact w17 | 17, _ => exact w18 | 18, _ => exact w19 | kk + 19, hk => exact absurd hk (by omega))) (by decide) ?_
  refine zb_iret bkMo_count_221 bdMo_count_222 rfl (x := (-1)) (h' := zN sg) (Ps := []) rfl trivial rfl ?_
  refine ⟨_, _, rfl, rfl, mQ_refl, ?_⟩
  refine ⟨?_, ?_, ?_, ?_, ?_, ?_, ?_, ?_, ?_, ?_, ?_, ?_, ?_, ?_, ?_, ?_, ?_, ?_, ?_, ?_⟩ <;> first | (intro hw; exfalso; lia; done) | (intro _; rfl) | (intro _; exact hr2.1) | (intro _; exact hl0 rfl) | (intro _; exact hl1 (by decide)) | (intro _; exact hu) | (intro _; rw [eW])
theorem tMo_count {sg : zSig} {w : Int32} {Q : Option Value → zHp → Prop} (g : zG mMo_count 411 Q 5 [(0, .ref 393), (1, .int w)] [] (zN (zup sg 393 0 0))) : zG mMo_count 411 Q 0 [(0, .ref 393), (1, .int w)] [] (zN sg) :=
  zG_run bkMo_count_0 (lv' := [(0, .ref 393), (1, .int w)]) (st' := []) (h' := zN (zup sg 393 0 0)) (Ps := [zOb (zN sg) 393 10]) rfl (zA zob_393 trivial) g
