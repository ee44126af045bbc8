/-! the reference: letters go: printed by wip/whole/p32b.py -/
theorem bkMo_takeOut_0 : zBk mMo_takeOut 0 [(0, 0, 0, 0, 4), (1, 2, 0, 0, 0), (4, 2, 0, 0, 0), (2, 4, 0, 0, 0)] = some 5 := by decide +kernel
theorem bkMo_takeOut_5 : zBk mMo_takeOut 5 [(1, 4, 0, 0, 0), (0, 0, 0, 0, 4), (1, 0, 1, 0, 0), (5, 10, 3, 2, 3), (0, 0, 0, 0, 0), (7, 0, 0, 0, 0), (4, 2, 0, 0, 0)] = some 15 := by decide +kernel
theorem bkMo_takeOut_48 : zBk mMo_takeOut 48 [(1, 0, 1, 0, 0), (5, 10, 3, 2, 3), (0, 0, 0, 0, 0), (19, 0, 0, 0, 0), (7, 0, 0, 0, 0), (1, 2, 0, 0, 0), (1, 1, 0, 0, 0), (4, 1, 0, 0, 0), (4, 1, 0, 0, 0), (8, 0, 0, 0, 0)] = some 60 := by decide +kernel
theorem bkMo_takeOut_60 : zBk mMo_takeOut 60 [(0, 0, 0, 0, 0), (2, 4, 0, 0, 0)] = some 63 := by decide +kernel
theorem bkMo_takeOut_63 : zBk mMo_takeOut 63 [(1, 4, 0, 0, 0), (1, 0, 1, 0, 0), (5, 10, 3, 2, 3), (0, 0, 0, 0, 1), (7, 0, 0, 0, 0)] = some 71 := by decide +kernel
theorem bkMo_takeOut_191 : zBk mMo_takeOut 191 [(0, 0, 0, 0, 0), (2, 4, 0, 0, 0)] = some 194 := by decide +kernel
theorem bkMo_takeOut_194 : zBk mMo_takeOut 194 [(1, 4, 0, 0, 0), (1, 0, 1, 0, 0), (5, 10, 3, 2, 3), (0, 0, 0, 0, 2), (7, 0, 0, 0, 0)] = some 202 := by decide +kernel
theorem bkMo_takeOut_309 : zBk mMo_takeOut 309 [] = some 309 := by decide +kernel
theorem bkMo_takeOut_205 : zBk mMo_takeOut 205 [(1, 4, 0, 0, 0)] = some 207 := by decide +kernel
theorem bkMo_takeOut_210 : zBk mMo_takeOut 210 [(2, 5, 0, 0, 0), (1, 0, 1, 0, 0), (5, 10, 3, 2, 3), (1, 5, 0, 0, 0), (7, 0, 0, 0, 0), (0, 0, 0, 0, 1)] = some 220 := by decide +kernel
theorem bkMo_takeOut_303 : zBk mMo_takeOut 303 [(3, 4, 0, 0, 1), (22, 194, 0, 0, 0)] = some 194 := by decide +kernel
theorem bkMo_takeOut_223 : zBk mMo_takeOut 223 [(1, 3, 0, 0, 0)] = some 224 := by decide +kernel
theorem bkMo_takeOut_237 : zBk mMo_takeOut 237 [(1, 0, 1, 0, 0), (5, 10, 3, 2, 3), (1, 5, 0, 0, 0), (0, 0, 0, 0, 3), (4, 0, 0, 0, 0), (19, 0, 0, 0, 0), (7, 0, 0, 0, 0), (1, 0, 1, 0, 0), (5, 10, 3, 2, 3), (1, 5, 0, 0, 0), (0, 0, 0, 0, 1), (4, 0, 0, 0, 0), (7, 0, 0, 0, 0), (1, 1, 0, 0, 0)] = some 257 := by decide +kernel
theorem bkMo_takeOut_277 : zBk mMo_takeOut 277 [(0, 0, 0, 0, 0), (4, 0, 0, 0, 0), (8, 0, 0, 0, 0), (1, 0, 1, 0, 0), (5, 10, 3, 2, 3), (1, 5, 0, 0, 0), (0, 0, 0, 0, 1), (4, 0, 0, 0, 0), (1, 0, 1, 0, 0), (5, 10, 3, 2, 3), (1, 5, 0, 0, 0), (0, 0, 0, 0, 1), (4, 0, 0, 0, 0), (7, 0, 0, 0, 0), (1, 1, 0, 0, 0), (1, 2, 0, 0, 0)] = some 299 := by decide +kernel
theorem bkMo_takeOut_302 : zBk mMo_takeOut 302 [(8, 0, 0, 0, 0)] = some 303 := by decide +kernel
theorem bkMo_takeOut_260 : zBk mMo_takeOut 260 [(1, 0, 1, 0, 0), (5, 10, 3, 2, 3), (1, 5, 0, 0, 0), (0, 0, 0, 0, 1), (4, 0, 0, 0, 0), (7, 0, 0, 0, 0), (1, 2, 0, 0, 0)] = some 270 := by decide +kernel
theorem bkMo_takeOut_273 : zBk mMo_takeOut 273 [(0, 0, 0, 0, 1), (22, 278, 0, 0, 0), (4, 0, 0, 0, 0), (8, 0, 0, 0, 0), (1, 0, 1, 0, 0), (5, 10, 3, 2, 3), (1, 5, 0, 0, 0), (0, 0, 0, 0, 1), (4, 0, 0, 0, 0), (1, 0, 1, 0, 0), (5, 10, 3, 2, 3), (1, 5, 0, 0, 0), (0, 0, 0, 0, 1), (4, 0, 0, 0, 0), (7, 0, 0, 0, 0), (1, 1, 0, 0, 0), (1, 2, 0, 0, 0)] = some 299 := by decide +kernel
theorem bkMo_takeOut_227 : zBk mMo_takeOut 227 [(1, 0, 1, 0, 0), (5, 10, 14, 10, 14), (1, 4, 0, 0, 0), (7, 2, 0, 0, 0)] = some 234 := by decide +kernel
theorem bkMo_takeOut_74 : zBk mMo_takeOut 74 [(1, 4, 0, 0, 0)] = some 76 := by decide +kernel
theorem bkMo_takeOut_79 : zBk mMo_takeOut 79 [(2, 5, 0, 0, 0), (1, 0, 1, 0, 0), (5, 10, 3, 2, 3), (1, 5, 0, 0, 0), (7, 0, 0, 0, 0), (0, 0, 0, 0, 1)] = some 89 := by decide +kernel
theorem bkMo_takeOut_185 : zBk mMo_takeOut 185 [(3, 4, 0, 0, 1), (22, 63, 0, 0, 0)] = some 63 := by decide +kernel
theorem bkMo_takeOut_92 : zBk mMo_takeOut 92 [(1, 3, 0, 0, 0)] = some 93 := by decide +kernel
theorem bkMo_takeOut_106 : zBk mMo_takeOut 106 [(1, 0, 1, 0, 0), (5, 10, 3, 2, 3), (1, 5, 0, 0, 0), (0, 0, 0, 0, 1), (4, 0, 0, 0, 0), (1, 0, 1, 0, 0), (5, 10, 3, 2, 3), (1, 5, 0, 0, 0), (0, 0, 0, 0, 1), (4, 0, 0, 0, 0), (7, 0, 0, 0, 0), (1, 1, 0, 0, 0), (1, 2, 0, 0, 0)] = some 125 := by decide +kernel
theorem bkMo_takeOut_128 : zBk mMo_takeOut 128 [(8, 0, 0, 0, 0), (1, 0, 1, 0, 0), (5, 10, 3, 2, 3), (1, 5, 0, 0, 0), (0, 0, 0, 0, 2), (4, 0, 0, 0, 0), (1, 0, 1, 0, 0), (5, 10, 3, 2, 3), (1, 5, 0, 0, 0), (0, 0, 0, 0, 2), (4, 0, 0, 0, 0), (7, 0, 0, 0, 0), (1, 1, 0, 0, 0), (1, 2, 0, 0, 0)] = some 148 := by decide +kernel
theorem bkMo_takeOut_151 : zBk mMo_takeOut 151 [(8, 0, 0, 0, 0), (1, 0, 1, 0, 0), (5, 10, 3, 2, 3), (1, 5, 0, 0, 0), (1, 0, 1, 0, 0), (5, 10, 3, 2, 3), (1, 5, 0, 0, 0), (0, 0, 0, 0, 1), (4, 0, 0, 0, 0), (7, 0, 0, 0, 0), (1, 0, 1, 0, 0), (5, 10, 3, 2, 3), (1, 5, 0, 0, 0), (0, 0, 0, 0, 2), (4, 0, 0, 0, 0), (7, 0, 0, 0, 0)] = some 176 := by decide +kernel
theorem bkMo_takeOut_183 : zBk mMo_takeOut 183 [(0, 0, 0, 0, 0), (8, 0, 0, 0, 0)] = some 185 := by decide +kernel
theorem bkMo_takeOut_179 : zBk mMo_takeOut 179 [(0, 0, 0, 0, 1), (22, 184, 0, 0, 0), (8, 0, 0, 0, 0)] = some 185 := by decide +kernel
theorem bkMo_takeOut_96 : zBk mMo_takeOut 96 [(1, 0, 1, 0, 0), (5, 10, 13, 9, 13), (1, 4, 0, 0, 0), (7, 2, 0, 0, 0)] = some 103 := by decide +kernel
theorem bkMo_takeOut_18 : zBk mMo_takeOut 18 [(1, 0, 1, 0, 0), (5, 10, 3, 2, 3), (0, 0, 0, 0, 3), (1, 4, 0, 0, 0), (4, 0, 0, 0, 0), (0, 0, 0, 0, 4), (1, 2, 0, 0, 0), (1, 1, 0, 0, 0), (4, 1, 0, 0, 0), (4, 2, 0, 0, 0), (4, 1, 0, 0, 0), (1, 0, 1, 0, 0), (5, 10, 3, 2, 3), (0, 0, 0, 0, 3), (1, 4, 0, 0, 0), (4, 0, 0, 0, 0), (7, 0, 0, 0, 0), (8, 0, 0, 0, 0), (3, 4, 0, 0, 1), (22, 5, 0, 0, 0)] = some 5 := by decide +kernel
theorem bdMo_takeOut_15 : decode mMo_takeOut.2.2.1 15 = .ok (.if_icmp .ge 33, 3) := by decide +kernel
theorem bdMo_takeOut_71 : decode mMo_takeOut.2.2.1 71 = .ok (.if_icmp .ge 120, 3) := by decide +kernel
theorem bdMo_takeOut_76 : decode mMo_takeOut.2.2.1 76 = .ok (.invokestatic 91, 3) := by decide +kernel
theorem bdMo_takeOut_89 : decode mMo_takeOut.2.2.1 89 = .ok (.if_icmp .ne 96, 3) := by decide +kernel
theorem bdMo_takeOut_93 : decode mMo_takeOut.2.2.1 93 = .ok (.ifCond .eq 13, 3) := by decide +kernel
theorem bdMo_takeOut_103 : decode mMo_takeOut.2.2.1 103 = .ok (.ifCond .ne 82, 3) := by decide +kernel
theorem bdMo_takeOut_125 : decode mMo_takeOut.2.2.1 125 = .ok (.invokestatic 109, 3) := by decide +kernel
theorem bdMo_takeOut_148 : decode mMo_takeOut.2.2.1 148 = .ok (.invokestatic 109, 3) := by decide +kernel
theorem bdMo_takeOut_176 : decode mMo_takeOut.2.2.1 176 = .ok (.if_icmp .ge 7, 3) := by decide +kernel
theorem bdMo_takeOut_202 : decode mMo_takeOut.2.2.1 202 = .ok (.if_icmp .ge 107, 3) := by decide +kernel
theorem bdMo_takeOut_207 : decode mMo_takeOut.2.2.1 207 = .ok (.invokestatic 94, 3) := by decide +kernel
theorem bdMo_takeOut_220 : decode mMo_takeOut.2.2.1 220 = .ok (.if_icmp .ne 83, 3) := by decide +kernel
theorem bdMo_takeOut_224 : decode mMo_takeOut.2.2.1 224 = .ok (.ifCond .eq 13, 3) := by decide +kernel
theorem bdMo_takeOut_234 : decode mMo_takeOut.2.2.1 234 = .ok (.ifCond .ne 69, 3) := by decide +kernel
theorem bdMo_takeOut_257 : decode mMo_takeOut.2.2.1 257 = .ok (.if_icmp .le 20, 3) := by decide +kernel
theorem bdMo_takeOut_270 : decode mMo_takeOut.2.2.1 270 = .ok (.if_icmp .ge 7, 3) := by decide +kernel
theorem bdMo_takeOut_299 : decode mMo_takeOut.2.2.1 299 = .ok (.invokestatic 109, 3) := by decide +kernel
theorem bdMo_takeOut_309 : decode mMo_takeOut.2.2.1 309 = .ok (.return_, 1) := by decide +kernel
set_option maxHeartbeats 4000000 in
theorem lMo_takeOut {sg : zSig} {p q ot : Int32} (n0 : 0 ≤ sg 395 0) (g0 : 0 ≤ sg 395 1) (g1 : sg 395 1 ≤ 16) (a0 : 0 ≤ sg 395 2) (a1 : sg 395 2 ≤ 12) (p0 : 0 ≤ p) (p1 : p < q) (q1 : q ≤ sg 395 0) (n2 : sg 395 0 ≤ 200) {Q : Option Value → zHp → Prop} (hq : ∀ rr h', (∃ sg', rr = none ∧ h' = zN sg' ∧ mTk sg sg' p q ot) → Q rr h') : zG mMo_takeOut 411 Q 0 [(0, .ref 393), (1, .int p), (2, .int q), (3, .int ot)] [] (zN sg) := by
  obtain ⟨d, hd⟩ : ∃ d, q - p = d := ⟨_, rfl⟩
  have hqd : q = p + d := by grind
  have d0 : 0 < d ∧ d ≤ 200 := by lia
  refine zG_run bkMo_takeOut_0 (lv' := [(4, .int (4 * q)), (0, .ref 393), (1, .int p), (2, .int q), (3, .int ot)]) (st' := []) (h' := zN sg) (Ps := []) rfl trivial ?_
  refine zG_pick (lv' := [(0, .ref 393), (1, .int p), (2, .int q), (3, .int ot), (4, .int (4 * q))]) [1, 2, 3, 4, 0] rfl ?_
  refine zlp2 (fun (k : Int32) (sg1 : zSig) => zG mMo_takeOut 411 Q 5 [(0, .ref 393), (1, .int p), (2, .int q), (3, .int ot), (4, .int k)] [] (zN sg1)) (fun (k : Int32) (sg1 : zSig) => (4 * q ≤ k) ∧ (k ≤ 4 * sg 395 0) ∧ (∀ c j, c ≠ 395 → sg1 c j = sg c j) ∧ (∀ j, sg1 395 j = if 3 + 4 * p ≤ j ∧ j < 3 + k - 4 * d then sg 395 (j + 4 * d) else sg 395 j)) (fun (k : Int32) (sg1 : zSig) => zmu (4 * sg 395 0) k) ?_ (4 * q) sg ?_
  · intro k sg1 hI ih
    obtain ⟨k0, k1, kf, kz⟩ := hI
    have kn : sg1 395 0 = sg 395 0 := by rw [kz 0, if_neg (by lia)]
    refine zb_icge (tgt := 48) bkMo_takeOut_5 bdMo_takeOut_15 (by decide) (lv' := [(0, .ref 393), (1, .int p), (2, .int q), (3, .int ot), (4, .int k)]) (st' := []) (h' := zN sg1) (x := k) (y := 4 * (sg1 395 0)) (Ps := [zOb (zN sg1) 393 10 ∧ (zN sg1).2.2 393 3 = true, zInL (zN sg1) 395 0]) rfl (zA ⟨zob_393, rfl⟩ (zA (zinL_395 (i := 0) (by decide) (by decide)) trivial)) (fun c1 => ?_) (fun c1 => ?_)
    · skip
      refine zG_run bkMo_takeOut_48 (lv' := [(0, .ref 393), (1, .int p), (2, .int q), (3, .int ot), (4, .int k)]) (st' := []) (h' := zN (zup sg1 395 0 ((sg1 395 0) - (q - p)))) (Ps := [zOb (zN sg1) 393 10 ∧ (zN sg1).2.2 393 3 = true, zInL (zN sg1) 395 0, zIn (zN sg1) 395 0 0]) rfl (zA ⟨zob_393, rfl⟩ (zA (zinL_395 (i := 0) (by decide) (by decide)) (zA (zin_395 (i := 0) (by decide) (by decide)) trivial))) ?_
      refine zG_nm (sg := zup sg1 395 0 ((sg1 395 0) - (q - p))) (fun sg2 e2 => ?_)
      have x0 : sg2 395 0 = sg 395 0 - d := by rw [e2, zup_s, kz 0, if_neg (by lia), hd]
      have x1 : sg2 395 1 = sg 395 1 := by rw [e2, zup_i (by decide), kz 1, if_neg (by lia)]
      have x2 : sg2 395 2 = sg 395 2 := by rw [e2, zup_i (by decide), kz 2, if_neg (by lia)]
      have xf : ∀ c j, c ≠ 395 → sg2 c j = sg c j := fun c j h => by rw [e2, zup_a h]; exact kf c j h
      have ek : k = 4 * sg 395 0 := by lia
      have xz : ∀ j, 3 ≤ j → j < 3 + 4 * (sg 395 0 - d) → sg2 395 j = if j < 3 + 4 * p then sg 395 j else sg 395 (j + 4 * d) := by
        intro j h h2; rw [e2, zup_i (by lia), kz j]
        by_cases hc : j < 3 + 4 * p
        · rw [if_pos hc, if_neg (by lia)]
        · rw [show 3 + 4 * (sg 395 0 - d) = 3 + k - 4 * d by rw [ek]; grind] at h2; rw [if_neg hc, if_pos ⟨by lia, h2⟩]
      have xb : ∀ j, 803 ≤ j → sg2 395 j = sg 395 j := fun j h => by rw [e2, zup_i (by lia), kz j, if_neg (by lia)]
      clear e2 kz kf ek
      refine zG_run bkMo_takeOut_60 (lv' := [(4, .int 0), (0, .ref 393), (1, .int p), (2, .int q), (3, .int ot)]) (st' := []) (h' := zN sg2) (Ps := []) rfl trivial ?_
      refine zG_pick (lv' := [(0, .ref 393), (1, .int p), (2, .int q), (3, .int ot), (4, .int 0)]) [1, 2, 3, 4, 0] rfl ?_
      refine zlp2 (fun (k : Int32) (sg3 : zSig) => zG mMo_takeOut 411 Q 63 [(0, .ref 393), (1, .int p), (2, .int q), (3, .int ot), (4, .int k)] [] (zN sg3)) (fun (k : Int32) (sg3 : zSig) => (0 ≤ k) ∧ (k ≤ sg 395 1) ∧ (iRs (mGs p q ot) sg2 sg3 k)) (fun (k : Int32) (sg3 : zSig) => zmu (sg 395 1) k) ?_ 0 sg2 ?_
      · intro k sg3 hm ihm
        obtain ⟨m0, m1, mi⟩ := hm
        have kg : sg3 395 1 = sg 395 1 := by rw [mi.2.1 1 (by decide)]; exact x1
        refine zb_icge (tgt := 191) bkMo_takeOut_63 bdMo_takeOut_71 (by decide) (lv' := [(0, .ref 393), (1, .int p), (2, .int q), (3, .int ot), (4, .int k)]) (st' := []) (h' := zN sg3) (x := k) (y := sg3 395 1) (Ps := [zOb (zN sg3) 393 10 ∧ (zN sg3).2.2 393 3 = true, zInL (zN sg3) 395 1]) rfl (zA ⟨zob_393, rfl⟩ (zA (zinL_395 (i := 1) (by decide) (by decide)) trivial)) (fun c2 => ?_) (fun c2 => ?_)
        · skip
          have mi3 := mi
          have e3 : k = sg 395 1 := by lia
          rw [e3] at mi3
          have y2 : sg3 395 2 = sg 395 2 := by rw [mi3.2.1 2 (by decide)]; exact x2
          refine zG_run bkMo_takeOut_191 (lv' := [(4, .int 0), (0, .ref 393), (1, .int p), (2, .int q), (3, .int ot)]) (st' := []) (h' := zN sg3) (Ps := []) rfl trivial ?_
          refine zG_pick (lv' := [(0, .ref 393), (1, .int p), (2, .int q), (3, .int ot), (4, .int 0)]) [1, 2, 3, 4, 0] rfl ?_
          refine zlp2 (fun (k : Int32) (sg4 : zSig) => zG mMo_takeOut 411 Q 194 [(0, .ref 393), (1, .int p), (2, .int q), (3, .int ot), (4, .int k)] [] (zN sg4)) (fun (k : Int32) (sg4 : zSig) => (0 ≤ k) ∧ (k ≤ sg 395 2) ∧ (iRa (mGa p q ot) sg3 sg4 k)) (fun (k : Int32) (sg4 : zSig) => zmu (sg 395 2) k) ?_ 0 sg3 ?_
          · intro k sg4 hm ihm
            obtain ⟨m0, m1, mi⟩ := hm
            have kg : sg4 395 2 = sg 395 2 := by rw [mi.2.1 2 (by decide)]; exact y2
            refine zb_icge (tgt := 309) bkMo_takeOut_194 bdMo_takeOut_202 (by decide) (lv' := [(0, .ref 393), (1, .int p), (2, .int q), (3, .int ot), (4, .int k)]) (st' := []) (h' := zN sg4) (x := k) (y := sg4 395 2) (Ps := [zOb (zN sg4) 393 10 ∧ (zN sg4).2.2 393 3 = true, zInL (zN sg4) 395 2]) rfl (zA ⟨zob_393, rfl⟩ (zA (zinL_395 (i := 2) (by decide) (by decide)) trivial)) (fun c3 => ?_) (fun c3 => ?_)
            · skip
              refine zb_vret bkMo_takeOut_309 bdMo_takeOut_309 rfl (h' := zN sg4) (Ps := []) rfl trivial rfl ?_
              refine hq _ _ ?_
              have ek : k = sg 395 2 := by lia
              rw [ek] at mi
              refine ⟨sg4, rfl, rfl, fun c j hc => ?_, ?_, ?_, ?_, fun j j0 j1 => ?_, fun s f s0 s1 f0 f1 => ?_, fun s f s0 s1 f0 f1 => ?_⟩
              · rw [mi.1 c j hc, mi3.1 c j hc]; exact xf c j hc
              · rw [mi.2.1 0 (by decide), mi3.2.1 0 (by decide)]; rw [hd]; exact x0
              · rw [mi.2.1 1 (by decide), mi3.2.1 1 (by decide)]; exact x1
              · rw [mi.2.1 2 (by decide), mi3.2.1 2 (by decide)]; exact x2
              · rw [mi.2.1 j (by lia), mi3.2.1 j (by lia)]; rw [hd]; rw [hd] at j1; exact xz j j0 j1
              · have s2 : s < 16 := by lia
                rw [mi.2.1 _ (Or.inl (sp_rng s0 s2 f0 f1).2), mi3.2.2 s f s0 s2 f0 f1, if_pos s1]; exact loc_mGs p q ot sg2 sg s (fun c j hc => xf c j hc) (fun f f0 f1 => xb _ (sp_rng s0 s2 f0 f1).1) f f0 f1
              · have s2 : s < 12 := by lia
                rw [mi.2.2 s f s0 s2 f0 f1, if_pos s1]; exact loc_mGa p q ot sg3 sg s (fun c j hc => by rw [mi3.1 c j hc]; exact xf c j hc) (fun f f0 f1 => by rw [mi3.2.1 _ (Or.inr (an_rng s0 s2 f0 f1).1)]; exact xb _ (Int32.le_trans (by decide) (an_rng s0 s2 f0 f1).1)) f f0 f1
            · skip
              refine zG_run bkMo_takeOut_205 (lv' := [(0, .ref 393), (1, .int p), (2, .int q), (3, .int ot), (4, .int k)]) (st' := [.int k]) (h' := zN sg4) (Ps := []) rfl trivial ?_
              refine zG_calls (As := [.int k]) (rest := []) (N2 := 411) bdMo_takeOut_207 okMo_anchorAt lk10_94 (And.intro (by decide) (by decide)) rfl rfl (Nat.le_of_ble_eq_true rfl) (Nat.le_of_ble_eq_true rfl) (Nat.le_refl 411) (Nat.le_refl 411) cMo_anchorAt ?_
              rintro rr h' ⟨rfl, rfl⟩ -
              refine zb_icne (tgt := 303) bkMo_takeOut_210 bdMo_takeOut_220 (by decide) (lv' := [(5, .int (947 + 4 * k)), (0, .ref 393), (1, .int p), (2, .int q), (3, .int ot), (4, .int k)]) (st' := []) (h' := zN sg4) (x := sg4 395 (947 + 4 * k)) (y := 1) (Ps := [zOb (zN sg4) 393 10 ∧ (zN sg4).2.2 393 3 = true, zInL (zN sg4) 395 (947 + 4 * k)]) rfl (zA ⟨zob_393, rfl⟩ (zA (zinL_395 (i := 947 + 4 * k) (by lia) (by lia)) trivial)) (fun c4 => ?_) (fun c4 => ?_)
              · skip
                refine zG_run bkMo_takeOut_303 (lv' := [(4, .int (k + 1)), (5, .int (947 + 4 * k)), (0, .ref 393), (1, .int p), (2, .int q), (3, .int ot)]) (st' := []) (h' := zN sg4) (Ps := []) rfl trivial ?_
                refine zG_pick (lv' := [(0, .ref 393), (1, .int p), (2, .int q), (3, .int ot), (4, .int (k + 1))]) [2, 3, 4, 5, 0] rfl ?_
                refine ihm (k + 1) sg4 ?_ ?_
                · refine ⟨?_, ?_, ?_⟩
                  · lia
                  · lia
                  · refine iRa_s (loc_mGa p q ot) mi m0 (by lia) (fun _ _ _ => rfl) (fun _ _ => rfl) (fun f f0 f1 => ?_)
                    have hl : mLa sg4 ot k = false := by unfold mLa; exact decide_eq_false (by lia)
                    unfold mGa; simp [hl]
                · exact zmu_up (by lia)
              · skip
                refine zb_ifeq (tgt := 237) bkMo_takeOut_223 bdMo_takeOut_224 (by decide) (lv' := [(5, .int (947 + 4 * k)), (0, .ref 393), (1, .int p), (2, .int q), (3, .int ot), (4, .int k)]) (st' := []) (h' := zN sg4) (x := ot) (Ps := []) rfl trivial (fun c5 => ?_) (fun c5 => ?_)
                · skip
                  refine zb_icle (tgt := 277) bkMo_takeOut_237 bdMo_takeOut_257 (by decide) (lv' := [(5, .int (947 + 4 * k)), (0, .ref 393), (1, .int p), (2, .int q), (3, .int ot), (4, .int k)]) (st' := [.int (sg4 395 ((947 + 4 * k) + 3)), .int ((947 + 4 * k) + 3), .ref 395]) (h' := zN sg4) (x := sg4 395 ((947 + 4 * k) + 1)) (y := p) (Ps := [zOb (zN sg4) 393 10 ∧ (zN sg4).2.2 393 3 = true, zInL (zN sg4) 395 ((947 + 4 * k) + 3), zOb (zN sg4) 393 10 ∧ (zN sg4).2.2 393 3 = true, zInL (zN sg4) 395 ((947 + 4 * k) + 1)]) rfl (zA ⟨zob_393, rfl⟩ (zA (zinL_395 (i := (947 + 4 * k) + 3) (by lia) (by lia)) (zA ⟨zob_393, rfl⟩ (zA (zinL_395 (i := (947 + 4 * k) + 1) (by lia) (by lia)) trivial)))) (fun c6 => ?_) (fun c6 => ?_)
                  · skip
                    refine zG_run bkMo_takeOut_277 (lv' := [(5, .int (947 + 4 * k)), (0, .ref 393), (1, .int p), (2, .int q), (3, .int ot), (4, .int k)]) (st' := [.int q, .int p, .int ((zup sg4 395 ((947 + 4 * k) + 3) ((sg4 395 ((947 + 4 * k) + 3)) + 0)) 395 ((947 + 4 * k) + 1)), .int ((947 + 4 * k) + 1), .ref 395]) (h' := zN (zup sg4 395 ((947 + 4 * k) + 3) ((sg4 395 ((947 + 4 * k) + 3)) + 0))) (Ps := [zIn (zN sg4) 395 0 ((947 + 4 * k) + 3), zOb (zN (zup sg4 395 ((947 + 4 * k) + 3) ((sg4 395 ((947 + 4 * k) + 3)) + 0))) 393 10 ∧ (zN (zup sg4 395 ((947 + 4 * k) + 3) ((sg4 395 ((947 + 4 * k) + 3)) + 0))).2.2 393 3 = true, zOb (zN (zup sg4 395 ((947 + 4 * k) + 3) ((sg4 395 ((947 + 4 * k) + 3)) + 0))) 393 10 ∧ (zN (zup sg4 395 ((947 + 4 * k) + 3) ((sg4 395 ((947 + 4 * k) + 3)) + 0))).2.2 393 3 = true, zInL (zN (zup sg4 395 ((947 + 4 * k) + 3) ((sg4 395 ((947 + 4 * k) + 3)) + 0))) 395 ((947 + 4 * k) + 1)]) rfl (zA (zin_395 (i := (947 + 4 * k) + 3) (by lia) (by lia)) (zA ⟨zob_393, rfl⟩ (zA ⟨zob_393, rfl⟩ (zA (zinL_395 (i := (947 + 4 * k) + 1) (by lia) (by lia)) trivial)))) ?_
                    refine zG_calls (As := [.int ((zup sg4 395 ((947 + 4 * k) + 3) ((sg4 395 ((947 + 4 * k) + 3)) + 0)) 395 ((947 + 4 * k) + 1)), .int p, .int q]) (rest := [.int ((947 + 4 * k) + 1), .ref 395]) (N2 := 411) bdMo_takeOut_299 okMo_backward lk10_109 (And.intro (by decide) (by decide)) rfl rfl (Nat.le_of_ble_eq_true rfl) (Nat.le_of_ble_eq_true rfl) (Nat.le_refl 411) (Nat.le_refl 411) cMo_backward ?_
                    rintro rr h' ⟨rfl, rfl⟩ -
                    refine zG_run bkMo_takeOut_302 (lv' := [(5, .int (947 + 4 * k)), (0, .ref 393), (1, .int p), (2, .int q), (3, .int ot), (4, .int k)]) (st' := []) (h' := zN (zup (zup sg4 395 ((947 + 4 * k) + 3) ((sg4 395 ((947 + 4 * k) + 3)) + 0)) 395 ((947 + 4 * k) + 1) (pBk ((zup sg4 395 ((947 + 4 * k) + 3) ((sg4 395 ((947 + 4 * k) + 3)) + 0)) 395 ((947 + 4 * k) + 1)) p q))) (Ps := [zIn (zN (zup sg4 395 ((947 + 4 * k) + 3) ((sg4 395 ((947 + 4 * k) + 3)) + 0))) 395 0 ((947 + 4 * k) + 1)]) rfl (zA (zin_395 (i := (947 + 4 * k) + 1) (by lia) (by lia)) trivial) ?_
                    have es : zup (zup sg4 395 ((947 + 4 * k) + 3) ((sg4 395 ((947 + 4 * k) + 3)) + 0)) 395 ((947 + 4 * k) + 1) (pBk ((zup sg4 395 ((947 + 4 * k) + 3) ((sg4 395 ((947 + 4 * k) + 3)) + 0)) 395 ((947 + 4 * k) + 1)) p q) = zup (zup sg4 395 (947 + 4 * k + 3) (sg4 395 (947 + 4 * k + 3) + (if p < sg4 395 (947 + 4 * k + 1) ∧ sg4 395 (947 + 4 * k + 1) < q then 1 else 0))) 395 (947 + 4 * k + 1) (pBk (sg4 395 (947 + 4 * k + 1)) p q) := by
                      rw [zup_o (g := 1) (f := 3) (by decide)]; congr 3; first | rw [if_pos (by lia)] | rw [if_neg (by lia)]
                    refine zG_run bkMo_takeOut_303 (lv' := [(4, .int (k + 1)), (5, .int (947 + 4 * k)), (0, .ref 393), (1, .int p), (2, .int q), (3, .int ot)]) (st' := []) (h' := zN (zup (zup sg4 395 ((947 + 4 * k) + 3) ((sg4 395 ((947 + 4 * k) + 3)) + 0)) 395 ((947 + 4 * k) + 1) (pBk ((zup sg4 395 ((947 + 4 * k) + 3) ((sg4 395 ((947 + 4 * k) + 3)) + 0)) 395 ((947 + 4 * k) + 1)) p q))) (Ps := []) rfl trivial ?_
                    refine zG_pick (lv' := [(0, .ref 393), (1, .int p), (2, .int q), (3, .int ot), (4, .int (k + 1))]) [2, 3, 4, 5, 0] rfl ?_
                    refine ihm (k + 1) (zup (zup sg4 395 ((947 + 4 * k) + 3) ((sg4 395 ((947 + 4 * k) + 3)) + 0)) 395 ((947 + 4 * k) + 1) (pBk ((zup sg4 395 ((947 + 4 * k) + 3) ((sg4 395 ((947 + 4 * k) + 3)) + 0)) 395 ((947 + 4 * k) + 1)) p q)) ?_ ?_
                    · refine ⟨?_, ?_, ?_⟩
                      · lia
                      · lia
                      · refine iRa_s (loc_mGa p q ot) mi m0 (by lia) (fun c j hc => ?_) (fun j hj => ?_) (fun f f0 f1 => ?_)
                        · rw [es]; rw [zup_a hc]; rw [zup_a hc]
                        · rw [es]; rw [zup_i (fun q => hj 1 (by decide) (by decide) q)]; rw [zup_i (fun q => hj 3 (by decide) (by decide) q)]
                        · have hl : mLa sg4 ot k = true := by unfold mLa; exact decide_eq_true (by lia)
                          rw [es, up_ag]; unfold mGa; rw [if_pos hl]
                    · exact zmu_up (by lia)
                  · skip
                    refine zb_icge (tgt := 277) bkMo_takeOut_260 bdMo_takeOut_270 (by decide) (lv' := [(5, .int (947 + 4 * k)), (0, .ref 393), (1, .int p), (2, .int q), (3, .int ot), (4, .int k)]) (st' := [.int (sg4 395 ((947 + 4 * k) + 3)), .int ((947 + 4 * k) + 3), .ref 395]) (h' := zN sg4) (x := sg4 395 ((947 + 4 * k) + 1)) (y := q) (Ps := [zOb (zN sg4) 393 10 ∧ (zN sg4).2.2 393 3 = true, zInL (zN sg4) 395 ((947 + 4 * k) + 1)]) rfl (zA ⟨zob_393, rfl⟩ (zA (zinL_395 (i := (947 + 4 * k) + 1) (by lia) (by lia)) trivial)) (fun c7 => ?_) (fun c7 => ?_)
                    · skip
                      refine zG_run bkMo_takeOut_277 (lv' := [(5, .int (947 + 4 * k)), (0, .ref 393), (1, .int p), (2, .int q), (3, .int ot), (4, .int k)]) (st' := [.int q, .int p, .int ((zup sg4 395 ((947 + 4 * k) + 3) ((sg4 395 ((947 + 4 * k) + 3)) + 0)) 395 ((947 + 4 * k) + 1)), .int ((947 + 4 * k) + 1), .ref 395]) (h' := zN (zup sg4 395 ((947 + 4 * k) + 3) ((sg4 395 ((947 + 4 * k) + 3)) + 0))) (Ps := [zIn (zN sg4) 395 0 ((947 + 4 * k) + 3), zOb (zN (zup sg4 395 ((947 + 4 * k) + 3) ((sg4 395 ((947 + 4 * k) + 3)) + 0))) 393 10 ∧ (zN (zup sg4 395 ((947 + 4 * k) + 3) ((sg4 395 ((947 + 4 * k) + 3)) + 0))).2.2 393 3 = true, zOb (zN (zup sg4 395 ((947 + 4 * k) + 3) ((sg4 395 ((947 + 4 * k) + 3)) + 0))) 393 10 ∧ (zN (zup sg4 395 ((947 + 4 * k) + 3) ((sg4 395 ((947 + 4 * k) + 3)) + 0))).2.2 393 3 = true, zInL (zN (zup sg4 395 ((947 + 4 * k) + 3) ((sg4 395 ((947 + 4 * k) + 3)) + 0))) 395 ((947 + 4 * k) + 1)]) rfl (zA (zin_395 (i := (947 + 4 * k) + 3) (by lia) (by lia)) (zA ⟨zob_393, rfl⟩ (zA ⟨zob_393, rfl⟩ (zA (zinL_395 (i := (947 + 4 * k) + 1) (by lia) (by lia)) trivial)))) ?_
                      refine zG_calls (As := [.int ((zup sg4 395 ((947 + 4 * k) + 3) ((sg4 395 ((947 + 4 * k) + 3)) + 0)) 395 ((947 + 4 * k) + 1)), .int p, .int q]) (rest := [.int ((947 + 4 * k) + 1), .ref 395]) (N2 := 411) bdMo_takeOut_299 okMo_backward lk10_109 (And.intro (by decide) (by decide)) rfl rfl (Nat.le_of_ble_eq_true rfl) (Nat.le_of_ble_eq_true rfl) (Nat.le_refl 411) (Nat.le_refl 411) cMo_backward ?_
                      rintro rr h' ⟨rfl, rfl⟩ -
                      refine zG_run bkMo_takeOut_302 (lv' := [(5, .int (947 + 4 * k)), (0, .ref 393), (1, .int p), (2, .int q), (3, .int ot), (4, .int k)]) (st' := []) (h' := zN (zup (zup sg4 395 ((947 + 4 * k) + 3) ((sg4 395 ((947 + 4 * k) + 3)) + 0)) 395 ((947 + 4 * k) + 1) (pBk ((zup sg4 395 ((947 + 4 * k) + 3) ((sg4 395 ((947 + 4 * k) + 3)) + 0)) 395 ((947 + 4 * k) + 1)) p q))) (Ps := [zIn (zN (zup sg4 395 ((947 + 4 * k) + 3) ((sg4 395 ((947 + 4 * k) + 3)) + 0))) 395 0 ((947 + 4 * k) + 1)]) rfl (zA (zin_395 (i := (947 + 4 * k) + 1) (by lia) (by lia)) trivial) ?_
                      have es : zup (zup sg4 395 ((947 + 4 * k) + 3) ((sg4 395 ((947 + 4 * k) + 3)) + 0)) 395 ((947 + 4 * k) + 1) (pBk ((zup sg4 395 ((947 + 4 * k) + 3) ((sg4 395 ((947 + 4 * k) + 3)) + 0)) 395 ((947 + 4 * k) + 1)) p q) = zup (zup sg4 395 (947 + 4 * k + 3) (sg4 395 (947 + 4 * k + 3) + (if p < sg4 395 (947 + 4 * k + 1) ∧ sg4 395 (947 + 4 * k + 1) < q then 1 else 0))) 395 (947 + 4 * k + 1) (pBk (sg4 395 (947 + 4 * k + 1)) p q) := by
                        rw [zup_o (g := 1) (f := 3) (by decide)]; congr 3; first | rw [if_pos (by lia)] | rw [if_neg (by lia)]
                      refine zG_run bkMo_takeOut_303 (lv' := [(4, .int (k + 1)), (5, .int (947 + 4 * k)), (0, .ref 393), (1, .int p), (2, .int q), (3, .int ot)]) (st' := []) (h' := zN (zup (zup sg4 395 ((947 + 4 * k) + 3) ((sg4 395 ((947 + 4 * k) + 3)) + 0)) 395 ((947 + 4 * k) + 1) (pBk ((zup sg4 395 ((947 + 4 * k) + 3) ((sg4 395 ((947 + 4 * k) + 3)) + 0)) 395 ((947 + 4 * k) + 1)) p q))) (Ps := []) rfl trivial ?_
                      refine zG_pick (lv' := [(0, .ref 393), (1, .int p), (2, .int q), (3, .int ot), (4, .int (k + 1))]) [2, 3, 4, 5, 0] rfl ?_
                      refine ihm (k + 1) (zup (zup sg4 395 ((947 + 4 * k) + 3) ((sg4 395 ((947 + 4 * k) + 3)) + 0)) 395 ((947 + 4 * k) + 1) (pBk ((zup sg4 395 ((947 + 4 * k) + 3) ((sg4 395 ((947 + 4 * k) + 3)) + 0)) 395 ((947 + 4 * k) + 1)) p q)) ?_ ?_
                      · refine ⟨?_, ?_, ?_⟩
                        · lia
                        · lia
                        · refine iRa_s (loc_mGa p q ot) mi m0 (by lia) (fun c j hc => ?_) (fun j hj => ?_) (fun f f0 f1 => ?_)
                          · rw [es]; rw [zup_a hc]; rw [zup_a hc]
                          · rw [es]; rw [zup_i (fun q => hj 1 (by decide) (by decide) q)]; rw [zup_i (fun q => hj 3 (by decide) (by decide) q)]
                          · have hl : mLa sg4 ot k = true := by unfold mLa; exact decide_eq_true (by lia)
                            rw [es, up_ag]; unfold mGa; rw [if_pos hl]
                      · exact zmu_up (by lia)
                    · skip
                      refine zG_run bkMo_takeOut_273 (lv' := [(5, .int (947 + 4 * k)), (0, .ref 393), (1, .int p), (2, .int q), (3, .int ot), (4, .int k)]) (st' := [.int q, .int p, .int ((zup sg4 395 ((947 + 4 * k) + 3) ((sg4 395 ((947 + 4 * k) + 3)) + 1)) 395 ((947 + 4 * k) + 1)), .int ((947 + 4 * k) + 1), .ref 395]) (h' := zN (zup sg4 395 ((947 + 4 * k) + 3) ((sg4 395 ((947 + 4 * k) + 3)) + 1))) (Ps := [zIn (zN sg4) 395 0 ((947 + 4 * k) + 3), zOb (zN (zup sg4 395 ((947 + 4 * k) + 3) ((sg4 395 ((947 + 4 * k) + 3)) + 1))) 393 10 ∧ (zN (zup sg4 395 ((947 + 4 * k) + 3) ((sg4 395 ((947 + 4 * k) + 3)) + 1))).2.2 393 3 = true, zOb (zN (zup sg4 395 ((947 + 4 * k) + 3) ((sg4 395 ((947 + 4 * k) + 3)) + 1))) 393 10 ∧ (zN (zup sg4 395 ((947 + 4 * k) + 3) ((sg4 395 ((947 + 4 * k) + 3)) + 1))).2.2 393 3 = true, zInL (zN (zup sg4 395 ((947 + 4 * k) + 3) ((sg4 395 ((947 + 4 * k) + 3)) + 1))) 395 ((947 + 4 * k) + 1)]) rfl (zA (zin_395 (i := (947 + 4 * k) + 3) (by lia) (by lia)) (zA ⟨zob_393, rfl⟩ (zA ⟨zob_393, rfl⟩ (zA (zinL_395 (i := (947 + 4 * k) + 1) (by lia) (by lia)) trivial)))) ?_
                      refine zG_calls (As := [.int ((zup sg4 395 ((947 + 4 * k) + 3) ((sg4 395 ((947 + 4 * k) + 3)) + 1)) 395 ((947 + 4 * k) + 1)), .int p, .int q]) (rest := [.int ((947 + 4 * k) + 1), .ref 395]) (N2 := 411) bdMo_takeOut_299 okMo_backward lk10_109 (And.intro (by decide) (by decide)) rfl rfl (Nat.le_of_ble_eq_true rfl) (Nat.le_of_ble_eq_true rfl) (Nat.le_refl 411) (Nat.le_refl 411) cMo_backward ?_
                      rintro rr h' ⟨rfl, rfl⟩ -
                      refine zG_run bkMo_takeOut_302 (lv' := [(5, .int (947 + 4 * k)), (0, .ref 393), (1, .int p), (2, .int q), (3, .int ot), (4, .int k)]) (st' := []) (h' := zN (zup (zup sg4 395 ((947 + 4 * k) + 3) ((sg4 395 ((947 + 4 * k) + 3)) + 1)) 395 ((947 + 4 * k) + 1) (pBk ((zup sg4 395 ((947 + 4 * k) + 3) ((sg4 395 ((947 + 4 * k) + 3)) + 1)) 395 ((947 + 4 * k) + 1)) p q))) (Ps := [zIn (zN (zup sg4 395 ((947 + 4 * k) + 3) ((sg4 395 ((947 + 4 * k) + 3)) + 1))) 395 0 ((947 + 4 * k) + 1)]) rfl (zA (zin_395 (i := (947 + 4 * k) + 1) (by lia) (by lia)) trivial) ?_
                      have es : zup (zup sg4 395 ((947 + 4 * k) + 3) ((sg4 395 ((947 + 4 * k) + 3)) + 1)) 395 ((947 + 4 * k) + 1) (pBk ((zup sg4 395 ((947 + 4 * k) + 3) ((sg4 395 ((947 + 4 * k) + 3)) + 1)) 395 ((947 + 4 * k) + 1)) p q) = zup (zup sg4 395 (947 + 4 * k + 3) (sg4 395 (947 + 4 * k + 3) + (if p < sg4 395 (947 + 4 * k + 1) ∧ sg4 395 (947 + 4 * k + 1) < q then 1 else 0))) 395 (947 + 4 * k + 1) (pBk (sg4 395 (947 + 4 * k + 1)) p q) := by
                        rw [zup_o (g := 1) (f := 3) (by decide)]; congr 3; first | rw [if_pos (by lia)] | rw [if_neg (by lia)]
                      refine zG_run bkMo_takeOut_303 (lv' := [(4, .int (k + 1)), (5, .int (947 + 4 * k)), (0, .ref 393), (1, .int p), (2, .int q), (3, .int ot)]) (st' := []) (h' := zN (zup (zup sg4 395 ((947 + 4 * k) + 3) ((sg4 395 ((947 + 4 * k) + 3)) + 1)) 395 ((947 + 4 * k) + 1) (pBk ((zup sg4 395 ((947 + 4 * k) + 3) ((sg4 395 ((947 + 4 * k) + 3)) + 1)) 395 ((947 + 4 * k) + 1)) p q))) (Ps := []) rfl trivial ?_
                      refine zG_pick (lv' := [(0, .ref 393), (1, .int p), (2, .int q), (3, .int ot), (4, .int (k + 1))]) [2, 3, 4, 5, 0] rfl ?_
                      refine ihm (k + 1) (zup (zup sg4 395 ((947 + 4 * k) + 3) ((sg4 395 ((947 + 4 * k) + 3)) + 1)) 395 ((947 + 4 * k) + 1) (pBk ((zup sg4 395 ((947 + 4 * k) + 3) ((sg4 395 ((947 + 4 * k) + 3)) + 1)) 395 ((947 + 4 * k) + 1)) p q)) ?_ ?_
                      · refine ⟨?_, ?_, ?_⟩
                        · lia
                        · lia
                        · refine iRa_s (loc_mGa p q ot) mi m0 (by lia) (fun c j hc => ?_) (fun j hj => ?_) (fun f f0 f1 => ?_)
                          · rw [es]; rw [zup_a hc]; rw [zup_a hc]
                          · rw [es]; rw [zup_i (fun q => hj 1 (by decide) (by decide) q)]; rw [zup_i (fun q => hj 3 (by decide) (by decide) q)]
                          · have hl : mLa sg4 ot k = true := by unfold mLa; exact decide_eq_true (by lia)
                            rw [es, up_ag]; unfold mGa; rw [if_pos hl]
                      · exact zmu_up (by lia)
                · skip
                  refine zb_ifne (tgt := 303) bkMo_takeOut_227 bdMo_takeOut_234 (by decide) (lv' := [(5, .int (947 + 4 * k)), (0, .ref 393), (1, .int p), (2, .int q), (3, .int ot), (4, .int k)]) (st' := []) (h' := zN sg4) (x := sg4 403 k) (Ps := [zOb (zN sg4) 393 10 ∧ (zN sg4).2.2 393 14 = true, zIn (zN sg4) 403 2 k]) rfl (zA ⟨zob_393, rfl⟩ (zA (zin_403 (i := k) (by lia) (by lia)) trivial)) (fun c8 => ?_) (fun c8 => ?_)
                  · skip
                    refine zG_run bkMo_takeOut_303 (lv' := [(4, .int (k + 1)), (5, .int (947 + 4 * k)), (0, .ref 393), (1, .int p), (2, .int q), (3, .int ot)]) (st' := []) (h' := zN sg4) (Ps := []) rfl trivial ?_
                    refine zG_pick (lv' := [(0, .ref 393), (1, .int p), (2, .int q), (3, .int ot), (4, .int (k + 1))]) [2, 3, 4, 5, 0] rfl ?_
                    refine ihm (k + 1) sg4 ?_ ?_
                    · refine ⟨?_, ?_, ?_⟩
                      · lia
                      · lia
                      · refine iRa_s (loc_mGa p q ot) mi m0 (by lia) (fun _ _ _ => rfl) (fun _ _ => rfl) (fun f f0 f1 => ?_)
                        have hl : mLa sg4 ot k = false := by unfold mLa; exact decide_eq_false (by lia)
                        unfold mGa; simp [hl]
                    · exact zmu_up (by lia)
                  · skip
                    refine zb_icle (tgt := 277) bkMo_takeOut_237 bdMo_takeOut_257 (by decide) (lv' := [(5, .int (947 + 4 * k)), (0, .ref 393), (1, .int p), (2, .int q), (3, .int ot), (4, .int k)]) (st' := [.int (sg4 395 ((947 + 4 * k) + 3)), .int ((947 + 4 * k) + 3), .ref 395]) (h' := zN sg4) (x := sg4 395 ((947 + 4 * k) + 1)) (y := p) (Ps := [zOb (zN sg4) 393 10 ∧ (zN sg4).2.2 393 3 = true, zInL (zN sg4) 395 ((947 + 4 * k) + 3), zOb (zN sg4) 393 10 ∧ (zN sg4).2.2 393 3 = true, zInL (zN sg4) 395 ((947 + 4 * k) + 1)]) rfl (zA ⟨zob_393, rfl⟩ (zA (zinL_395 (i := (947 + 4 * k) + 3) (by lia) (by lia)) (zA ⟨zob_393, rfl⟩ (zA (zinL_395 (i := (947 + 4 * k) + 1) (by lia) (by lia)) trivial)))) (fun c9 => ?_) (fun c9 => ?_)
                    · skip
                      refine zG_run bkMo_takeOut_277 (lv' := [(5, .int (947 + 4 * k)), (0, .ref 393), (1, .int p), (2, .int q), (3, .int ot), (4, .int k)]) (st' := [.int q, .int p, .int ((zup sg4 395 ((947 + 4 * k) + 3) ((sg4 395 ((947 + 4 * k) + 3)) + 0)) 395 ((947 + 4 * k) + 1)), .int ((947 + 4 * k) + 1), .ref 395]) (h' := zN (zup sg4 395 ((947 + 4 * k) + 3) ((sg4 395 ((947 + 4 * k) + 3)) + 0))) (Ps := [zIn (zN sg4) 395 0 ((947 + 4 * k) + 3), zOb (zN (zup sg4 395 ((947 + 4 * k) + 3) ((sg4 395 ((947 + 4 * k) + 3)) + 0))) 393 10 ∧ (zN (zup sg4 395 ((947 + 4 * k) + 3) ((sg4 395 ((947 + 4 * k) + 3)) + 0))).2.2 393 3 = true, zOb (zN (zup sg4 395 ((947 + 4 * k) + 3) ((sg4 395 ((947 + 4 * k) + 3)) + 0))) 393 10 ∧ (zN (zup sg4 395 ((947 + 4 * k) + 3) ((sg4 395 ((947 + 4 * k) + 3)) + 0))).2.2 393 3 = true, zInL (zN (zup sg4 395 ((947 + 4 * k) + 3) ((sg4 395 ((947 + 4 * k) + 3)) + 0))) 395 ((947 + 4 * k) + 1)]) rfl (zA (zin_395 (i := (947 + 4 * k) + 3) (by lia) (by lia)) (zA ⟨zob_393, rfl⟩ (zA ⟨zob_393, rfl⟩ (zA (zinL_395 (i := (947 + 4 * k) + 1) (by lia) (by lia)) trivial)))) ?_
                      refine zG_calls (As := [.int ((zup sg4 395 ((947 + 4 * k) + 3) ((sg4 395 ((947 + 4 * k) + 3)) + 0)) 395 ((947 + 4 * k) + 1)), .int p, .int q]) (rest := [.int ((947 + 4 * k) + 1), .ref 395]) (N2 := 411) bdMo_takeOut_299 okMo_backward lk10_109 (And.intro (by decide) (by decide)) rfl rfl (Nat.le_of_ble_eq_true rfl) (Nat.le_of_ble_eq_true rfl) (Nat.le_refl 411) (Nat.le_refl 411) cMo_backward ?_
                      rintro rr h' ⟨rfl, rfl⟩ -
                      refine zG_run bkMo_takeOut_302 (lv' := [(5, .int (947 + 4 * k)), (0, .ref 393), (1, .int p), (2, .int q), (3, .int ot), (4, .int k)]) (st' := []) (h' := zN (zup (zup sg4 395 ((947 + 4 * k) + 3) ((sg4 395 ((947 + 4 * k) + 3)) + 0)) 395 ((947 + 4 * k) + 1) (pBk ((zup sg4 395 ((947 + 4 * k) + 3) ((sg4 395 ((947 + 4 * k) + 3)) + 0)) 395 ((947 + 4 * k) + 1)) p q))) (Ps := [zIn (zN (zup sg4 395 ((947 + 4 * k) + 3) ((sg4 395 ((947 + 4 * k) + 3)) + 0))) 395 0 ((947 + 4 * k) + 1)]) rfl (zA (zin_395 (i := (947 + 4 * k) + 1) (by lia) (by lia)) trivial) ?_
                      have es : zup (zup sg4 395 ((947 + 4 * k) + 3) ((sg4 395 ((947 + 4 * k) + 3)) + 0)) 395 ((947 + 4 * k) + 1) (pBk ((zup sg4 395 ((947 + 4 * k) + 3) ((sg4 395 ((947 + 4 * k) + 3)) + 0)) 395 ((947 + 4 * k) + 1)) p q) = zup (zup sg4 395 (947 + 4 * k + 3) (sg4 395 (947 + 4 * k + 3) + (if p < sg4 395 (947 + 4 * k + 1) ∧ sg4 395 (947 + 4 * k + 1) < q then 1 else 0))) 395 (947 + 4 * k + 1) (pBk (sg4 395 (947 + 4 * k + 1)) p q) := by
                        rw [zup_o (g := 1) (f := 3) (by decide)]; congr 3; first | rw [if_pos (by lia)] | rw [if_neg (by lia)]
                      refine zG_run bkMo_takeOut_303 (lv' := [(4, .int (k + 1)), (5, .int (947 + 4 * k)), (0, .ref 393), (1, .int p), (2, .int q), (3, .int ot)]) (st' := []) (h' := zN (zup (zup sg4 395 ((947 + 4 * k) + 3) ((sg4 395 ((947 + 4 * k) + 3)) + 0)) 395 ((947 + 4 * k) + 1) (pBk ((zup sg4 395 ((947 + 4 * k) + 3) ((sg4 395 ((947 + 4 * k) + 3)) + 0)) 395 ((947 + 4 * k) + 1)) p q))) (Ps := []) rfl trivial ?_
                      refine zG_pick (lv' := [(0, .ref 393), (1, .int p), (2, .int q), (3, .int ot), (4, .int (k + 1))]) [2, 3, 4, 5, 0] rfl ?_
                      refine ihm (k + 1) (zup (zup sg4 395 ((947 + 4 * k) + 3) ((sg4 395 ((947 + 4 * k) + 3)) + 0)) 395 ((947 + 4 * k) + 1) (pBk ((zup sg4 395 ((947 + 4 * k) + 3) ((sg4 395 ((947 + 4 * k) + 3)) + 0)) 395 ((947 + 4 * k) + 1)) p q)) ?_ ?_
                      · refine ⟨?_, ?_, ?_⟩
                        · lia
                        · lia
                        · refine iRa_s (loc_mGa p q ot) mi m0 (by lia) (fun c j hc => ?_) (fun j hj => ?_) (fun f f0 f1 => ?_)
                          · rw [es]; rw [zup_a hc]; rw [zup_a hc]
                          · rw [es]; rw [zup_i (fun q => hj 1 (by decide) (by decide) q)]; rw [zup_i (fun q => hj 3 (by decide) (by decide) q)]
                          · have hl : mLa sg4 ot k = true := by unfold mLa; exact decide_eq_true (by lia)
                            rw [es, up_ag]; unfold mGa; rw [if_pos hl]
                      · exact zmu_up (by lia)
                    · skip
                      refine zb_icge (tgt := 277) bkMo_takeOut_260 bdMo_takeOut_270 (by decide) (lv' := [(5, .int (947 + 4 * k)), (0, .ref 393), (1, .int p), (2, .int q), (3, .int ot), (4, .int k)]) (st' := [.int (sg4 395 ((947 + 4 * k) + 3)), .int ((947 + 4 * k) + 3), .ref 395]) (h' := zN sg4) (x := sg4 395 ((947 + 4 * k) + 1)) (y := q) (Ps := [zOb (zN sg4) 393 10 ∧ (zN sg4).2.2 393 3 = true, zInL (zN sg4) 395 ((947 + 4 * k) + 1)]) rfl (zA ⟨zob_393, rfl⟩ (zA (zinL_395 (i := (947 + 4 * k) + 1) (by lia) (by lia)) trivial)) (fun c10 => ?_) (fun c10 => ?_)
                      · skip
                        refine zG_run bkMo_takeOut_277 (lv' := [(5, .int (947 + 4 * k)), (0, .ref 393), (1, .int p), (2, .int q), (3, .int ot), (4, .int k)]) (st' := [.int q, .int p, .int ((zup sg4 395 ((947 + 4 * k) + 3) ((sg4 395 ((947 + 4 * k) + 3)) + 0)) 395 ((947 + 4 * k) + 1)), .int ((947 + 4 * k) + 1), .ref 395]) (h' := zN (zup sg4 395 ((947 + 4 * k) + 3) ((sg4 395 ((947 + 4 * k) + 3)) + 0))) (Ps := [zIn (zN sg4) 395 0 ((947 + 4 * k) + 3), zOb (zN (zup sg4 395 ((947 + 4 * k) + 3) ((sg4 395 ((947 + 4 * k) + 3)) + 0))) 393 10 ∧ (zN (zup sg4 395 ((947 + 4 * k) + 3) ((sg4 395 ((947 + 4 * k) + 3)) + 0))).2.2 393 3 = true, zOb (zN (zup sg4 395 ((947 + 4 * k) + 3) ((sg4 395 ((947 + 4 * k) + 3)) + 0))) 393 10 ∧ (zN (zup sg4 395 ((947 + 4 * k) + 3) ((sg4 395 ((947 + 4 * k) + 3)) + 0))).2.2 393 3 = true, zInL (zN (zup sg4 395 ((947 + 4 * k) + 3) ((sg4 395 ((947 + 4 * k) + 3)) + 0))) 395 ((947 + 4 * k) + 1)]) rfl (zA (zin_395 (i := (947 + 4 * k) + 3) (by lia) (by lia)) (zA ⟨zob_393, rfl⟩ (zA ⟨zob_393, rfl⟩ (zA (zinL_395 (i := (947 + 4 * k) + 1) (by lia) (by lia)) trivial)))) ?_
                        refine zG_calls (As := [.int ((zup sg4 395 ((947 + 4 * k) + 3) ((sg4 395 ((947 + 4 * k) + 3)) + 0)) 395 ((947 + 4 * k) + 1)), .int p, .int q]) (rest := [.int ((947 + 4 * k) + 1), .ref 395]) (N2 := 411) bdMo_takeOut_299 okMo_backward lk10_109 (And.intro (by decide) (by decide)) rfl rfl (Nat.le_of_ble_eq_true rfl) (Nat.le_of_ble_eq_true rfl) (Nat.le_refl 411) (Nat.le_refl 411) cMo_backward ?_
                        rintro rr h' ⟨rfl, rfl⟩ -
                        refine zG_run bkMo_takeOut_302 (lv' := [(5, .int (947 + 4 * k)), (0, .ref 393), (1, .int p), (2, .int q), (3, .int ot), (4, .int k)]) (st' := []) (h' := zN (zup (zup sg4 395 ((947 + 4 * k) + 3) ((sg4 395 ((947 + 4 * k) + 3)) + 0)) 395 ((947 + 4 * k) + 1) (pBk ((zup sg4 395 ((947 + 4 * k) + 3) ((sg4 395 ((947 + 4 * k) + 3)) + 0)) 395 ((947 + 4 * k) + 1)) p q))) (Ps := [zIn (zN (zup sg4 395 ((947 + 4 * k) + 3) ((sg4 395 ((947 + 4 * k) + 3)) + 0))) 395 0 ((947 + 4 * k) + 1)]) rfl (zA (zin_395 (i := (947 + 4 * k) + 1) (by lia) (by lia)) trivial) ?_
                        have es : zup (zup sg4 395 ((947 + 4 * k) + 3) ((sg4 395 ((947 + 4 * k) + 3)) + 0)) 395 ((947 + 4 * k) + 1) (pBk ((zup sg4 395 ((947 + 4 * k) + 3) ((sg4 395 ((947 + 4 * k) + 3)) + 0)) 395 ((947 + 4 * k) + 1)) p q) = zup (zup sg4 395 (947 + 4 * k + 3) (sg4 395 (947 + 4 * k + 3) + (if p < sg4 395 (947 + 4 * k + 1) ∧ sg4 395 (947 + 4 * k + 1) < q then 1 else 0))) 395 (947 + 4 * k + 1) (pBk (sg4 395 (947 + 4 * k + 1)) p q) := by
                          rw [zup_o (g := 1) (f := 3) (by decide)]; congr 3; first | rw [if_pos (by lia)] | rw [if_neg (by lia)]
                        refine zG_run bkMo_takeOut_303 (lv' := [(4, .int (k + 1)), (5, .int (947 + 4 * k)), (0, .ref 393), (1, .int p), (2, .int q), (3, .int ot)]) (st' := []) (h' := zN (zup (zup sg4 395 ((947 + 4 * k) + 3) ((sg4 395 ((947 + 4 * k) + 3)) + 0)) 395 ((947 + 4 * k) + 1) (pBk ((zup sg4 395 ((947 + 4 * k) + 3) ((sg4 395 ((947 + 4 * k) + 3)) + 0)) 395 ((947 + 4 * k) + 1)) p q))) (Ps := []) rfl trivial ?_
                        refine zG_pick (lv' := [(0, .ref 393), (1, .int p), (2, .int q), (3, .int ot), (4, .int (k + 1))]) [2, 3, 4, 5, 0] rfl ?_
                        refine ihm (k + 1) (zup (zup sg4 395 ((947 + 4 * k) + 3) ((sg4 395 ((947 + 4 * k) + 3)) + 0)) 395 ((947 + 4 * k) + 1) (pBk ((zup sg4 395 ((947 + 4 * k) + 3) ((sg4 395 ((947 + 4 * k) + 3)) + 0)) 395 ((947 + 4 * k) + 1)) p q)) ?_ ?_
                        · refine ⟨?_, ?_, ?_⟩
                          · lia
                          · lia
                          · refine iRa_s (loc_mGa p q ot) mi m0 (by lia) (fun c j hc => ?_) (fun j hj => ?_) (fun f f0 f1 => ?_)
                            · rw [es]; rw [zup_a hc]; rw [zup_a hc]
                            · rw [es]; rw [zup_i (fun q => hj 1 (by decide) (by decide) q)]; rw [zup_i (fun q => hj 3 (by decide) (by decide) q)]
                            · have hl : mLa sg4 ot k = true := by unfold mLa; exact decide_eq_true (by lia)
                              rw [es, up_ag]; unfold mGa; rw [if_pos hl]
                        · exact zmu_up (by lia)
                      · skip
                        refine zG_run bkMo_takeOut_273 (lv' := [(5, .int (947 + 4 * k)), (0, .ref 393), (1, .int p), (2, .int q), (3, .int ot), (4, .int k)]) (st' := [.int q, .int p, .int ((zup sg4 395 ((947 + 4 * k) + 3) ((sg4 395 ((947 + 4 * k) + 3)) + 1)) 395 ((947 + 4 * k) + 1)), .int ((947 + 4 * k) + 1), .ref 395]) (h' := zN (zup sg4 395 ((947 + 4 * k) + 3) ((sg4 395 ((947 + 4 * k) + 3)) + 1))) (Ps := [zIn (zN sg4) 395 0 ((947 + 4 * k) + 3), zOb (zN (zup sg4 395 ((947 + 4 * k) + 3) ((sg4 395 ((947 + 4 * k) + 3)) + 1))) 393 10 ∧ (zN (zup sg4 395 ((947 + 4 * k) + 3) ((sg4 395 ((947 + 4 * k) + 3)) + 1))).2.2 393 3 = true, zOb (zN (zup sg4 395 ((947 + 4 * k) + 3) ((sg4 395 ((947 + 4 * k) + 3)) + 1))) 393 10 ∧ (zN (zup sg4 395 ((947 + 4 * k) + 3) ((sg4 395 ((947 + 4 * k) + 3)) + 1))).2.2 393 3 = true, zInL (zN (zup sg4 395 ((947 + 4 * k) + 3) ((sg4 395 ((947 + 4 * k) + 3)) + 1))) 395 ((947 + 4 * k) + 1)]) rfl (zA (zin_395 (i := (947 + 4 * k) + 3) (by lia) (by lia)) (zA ⟨zob_393, rfl⟩ (zA ⟨zob_393, rfl⟩ (zA (zinL_395 (i := (947 + 4 * k) + 1) (by lia) (by lia)) trivial)))) ?_
                        refine zG_calls (As := [.int ((zup sg4 395 ((947 + 4 * k) + 3) ((sg4 395 ((947 + 4 * k) + 3)) + 1)) 395 ((947 + 4 * k) + 1)), .int p, .int q]) (rest := [.int ((947 + 4 * k) + 1), .ref 395]) (N2 := 411) bdMo_takeOut_299 okMo_backward lk10_109 (And.intro (by decide) (by decide)) rfl rfl (Nat.le_of_ble_eq_true rfl) (Nat.le_of_ble_eq_true rfl) (Nat.le_refl 411) (Nat.le_refl 411) cMo_backward ?_
                        rintro rr h' ⟨rfl, rfl⟩ -
                        refine zG_run bkMo_takeOut_302 (lv' := [(5, .int (947 + 4 * k)), (0, .ref 393), (1, .int p), (2, .int q), (3, .int ot), (4, .int k)]) (st' := []) (h' := zN (zup (zup sg4 395 ((947 + 4 * k) + 3) ((sg4 395 ((947 + 4 * k) + 3)) + 1)) 395 ((947 + 4 * k) + 1) (pBk ((zup sg4 395 ((947 + 4 * k) + 3) ((sg4 395 ((947 + 4 * k) + 3)) + 1)) 395 ((947 + 4 * k) + 1)) p q))) (Ps := [zIn (zN (zup sg4 395 ((947 + 4 * k) + 3) ((sg4 395 ((947 + 4 * k) + 3)) + 1))) 395 0 ((947 + 4 * k) + 1)]) rfl (zA (zin_395 (i := (947 + 4 * k) + 1) (by lia) (by lia)) trivial) ?_
                        have es : zup (zup sg4 395 ((947 + 4 * k) + 3) ((sg4 395 ((947 + 4 * k) + 3)) + 1)) 395 ((947 + 4 * k) + 1) (pBk ((zup sg4 395 ((947 + 4 * k) + 3) ((sg4 395 ((947 + 4 * k) + 3)) + 1)) 395 ((947 + 4 * k) + 1)) p q) = zup (zup sg4 395 (947 + 4 * k + 3) (sg4 395 (947 + 4 * k + 3) + (if p < sg4 395 (947 + 4 * k + 1) ∧ sg4 395 (947 + 4 * k + 1) < q then 1 else 0))) 395 (947 + 4 * k + 1) (pBk (sg4 395 (947 + 4 * k + 1)) p q) := by
                          rw [zup_o (g := 1) (f := 3) (by decide)]; congr 3; first | rw [if_pos (by lia)] | rw [if_neg (by lia)]
                        refine zG_run bkMo_takeOut_303 (lv' := [(4, .int (k + 1)), (5, .int (947 + 4 * k)), (0, .ref 393), (1, .int p), (2, .int q), (3, .int ot)]) (st' := []) (h' := zN (zup (zup sg4 395 ((947 + 4 * k) + 3) ((sg4 395 ((947 + 4 * k) + 3)) + 1)) 395 ((947 + 4 * k) + 1) (pBk ((zup sg4 395 ((947 + 4 * k) + 3) ((sg4 395 ((947 + 4 * k) + 3)) + 1)) 395 ((947 + 4 * k) + 1)) p q))) (Ps := []) rfl trivial ?_
                        refine zG_pick (lv' := [(0, .ref 393), (1, .int p), (2, .int q), (3, .int ot), (4, .int (k + 1))]) [2, 3, 4, 5, 0] rfl ?_
                        refine ihm (k + 1) (zup (zup sg4 395 ((947 + 4 * k) + 3) ((sg4 395 ((947 + 4 * k) + 3)) + 1)) 395 ((947 + 4 * k) + 1) (pBk ((zup sg4 395 ((947 + 4 * k) + 3) ((sg4 395 ((947 + 4 * k) + 3)) + 1)) 395 ((947 + 4 * k) + 1)) p q)) ?_ ?_
                        · refine ⟨?_, ?_, ?_⟩
                          · lia
                          · lia
                          · refine iRa_s (loc_mGa p q ot) mi m0 (by lia) (fun c j hc => ?_) (fun j hj => ?_) (fun f f0 f1 => ?_)
                            · rw [es]; rw [zup_a hc]; rw [zup_a hc]
                            · rw [es]; rw [zup_i (fun q => hj 1 (by decide) (by decide) q)]; rw [zup_i (fun q => hj 3 (by decide) (by decide) q)]
                            · have hl : mLa sg4 ot k = true := by unfold mLa; exact decide_eq_true (by lia)
                              rw [es, up_ag]; unfold mGa; rw [if_pos hl]
                        · exact zmu_up (by lia)
          · refine ⟨?_, ?_, ?_⟩
            · lia
            · lia
            · exact iRa_0
        · skip
          refine zG_run bkMo_takeOut_74 (lv' := [(0, .ref 393), (1, .int p), (2, .int q), (3, .int ot), (4, .int k)]) (st' := [.int k]) (h' := zN sg3) (Ps := []) rfl trivial ?_
          refine zG_calls (As := [.int k]) (rest := []) (N2 := 411) bdMo_takeOut_76 okMo_spanAt lk10_91 (And.intro (by decide) (by decide)) rfl rfl (Nat.le_of_ble_eq_true rfl) (Nat.le_of_ble_eq_true rfl) (Nat.le_refl 411) (Nat.le_refl 411) cMo_spanAt ?_
          rintro rr h' ⟨rfl, rfl⟩ -
          refine zb_icne (tgt := 185) bkMo_takeOut_79 bdMo_takeOut_89 (by decide) (lv' := [(5, .int (803 + 9 * k)), (0, .ref 393), (1, .int p), (2, .int q), (3, .int ot), (4, .int k)]) (st' := []) (h' := zN sg3) (x := sg3 395 (803 + 9 * k)) (y := 1) (Ps := [zOb (zN sg3) 393 10 ∧ (zN sg3).2.2 393 3 = true, zInL (zN sg3) 395 (803 + 9 * k)]) rfl (zA ⟨zob_393, rfl⟩ (zA (zinL_395 (i := 803 + 9 * k) (by lia) (by lia)) trivial)) (fun c11 => ?_) (fun c11 => ?_)
          · skip
            refine zG_run bkMo_takeOut_185 (lv' := [(4, .int (k + 1)), (5, .int (803 + 9 * k)), (0, .ref 393), (1, .int p), (2, .int q), (3, .int ot)]) (st' := []) (h' := zN sg3) (Ps := []) rfl trivial ?_
            refine zG_pick (lv' := [(0, .ref 393), (1, .int p), (2, .int q), (3, .int ot), (4, .int (k + 1))]) [2, 3, 4, 5, 0] rfl ?_
            refine ihm (k + 1) sg3 ?_ ?_
            · refine ⟨?_, ?_, ?_⟩
              · lia
              · lia
              · refine iRs_s (loc_mGs p q ot) mi m0 (by lia) (fun _ _ _ => rfl) (fun _ _ => rfl) (fun f f0 f1 => ?_)
                have hl : mLv sg3 ot k = false := by unfold mLv; exact decide_eq_false (by lia)
                unfold mGs; simp [hl]
            · exact zmu_up (by lia)
          · skip
            refine zb_ifeq (tgt := 106) bkMo_takeOut_92 bdMo_takeOut_93 (by decide) (lv' := [(5, .int (803 + 9 * k)), (0, .ref 393), (1, .int p), (2, .int q), (3, .int ot), (4, .int k)]) (st' := []) (h' := zN sg3) (x := ot) (Ps := []) rfl trivial (fun c12 => ?_) (fun c12 => ?_)
            · skip
              refine zG_run bkMo_takeOut_106 (lv' := [(5, .int (803 + 9 * k)), (0, .ref 393), (1, .int p), (2, .int q), (3, .int ot), (4, .int k)]) (st' := [.int q, .int p, .int (sg3 395 ((803 + 9 * k) + 1)), .int ((803 + 9 * k) + 1), .ref 395]) (h' := zN sg3) (Ps := [zOb (zN sg3) 393 10 ∧ (zN sg3).2.2 393 3 = true, zOb (zN sg3) 393 10 ∧ (zN sg3).2.2 393 3 = true, zInL (zN sg3) 395 ((803 + 9 * k) + 1)]) rfl (zA ⟨zob_393, rfl⟩ (zA ⟨zob_393, rfl⟩ (zA (zinL_395 (i := (803 + 9 * k) + 1) (by lia) (by lia)) trivial))) ?_
              refine zG_calls (As := [.int (sg3 395 ((803 + 9 * k) + 1)), .int p, .int q]) (rest := [.int ((803 + 9 * k) + 1), .ref 395]) (N2 := 411) bdMo_takeOut_125 okMo_backward lk10_109 (And.intro (by decide) (by decide)) rfl rfl (Nat.le_of_ble_eq_true rfl) (Nat.le_of_ble_eq_true rfl) (Nat.le_refl 411) (Nat.le_refl 411) cMo_backward ?_
              rintro rr h' ⟨rfl, rfl⟩ -
              refine zG_run bkMo_takeOut_128 (lv' := [(5, .int (803 + 9 * k)), (0, .ref 393), (1, .int p), (2, .int q), (3, .int ot), (4, .int k)]) (st' := [.int q, .int p, .int ((zup sg3 395 ((803 + 9 * k) + 1) (pBk (sg3 395 ((803 + 9 * k) + 1)) p q)) 395 ((803 + 9 * k) + 2)), .int ((803 + 9 * k) + 2), .ref 395]) (h' := zN (zup sg3 395 ((803 + 9 * k) + 1) (pBk (sg3 395 ((803 + 9 * k) + 1)) p q))) (Ps := [zIn (zN sg3) 395 0 ((803 + 9 * k) + 1), zOb (zN (zup sg3 395 ((803 + 9 * k) + 1) (pBk (sg3 395 ((803 + 9 * k) + 1)) p q))) 393 10 ∧ (zN (zup sg3 395 ((803 + 9 * k) + 1) (pBk (sg3 395 ((803 + 9 * k) + 1)) p q))).2.2 393 3 = true, zOb (zN (zup sg3 395 ((803 + 9 * k) + 1) (pBk (sg3 395 ((803 + 9 * k) + 1)) p q))) 393 10 ∧ (zN (zup sg3 395 ((803 + 9 * k) + 1) (pBk (sg3 395 ((803 + 9 * k) + 1)) p q))).2.2 393 3 = true, zInL (zN (zup sg3 395 ((803 + 9 * k) + 1) (pBk (sg3 395 ((803 + 9 * k) + 1)) p q))) 395 ((803 + 9 * k) + 2)]) rfl (zA (zin_395 (i := (803 + 9 * k) + 1) (by lia) (by lia)) (zA ⟨zob_393, rfl⟩ (zA ⟨zob_393, rfl⟩ (zA (zinL_395 (i := (803 + 9 * k) + 2) (by lia) (by lia)) trivial)))) ?_
              refine zG_calls (As := [.int ((zup sg3 395 ((803 + 9 * k) + 1) (pBk (sg3 395 ((803 + 9 * k) + 1)) p q)) 395 ((803 + 9 * k) + 2)), .int p, .int q]) (rest := [.int ((803 + 9 * k) + 2), .ref 395]) (N2 := 411) bdMo_takeOut_148 okMo_backward lk10_109 (And.intro (by decide) (by decide)) rfl rfl (Nat.le_of_ble_eq_true rfl) (Nat.le_of_ble_eq_true rfl) (Nat.le_refl 411) (Nat.le_refl 411) cMo_backward ?_
              rintro rr h' ⟨rfl, rfl⟩ -
              refine zb_icge (tgt := 183) bkMo_takeOut_151 bdMo_takeOut_176 (by decide) (lv' := [(5, .int (803 + 9 * k)), (0, .ref 393), (1, .int p), (2, .int q), (3, .int ot), (4, .int k)]) (st' := [.int (803 + 9 * k), .ref 395]) (h' := zN (zup (zup sg3 395 ((803 + 9 * k) + 1) (pBk (sg3 395 ((803 + 9 * k) + 1)) p q)) 395 ((803 + 9 * k) + 2) (pBk ((zup sg3 395 ((803 + 9 * k) + 1) (pBk (sg3 395 ((803 + 9 * k) + 1)) p q)) 395 ((803 + 9 * k) + 2)) p q))) (x := (zup (zup sg3 395 ((803 + 9 * k) + 1) (pBk (sg3 395 ((803 + 9 * k) + 1)) p q)) 395 ((803 + 9 * k) + 2) (pBk ((zup sg3 395 ((803 + 9 * k) + 1) (pBk (sg3 395 ((803 + 9 * k) + 1)) p q)) 395 ((803 + 9 * k) + 2)) p q)) 395 ((803 + 9 * k) + 1)) (y := (zup (zup sg3 395 ((803 + 9 * k) + 1) (pBk (sg3 395 ((803 + 9 * k) + 1)) p q)) 395 ((803 + 9 * k) + 2) (pBk ((zup sg3 395 ((803 + 9 * k) + 1) (pBk (sg3 395 ((803 + 9 * k) + 1)) p q)) 395 ((803 + 9 * k) + 2)) p q)) 395 ((803 + 9 * k) + 2)) (Ps := [zIn (zN (zup sg3 395 ((803 + 9 * k) + 1) (pBk (sg3 395 ((803 + 9 * k) + 1)) p q))) 395 0 ((803 + 9 * k) + 2), zOb (zN (zup (zup sg3 395 ((803 + 9 * k) + 1) (pBk (sg3 395 ((803 + 9 * k) + 1)) p q)) 395 ((803 + 9 * k) + 2) (pBk ((zup sg3 395 ((803 + 9 * k) + 1) (pBk (sg3 395 ((803 + 9 * k) + 1)) p q)) 395 ((803 + 9 * k) + 2)) p q))) 393 10 ∧ (zN (zup (zup sg3 395 ((803 + 9 * k) + 1) (pBk (sg3 395 ((803 + 9 * k) + 1)) p q)) 395 ((803 + 9 * k) + 2) (pBk ((zup sg3 395 ((803 + 9 * k) + 1) (pBk (sg3 395 ((803 + 9 * k) + 1)) p q)) 395 ((803 + 9 * k) + 2)) p q))).2.2 393 3 = true, zOb (zN (zup (zup sg3 395 ((803 + 9 * k) + 1) (pBk (sg3 395 ((803 + 9 * k) + 1)) p q)) 395 ((803 + 9 * k) + 2) (pBk ((zup sg3 395 ((803 + 9 * k) + 1) (pBk (sg3 395 ((803 + 9 * k) + 1)) p q)) 395 ((803 + 9 * k) + 2)) p q))) 393 10 ∧ (zN (zup (zup sg3 395 ((803 + 9 * k) + 1) (pBk (sg3 395 ((803 + 9 * k) + 1)) p q)) 395 ((803 + 9 * k) + 2) (pBk ((zup sg3 395 ((803 + 9 * k) + 1) (pBk (sg3 395 ((803 + 9 * k) + 1)) p q)) 395 ((803 + 9 * k) + 2)) p q))).2.2 393 3 = true, zInL (zN (zup (zup sg3 395 ((803 + 9 * k) + 1) (pBk (sg3 395 ((803 + 9 * k) + 1)) p q)) 395 ((803 + 9 * k) + 2) (pBk ((zup sg3 395 ((803 + 9 * k) + 1) (pBk (sg3 395 ((803 + 9 * k) + 1)) p q)) 395 ((803 + 9 * k) + 2)) p q))) 395 ((803 + 9 * k) + 1), zOb (zN (zup (zup sg3 395 ((803 + 9 * k) + 1) (pBk (sg3 395 ((803 + 9 * k) + 1)) p q)) 395 ((803 + 9 * k) + 2) (pBk ((zup sg3 395 ((803 + 9 * k) + 1) (pBk (sg3 395 ((803 + 9 * k) + 1)) p q)) 395 ((803 + 9 * k) + 2)) p q))) 393 10 ∧ (zN (zup (zup sg3 395 ((803 + 9 * k) + 1) (pBk (sg3 395 ((803 + 9 * k) + 1)) p q)) 395 ((803 + 9 * k) + 2) (pBk ((zup sg3 395 ((803 + 9 * k) + 1) (pBk (sg3 395 ((803 + 9 * k) + 1)) p q)) 395 ((803 + 9 * k) + 2)) p q))).2.2 393 3 = true, zInL (zN (zup (zup sg3 395 ((803 + 9 * k) + 1) (pBk (sg3 395 ((803 + 9 * k) + 1)) p q)) 395 ((803 + 9 * k) + 2) (pBk ((zup sg3 395 ((803 + 9 * k) + 1) (pBk (sg3 395 ((803 + 9 * k) + 1)) p q)) 395 ((803 + 9 * k) + 2)) p q))) 395 ((803 + 9 * k) + 2)]) rfl (zA (zin_395 (i := (803 + 9 * k) + 2) (by lia) (by lia)) (zA ⟨zob_393, rfl⟩ (zA ⟨zob_393, rfl⟩ (zA (zinL_395 (i := (803 + 9 * k) + 1) (by lia) (by lia)) (zA ⟨zob_393, rfl⟩ (zA (zinL_395 (i := (803 + 9 * k) + 2) (by lia) (by lia)) trivial)))))) (fun c13 => ?_) (fun c13 => ?_)
              · skip
                refine zG_run bkMo_takeOut_183 (lv' := [(5, .int (803 + 9 * k)), (0, .ref 393), (1, .int p), (2, .int q), (3, .int ot), (4, .int k)]) (st' := []) (h' := zN (zup (zup (zup sg3 395 ((803 + 9 * k) + 1) (pBk (sg3 395 ((803 + 9 * k) + 1)) p q)) 395 ((803 + 9 * k) + 2) (pBk ((zup sg3 395 ((803 + 9 * k) + 1) (pBk (sg3 395 ((803 + 9 * k) + 1)) p q)) 395 ((803 + 9 * k) + 2)) p q)) 395 (803 + 9 * k) 0)) (Ps := [zIn (zN (zup (zup sg3 395 ((803 + 9 * k) + 1) (pBk (sg3 395 ((803 + 9 * k) + 1)) p q)) 395 ((803 + 9 * k) + 2) (pBk ((zup sg3 395 ((803 + 9 * k) + 1) (pBk (sg3 395 ((803 + 9 * k) + 1)) p q)) 395 ((803 + 9 * k) + 2)) p q))) 395 0 (803 + 9 * k)]) rfl (zA (zin_395 (i := 803 + 9 * k) (by lia) (by lia)) trivial) ?_
                have es : zup (zup (zup sg3 395 ((803 + 9 * k) + 1) (pBk (sg3 395 ((803 + 9 * k) + 1)) p q)) 395 ((803 + 9 * k) + 2) (pBk ((zup sg3 395 ((803 + 9 * k) + 1) (pBk (sg3 395 ((803 + 9 * k) + 1)) p q)) 395 ((803 + 9 * k) + 2)) p q)) 395 (803 + 9 * k) 0 = zup (zup (zup sg3 395 (803 + 9 * k + 1) (pBk (sg3 395 (803 + 9 * k + 1)) p q)) 395 (803 + 9 * k + 2) (pBk (sg3 395 (803 + 9 * k + 2)) p q)) 395 (803 + 9 * k) (if pBk (sg3 395 (803 + 9 * k + 1)) p q < pBk (sg3 395 (803 + 9 * k + 2)) p q then 1 else 0) := by
                  simp only [zup_o (g := 1) (f := 2) (by decide), zup_o (g := 2) (f := 1) (by decide), zup_s] at c13 ⊢
                  rw [if_neg (by lia)]
                refine zG_run bkMo_takeOut_185 (lv' := [(4, .int (k + 1)), (5, .int (803 + 9 * k)), (0, .ref 393), (1, .int p), (2, .int q), (3, .int ot)]) (st' := []) (h' := zN (zup (zup (zup sg3 395 ((803 + 9 * k) + 1) (pBk (sg3 395 ((803 + 9 * k) + 1)) p q)) 395 ((803 + 9 * k) + 2) (pBk ((zup sg3 395 ((803 + 9 * k) + 1) (pBk (sg3 395 ((803 + 9 * k) + 1)) p q)) 395 ((803 + 9 * k) + 2)) p q)) 395 (803 + 9 * k) 0)) (Ps := []) rfl trivial ?_
                refine zG_pick (lv' := [(0, .ref 393), (1, .int p), (2, .int q), (3, .int ot), (4, .int (k + 1))]) [2, 3, 4, 5, 0] rfl ?_
                refine ihm (k + 1) (zup (zup (zup sg3 395 ((803 + 9 * k) + 1) (pBk (sg3 395 ((803 + 9 * k) + 1)) p q)) 395 ((803 + 9 * k) + 2) (pBk ((zup sg3 395 ((803 + 9 * k) + 1) (pBk (sg3 395 ((803 + 9 * k) + 1)) p q)) 395 ((803 + 9 * k) + 2)) p q)) 395 (803 + 9 * k) 0) ?_ ?_
                · refine ⟨?_, ?_, ?_⟩
                  · lia
                  · lia
                  · refine iRs_s (loc_mGs p q ot) mi m0 (by lia) (fun c j hc => ?_) (fun j hj => ?_) (fun f f0 f1 => ?_)
                    · rw [es]; rw [zup_a hc]; rw [zup_a hc]; rw [zup_a hc]
                    · rw [es]; rw [zup_i (fun q => hj 0 (by decide) (by decide) (q.trans (z0a _)))]; rw [zup_i (fun q => hj 2 (by decide) (by decide) q)]; rw [zup_i (fun q => hj 1 (by decide) (by decide) q)]
                    · have hl : mLv sg3 ot k = true := by unfold mLv; exact decide_eq_true (by lia)
                      rw [es, up_sg]; unfold mGs; rw [if_pos hl]
                · exact zmu_up (by lia)
              · skip
                refine zG_run bkMo_takeOut_179 (lv' := [(5, .int (803 + 9 * k)), (0, .ref 393), (1, .int p), (2, .int q), (3, .int ot), (4, .int k)]) (st' := []) (h' := zN (zup (zup (zup sg3 395 ((803 + 9 * k) + 1) (pBk (sg3 395 ((803 + 9 * k) + 1)) p q)) 395 ((803 + 9 * k) + 2) (pBk ((zup sg3 395 ((803 + 9 * k) + 1) (pBk (sg3 395 ((803 + 9 * k) + 1)) p q)) 395 ((803 + 9 * k) + 2)) p q)) 395 (803 + 9 * k) 1)) (Ps := [zIn (zN (zup (zup sg3 395 ((803 + 9 * k) + 1) (pBk (sg3 395 ((803 + 9 * k) + 1)) p q)) 395 ((803 + 9 * k) + 2) (pBk ((zup sg3 395 ((803 + 9 * k) + 1) (pBk (sg3 395 ((803 + 9 * k) + 1)) p q)) 395 ((803 + 9 * k) + 2)) p q))) 395 0 (803 + 9 * k)]) rfl (zA (zin_395 (i := 803 + 9 * k) (by lia) (by lia)) trivial) ?_
                have es : zup (zup (zup sg3 395 ((803 + 9 * k) + 1) (pBk (sg3 395 ((803 + 9 * k) + 1)) p q)) 395 ((803 + 9 * k) + 2) (pBk ((zup sg3 395 ((803 + 9 * k) + 1) (pBk (sg3 395 ((803 + 9 * k) + 1)) p q)) 395 ((803 + 9 * k) + 2)) p q)) 395 (803 + 9 * k) 1 = zup (zup (zup sg3 395 (803 + 9 * k + 1) (pBk (sg3 395 (803 + 9 * k + 1)) p q)) 395 (803 + 9 * k + 2) (pBk (sg3 395 (803 + 9 * k + 2)) p q)) 395 (803 + 9 * k) (if pBk (sg3 395 (803 + 9 * k + 1)) p q < pBk (sg3 395 (803 + 9 * k + 2)) p q then 1 else 0) := by
                  simp only [zup_o (g := 1) (f := 2) (by decide), zup_o (g := 2) (f := 1) (by decide), zup_s] at c13 ⊢
                  rw [if_pos (by lia)]
                refine zG_run bkMo_takeOut_185 (lv' := [(4, .int (k + 1)), (5, .int (803 + 9 * k)), (0, .ref 393), (1, .int p), (2, .int q), (3, .int ot)]) (st' := []) (h' := zN (zup (zup (zup sg3 395 ((803 + 9 * k) + 1) (pBk (sg3 395 ((803 + 9 * k) + 1)) p q)) 395 ((803 + 9 * k) + 2) (pBk ((zup sg3 395 ((803 + 9 * k) + 1) (pBk (sg3 395 ((803 + 9 * k) + 1)) p q)) 395 ((803 + 9 * k) + 2)) p q)) 395 (803 + 9 * k) 1)) (Ps := []) rfl trivial ?_
                refine zG_pick (lv' := [(0, .ref 393), (1, .int p), (2, .int q), (3, .int ot), (4, .int (k + 1))]) [2, 3, 4, 5, 0] rfl ?_
                refine ihm (k + 1) (zup (zup (zup sg3 395 ((803 + 9 * k) + 1) (pBk (sg3 395 ((803 + 9 * k) + 1)) p q)) 395 ((803 + 9 * k) + 2) (pBk ((zup sg3 395 ((803 + 9 * k) + 1) (pBk (sg3 395 ((803 + 9 * k) + 1)) p q)) 395 ((803 + 9 * k) + 2)) p q)) 395 (803 + 9 * k) 1) ?_ ?_
                · refine ⟨?_, ?_, ?_⟩
                  · lia
                  · lia
                  · refine iRs_s (loc_mGs p q ot) mi m0 (by lia) (fun c j hc => ?_) (fun j hj => ?_) (fun f f0 f1 => ?_)
                    · rw [es]; rw [zup_a hc]; rw [zup_a hc]; rw [zup_a hc]
                    · rw [es]; rw [zup_i (fun q => hj 0 (by decide) (by decide) (q.trans (z0a _)))]; rw [zup_i (fun q => hj 2 (by decide) (by decide) q)]; rw [zup_i (fun q => hj 1 (by decide) (by decide) q)]
                    · have hl : mLv sg3 ot k = true := by unfold mLv; exact decide_eq_true (by lia)
                      rw [es, up_sg]; unfold mGs; rw [if_pos hl]
                · exact zmu_up (by lia)
            · skip
              refine zb_ifne (tgt := 185) bkMo_takeOut_96 bdMo_takeOut_103 (by decide) (lv' := [(5, .int (803 + 9 * k)), (0, .ref 393), (1, .int p), (2, .int q), (3, .int ot), (4, .int k)]) (st' := []) (h' := zN sg3) (x := sg3 402 k) (Ps := [zOb (zN sg3) 393 10 ∧ (zN sg3).2.2 393 13 = true, zIn (zN sg3) 402 2 k]) rfl (zA ⟨zob_393, rfl⟩ (zA (zin_402 (i := k) (by lia) (by lia)) trivial)) (fun c14 => ?_) (fun c14 => ?_)
              · skip
                refine zG_run bkMo_takeOut_185 (lv' := [(4, .int (k + 1)), (5, .int (803 + 9 * k)), (0, .ref 393), (1, .int p), (2, .int q), (3, .int ot)]) (st' := []) (h' := zN sg3) (Ps := []) rfl trivial ?_
                refine zG_pick (lv' := [(0, .ref 393), (1, .int p), (2, .int q), (3, .int ot), (4, .int (k + 1))]) [2, 3, 4, 5, 0] rfl ?_
                refine ihm (k + 1) sg3 ?_ ?_
                · refine ⟨?_, ?_, ?_⟩
                  · lia
                  · lia
                  · refine iRs_s (loc_mGs p q ot) mi m0 (by lia) (fun _ _ _ => rfl) (fun _ _ => rfl) (fun f f0 f1 => ?_)
                    have hl : mLv sg3 ot k = false := by unfold mLv; exact decide_eq_false (by lia)
                    unfold mGs; simp [hl]
                · exact zmu_up (by lia)
              · skip
                refine zG_run bkMo_takeOut_106 (lv' := [(5, .int (803 + 9 * k)), (0, .ref 393), (1, .int p), (2, .int q), (3, .int ot), (4, .int k)]) (st' := [.int q, .int p, .int (sg3 395 ((803 + 9 * k) + 1)), .int ((803 + 9 * k) + 1), .ref 395]) (h' := zN sg3) (Ps := [zOb (zN sg3) 393 10 ∧ (zN sg3).2.2 393 3 = true, zOb (zN sg3) 393 10 ∧ (zN sg3).2.2 393 3 = true, zInL (zN sg3) 395 ((803 + 9 * k) + 1)]) rfl (zA ⟨zob_393, rfl⟩ (zA ⟨zob_393, rfl⟩ (zA (zinL_395 (i := (803 + 9 * k) + 1) (by lia) (by lia)) trivial))) ?_
                refine zG_calls (As := [.int (sg3 395 ((803 + 9 * k) + 1)), .int p, .int q]) (rest := [.int ((803 + 9 * k) + 1), .ref 395]) (N2 := 411) bdMo_takeOut_125 okMo_backward lk10_109 (And.intro (by decide) (by decide)) rfl rfl (Nat.le_of_ble_eq_true rfl) (Nat.le_of_ble_eq_true rfl) (Nat.le_refl 411) (Nat.le_refl 411) cMo_backward ?_
                rintro rr h' ⟨rfl, rfl⟩ -
                refine zG_run bkMo_takeOut_128 (lv' := [(5, .int (803 + 9 * k)), (0, .ref 393), (1, .int p), (2, .int q), (3, .int ot), (4, .int k)]) (st' := [.int q, .int p, .int ((zup sg3 395 ((803 + 9 * k) + 1) (pBk (sg3 395 ((803 + 9 * k) + 1)) p q)) 395 ((803 + 9 * k) + 2)), .int ((803 + 9 * k) + 2), .ref 395]) (h' := zN (zup sg3 395 ((803 + 9 * k) + 1) (pBk (sg3 395 ((803 + 9 * k) + 1)) p q))) (Ps := [zIn (zN sg3) 395 0 ((803 + 9 * k) + 1), zOb (zN (zup sg3 395 ((803 + 9 * k) + 1) (pBk (sg3 395 ((803 + 9 * k) + 1)) p q))) 393 10 ∧ (zN (zup sg3 395 ((803 + 9 * k) + 1) (pBk (sg3 395 ((803 + 9 * k) + 1)) p q))).2.2 393 3 = true, zOb (zN (zup sg3 395 ((803 + 9 * k) + 1) (pBk (sg3 395 ((803 + 9 * k) + 1)) p q))) 393 10 ∧ (zN (zup sg3 395 ((803 + 9 * k) + 1) (pBk (sg3 395 ((803 + 9 * k) + 1)) p q))).2.2 393 3 = true, zInL (zN (zup sg3 395 ((803 + 9 * k) + 1) (pBk (sg3 395 ((803 + 9 * k) + 1)) p q))) 395 ((803 + 9 * k) + 2)]) rfl (zA (zin_395 (i := (803 + 9 * k) + 1) (by lia) (by lia)) (zA ⟨zob_393, rfl⟩ (zA ⟨zob_393, rfl⟩ (zA (zinL_395 (i := (803 + 9 * k) + 2) (by lia) (by lia)) trivial)))) ?_
                refine zG_calls (As := [.int ((zup sg3 395 ((803 + 9 * k) + 1) (pBk (sg3 395 ((803 + 9 * k) + 1)) p q)) 395 ((803 + 9 * k) + 2)), .int p, .int q]) (rest := [.int ((803 + 9 * k) + 2), .ref 395]) (N2 := 411) bdMo_takeOut_148 okMo_backward lk10_109 (And.intro (by decide) (by decide)) rfl rfl (Nat.le_of_ble_eq_true rfl) (Nat.le_of_ble_eq_true rfl) (Nat.le_refl 411) (Nat.le_refl 411) cMo_backward ?_
                rintro rr h' ⟨rfl, rfl⟩ -
                refine zb_icge (tgt := 183) bkMo_takeOut_151 bdMo_takeOut_176 (by decide) (lv' := [(5, .int (803 + 9 * k)), (0, .ref 393), (1, .int p), (2, .int q), (3, .int ot), (4, .int k)]) (st' := [.int (803 + 9 * k), .ref 395]) (h' := zN (zup (zup sg3 395 ((803 + 9 * k) + 1) (pBk (sg3 395 ((803 + 9 * k) + 1)) p q)) 395 ((803 + 9 * k) + 2) (pBk ((zup sg3 395 ((803 + 9 * k) + 1) (pBk (sg3 395 ((803 + 9 * k) + 1)) p q)) 395 ((803 + 9 * k) + 2)) p q))) (x := (zup (zup sg3 395 ((803 + 9 * k) + 1) (pBk (sg3 395 ((803 + 9 * k) + 1)) p q)) 395 ((803 + 9 * k) + 2) (pBk ((zup sg3 395 ((803 + 9 * k) + 1) (pBk (sg3 395 ((803 + 9 * k) + 1)) p q)) 395 ((803 + 9 * k) + 2)) p q)) 395 ((803 + 9 * k) + 1)) (y := (zup (zup sg3 395 ((803 + 9 * k) + 1) (pBk (sg3 395 ((803 + 9 * k) + 1)) p q)) 395 ((803 + 9 * k) + 2) (pBk ((zup sg3 395 ((803 + 9 * k) + 1) (pBk (sg3 395 ((803 + 9 * k) + 1)) p q)) 395 ((803 + 9 * k) + 2)) p q)) 395 ((803 + 9 * k) + 2)) (Ps := [zIn (zN (zup sg3 395 ((803 + 9 * k) + 1) (pBk (sg3 395 ((803 + 9 * k) + 1)) p q))) 395 0 ((803 + 9 * k) + 2), zOb (zN (zup (zup sg3 395 ((803 + 9 * k) + 1) (pBk (sg3 395 ((803 + 9 * k) + 1)) p q)) 395 ((803 + 9 * k) + 2) (pBk ((zup sg3 395 ((803 + 9 * k) + 1) (pBk (sg3 395 ((803 + 9 * k) + 1)) p q)) 395 ((803 + 9 * k) + 2)) p q))) 393 10 ∧ (zN (zup (zup sg3 395 ((803 + 9 * k) + 1) (pBk (sg3 395 ((803 + 9 * k) + 1)) p q)) 395 ((803 + 9 * k) + 2) (pBk ((zup sg3 395 ((803 + 9 * k) + 1) (pBk (sg3 395 ((803 + 9 * k) + 1)) p q)) 395 ((803 + 9 * k) + 2)) p q))).2.2 393 3 = true, zOb (zN (zup (zup sg3 395 ((803 + 9 * k) + 1) (pBk (sg3 395 ((803 + 9 * k) + 1)) p q)) 395 ((803 + 9 * k) + 2) (pBk ((zup sg3 395 ((803 + 9 * k) + 1) (pBk (sg3 395 ((803 + 9 * k) + 1)) p q)) 395 ((803 + 9 * k) + 2)) p q))) 393 10 ∧ (zN (zup (zup sg3 395 ((803 + 9 * k) + 1) (pBk (sg3 395 ((803 + 9 * k) + 1)) p q)) 395 ((803 + 9 * k) + 2) (pBk ((zup sg3 395 ((803 + 9 * k) + 1) (pBk (sg3 395 ((803 + 9 * k) + 1)) p q)) 395 ((803 + 9 * k) + 2)) p q))).2.2 393 3 = true, zInL (zN (zup (zup sg3 395 ((803 + 9 * k) + 1) (pBk (sg3 395 ((803 + 9 * k) + 1)) p q)) 395 ((803 + 9 * k) + 2) (pBk ((zup sg3 395 ((803 + 9 * k) + 1) (pBk (sg3 395 ((803 + 9 * k) + 1)) p q)) 395 ((803 + 9 * k) + 2)) p q))) 395 ((803 + 9 * k) + 1), zOb (zN (zup (zup sg3 395 ((803 + 9 * k) + 1) (pBk (sg3 395 ((803 + 9 * k) + 1)) p q)) 395 ((803 + 9 * k) + 2) (pBk ((zup sg3 395 ((803 + 9 * k) + 1) (pBk (sg3 395 ((803 + 9 * k) + 1)) p q)) 395 ((803 + 9 * k) + 2)) p q))) 393 10 ∧ (zN (zup (zup sg3 395 ((803 + 9 * k) + 1) (pBk (sg3 395 ((803 + 9 * k) + 1)) p q)) 395 ((803 + 9 * k) + 2) (pBk ((zup sg3 395 ((803 + 9 * k) + 1) (pBk (sg3 395 ((803 + 9 * k) + 1)) p q)) 395 ((803 + 9 * k) + 2)) p q))).2.2 393 3 = true, zInL (zN (zup (zup sg3 395 ((803 + 9 * k) + 1) (pBk (sg3 395 ((803 + 9 * k) + 1)) p q)) 395 ((803 + 9 * k) + 2) (pBk ((zup sg3 395 ((803 + 9 * k) + 1) (pBk (sg3 395 ((803 + 9 * k) + 1)) p q)) 395 ((803 + 9 * k) + 2)) p q))) 395 ((803 + 9 * k) + 2)]) rfl (zA (zin_395 (i := (803 + 9 * k) + 2) (by lia) (by lia)) (zA ⟨zob_393, rfl⟩ (zA ⟨zob_393, rfl⟩ (zA (zinL_395 (i := (803 + 9 * k) + 1) (by lia) (by lia)) (zA ⟨zob_393, rfl⟩ (zA (zinL_395 (i := (803 + 9 * k) + 2) (by lia) (by lia)) trivial)))))) (fun c15 => ?_) (fun c15 => ?_)
                · skip
                  refine zG_run bkMo_takeOut_183 (lv' := [(5, .int (803 + 9 * k)), (0, .ref 393), (1, .int p), (2, .int q), (3, .int ot), (4, .int k)]) (st' := []) (h' := zN (zup (zup (zup sg3 395 ((803 + 9 * k) + 1) (pBk (sg3 395 ((803 + 9 * k) + 1)) p q)) 395 ((803 + 9 * k) + 2) (pBk ((zup sg3 395 ((803 + 9 * k) + 1) (pBk (sg3 395 ((803 + 9 * k) + 1)) p q)) 395 ((803 + 9 * k) + 2)) p q)) 395 (803 + 9 * k) 0)) (Ps := [zIn (zN (zup (zup sg3 395 ((803 + 9 * k) + 1) (pBk (sg3 395 ((803 + 9 * k) + 1)) p q)) 395 ((803 + 9 * k) + 2) (pBk ((zup sg3 395 ((803 + 9 * k) + 1) (pBk (sg3 395 ((803 + 9 * k) + 1)) p q)) 395 ((803 + 9 * k) + 2)) p q))) 395 0 (803 + 9 * k)]) rfl (zA (zin_395 (i := 803 + 9 * k) (by lia) (by lia)) trivial) ?_
                  have es : zup (zup (zup sg3 395 ((803 + 9 * k) + 1) (pBk (sg3 395 ((803 + 9 * k) + 1)) p q)) 395 ((803 + 9 * k) + 2) (pBk ((zup sg3 395 ((803 + 9 * k) + 1) (pBk (sg3 395 ((803 + 9 * k) + 1)) p q)) 395 ((803 + 9 * k) + 2)) p q)) 395 (803 + 9 * k) 0 = zup (zup (zup sg3 395 (803 + 9 * k + 1) (pBk (sg3 395 (803 + 9 * k + 1)) p q)) 395 (803 + 9 * k + 2) (pBk (sg3 395 (803 + 9 * k + 2)) p q)) 395 (803 + 9 * k) (if pBk (sg3 395 (803 + 9 * k + 1)) p q < pBk (sg3 395 (803 + 9 * k + 2)) p q then 1 else 0) := by
                    simp only [zup_o (g := 1) (f := 2) (by decide), zup_o (g := 2) (f := 1) (by decide), zup_s] at c15 ⊢
                    rw [if_neg (by lia)]
                  refine zG_run bkMo_takeOut_185 (lv' := [(4, .int (k + 1)), (5, .int (803 + 9 * k)), (0, .ref 393), (1, .int p), (2, .int q), (3, .int ot)]) (st' := []) (h' := zN (zup (zup (zup sg3 395 ((803 + 9 * k) + 1) (pBk (sg3 395 ((803 + 9 * k) + 1)) p q)) 395 ((803 + 9 * k) + 2) (pBk ((zup sg3 395 ((803 + 9 * k) + 1) (pBk (sg3 395 ((803 + 9 * k) + 1)) p q)) 395 ((803 + 9 * k) + 2)) p q)) 395 (803 + 9 * k) 0)) (Ps := []) rfl trivial ?_
                  refine zG_pick (lv' := [(0, .ref 393), (1, .int p), (2, .int q), (3, .int ot), (4, .int (k + 1))]) [2, 3, 4, 5, 0] rfl ?_
                  refine ihm (k + 1) (zup (zup (zup sg3 395 ((803 + 9 * k) + 1) (pBk (sg3 395 ((803 + 9 * k) + 1)) p q)) 395 ((803 + 9 * k) + 2) (pBk ((zup sg3 395 ((803 + 9 * k) + 1) (pBk (sg3 395 ((803 + 9 * k) + 1)) p q)) 395 ((803 + 9 * k) + 2)) p q)) 395 (803 + 9 * k) 0) ?_ ?_
                  · refine ⟨?_, ?_, ?_⟩
                    · lia
                    · lia
                    · refine iRs_s (loc_mGs p q ot) mi m0 (by lia) (fun c j hc => ?_) (fun j hj => ?_) (fun f f0 f1 => ?_)
                      · rw [es]; rw [zup_a hc]; rw [zup_a hc]; rw [zup_a hc]
                      · rw [es]; rw [zup_i (fun q => hj 0 (by decide) (by decide) (q.trans (z0a _)))]; rw [zup_i (fun q => hj 2 (by decide) (by decide) q)]; rw [zup_i (fun q => hj 1 (by decide) (by decide) q)]
                      · have hl : mLv sg3 ot k = true := by unfold mLv; exact decide_eq_true (by lia)
                        rw [es, up_sg]; unfold mGs; rw [if_pos hl]
                  · exact zmu_up (by lia)
                · skip
                  refine zG_run bkMo_takeOut_179 (lv' := [(5, .int (803 + 9 * k)), (0, .ref 393), (1, .int p), (2, .int q), (3, .int ot), (4, .int k)]) (st' := []) (h' := zN (zup (zup (zup sg3 395 ((803 + 9 * k) + 1) (pBk (sg3 395 ((803 + 9 * k) + 1)) p q)) 395 ((803 + 9 * k) + 2) (pBk ((zup sg3 395 ((803 + 9 * k) + 1) (pBk (sg3 395 ((803 + 9 * k) + 1)) p q)) 395 ((803 + 9 * k) + 2)) p q)) 395 (803 + 9 * k) 1)) (Ps := [zIn (zN (zup (zup sg3 395 ((803 + 9 * k) + 1) (pBk (sg3 395 ((803 + 9 * k) + 1)) p q)) 395 ((803 + 9 * k) + 2) (pBk ((zup sg3 395 ((803 + 9 * k) + 1) (pBk (sg3 395 ((803 + 9 * k) + 1)) p q)) 395 ((803 + 9 * k) + 2)) p q))) 395 0 (803 + 9 * k)]) rfl (zA (zin_395 (i := 803 + 9 * k) (by lia) (by lia)) trivial) ?_
                  have es : zup (zup (zup sg3 395 ((803 + 9 * k) + 1) (pBk (sg3 395 ((803 + 9 * k) + 1)) p q)) 395 ((803 + 9 * k) + 2) (pBk ((zup sg3 395 ((803 + 9 * k) + 1) (pBk (sg3 395 ((803 + 9 * k) + 1)) p q)) 395 ((803 + 9 * k) + 2)) p q)) 395 (803 + 9 * k) 1 = zup (zup (zup sg3 395 (803 + 9 * k + 1) (pBk (sg3 395 (803 + 9 * k + 1)) p q)) 395 (803 + 9 * k + 2) (pBk (sg3 395 (803 + 9 * k + 2)) p q)) 395 (803 + 9 * k) (if pBk (sg3 395 (803 + 9 * k + 1)) p q < pBk (sg3 395 (803 + 9 * k + 2)) p q then 1 else 0) := by
                    simp only [zup_o (g := 1) (f := 2) (by decide), zup_o (g := 2) (f := 1) (by decide), zup_s] at c15 ⊢
                    rw [if_pos (by lia)]
                  refine zG_run bkMo_takeOut_185 (lv' := [(4, .int (k + 1)), (5, .int (803 + 9 * k)), (0, .ref 393), (1, .int p), (2, .int q), (3, .int ot)]) (st' := []) (h' := zN (zup (zup (zup sg3 395 ((803 + 9 * k) + 1) (pBk (sg3 395 ((803 + 9 * k) + 1)) p q)) 395 ((803 + 9 * k) + 2) (pBk ((zup sg3 395 ((803 + 9 * k) + 1) (pBk (sg3 395 ((803 + 9 * k) + 1)) p q)) 395 ((803 + 9 * k) + 2)) p q)) 395 (803 + 9 * k) 1)) (Ps := []) rfl trivial ?_
                  refine zG_pick (lv' := [(0, .ref 393), (1, .int p), (2, .int q), (3, .int ot), (4, .int (k + 1))]) [2, 3, 4, 5, 0] rfl ?_
                  refine ihm (k + 1) (zup (zup (zup sg3 395 ((803 + 9 * k) + 1) (pBk (sg3 395 ((803 + 9 * k) + 1)) p q)) 395 ((803 + 9 * k) + 2) (pBk ((zup sg3 395 ((803 + 9 * k) + 1) (pBk (sg3 395 ((803 + 9 * k) + 1)) p q)) 395 ((803 + 9 * k) + 2)) p q)) 395 (803 + 9 * k) 1) ?_ ?_
                  · refine ⟨?_, ?_, ?_⟩
                    · lia
                    · lia
                    · refine iRs_s (loc_mGs p q ot) mi m0 (by lia) (fun c j hc => ?_) (fun j hj => ?_) (fun f f0 f1 => ?_)
                      · rw [es]; rw [zup_a hc]; rw [zup_a hc]; rw [zup_a hc]
                      · rw [es]; rw [zup_i (fun q => hj 0 (by decide) (by decide) (q.trans (z0a _)))]; rw [zup_i (fun q => hj 2 (by decide) (by decide) q)]; rw [zup_i (fun q => hj 1 (by decide) (by decide) q)]
                      · have hl : mLv sg3 ot k = true := by unfold mLv; exact decide_eq_true (by lia)
                        rw [es, up_sg]; unfold mGs; rw [if_pos hl]
                  · exact zmu_up (by lia)
      · refine ⟨?_, ?_, ?_⟩
        · lia
        · lia
        · exact iRs_0
    · skip
      refine zG_run bkMo_takeOut_18 (lv' := [(4, .int (k + 1)), (0, .ref 393), (1, .int p), (2, .int q), (3, .int ot)]) (st' := []) (h' := zN (zup sg1 395 ((3 + k) - (4 * (q - p))) (sg1 395 (3 + k)))) (Ps := [zOb (zN sg1) 393 10 ∧ (zN sg1).2.2 393 3 = true, zOb (zN sg1) 393 10 ∧ (zN sg1).2.2 393 3 = true, zInL (zN sg1) 395 (3 + k), zIn (zN sg1) 395 0 ((3 + k) - (4 * (q - p)))]) rfl (zA ⟨zob_393, rfl⟩ (zA ⟨zob_393, rfl⟩ (zA (zinL_395 (i := 3 + k) (by lia) (by lia)) (zA (zin_395 (i := (3 + k) - (4 * (q - p))) (by lia) (by lia)) trivial)))) ?_
      refine zG_pick (lv' := [(0, .ref 393), (1, .int p), (2, .int q), (3, .int ot), (4, .int (k + 1))]) [1, 2, 3, 4, 0] rfl ?_
      refine ih (k + 1) (zup sg1 395 ((3 + k) - (4 * (q - p))) (sg1 395 (3 + k))) ?_ ?_
      · refine ⟨?_, ?_, ?_, ?_⟩
        · lia
        · lia
        · intro c j h; rw [zup_a h]; exact kf c j h
        · intro j; rw [hd, zup_e]; simp only [true_and]; exact tk_shift (N := 4 * sg 395 0) (P := 4 * p) (D := 4 * d) (by lia) (by lia) (by lia) (by lia) (by lia) (by lia) (by lia) kz j (by lia)
      · exact zmu_up (by lia)
  · refine ⟨?_, ?_, ?_, ?_⟩
    · lia
    · lia
    · intro c j _; rfl
    · intro j; rw [if_neg (by lia)]
theorem cMo_takeOut {sg : zSig} {p q ot : Int32} (n0 : 0 ≤ sg 395 0) (g0 : 0 ≤ sg 395 1) (g1 : sg 395 1 ≤ 16) (a0 : 0 ≤ sg 395 2) (a1 : sg 395 2 ≤ 12) (p0 : 0 ≤ p) (p1 : p < q) (q1 : q ≤ sg 395 0) (n2 : sg 395 0 ≤ 200) : zG mMo_takeOut 411 (fun rr h' => ∃ sg', rr = none ∧ h' = zN sg' ∧ mTk sg sg' p q ot) 0 [(0, .ref 393), (1, .int p), (2, .int q), (3, .int ot)] [] (zN sg) := lMo_takeOut n0 g0 g1 a0 a1 p0 p1 q1 n2 (fun _ _ q => q)
