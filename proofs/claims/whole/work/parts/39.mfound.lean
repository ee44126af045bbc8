/-! the reference: found, crossed, followed: printed by wip/whole/p39.py -/
theorem bkMo_isWithin_0 : zBk mMo_isWithin 0 [(1, 0, 1, 0, 0), (5, 10, 3, 2, 3), (1, 1, 0, 0, 0), (0, 0, 0, 0, 1), (4, 0, 0, 0, 0), (7, 0, 0, 0, 0), (1, 0, 1, 0, 0), (5, 10, 3, 2, 3), (1, 2, 0, 0, 0), (0, 0, 0, 0, 1), (4, 0, 0, 0, 0), (7, 0, 0, 0, 0)] = some 16 := by decide +kernel
theorem bkMo_isWithin_42 : zBk mMo_isWithin 42 [(0, 0, 0, 0, 0)] = some 43 := by decide +kernel
theorem bkMo_isWithin_19 : zBk mMo_isWithin 19 [(1, 0, 1, 0, 0), (5, 10, 3, 2, 3), (1, 1, 0, 0, 0), (0, 0, 0, 0, 2), (4, 0, 0, 0, 0), (7, 0, 0, 0, 0), (1, 0, 1, 0, 0), (5, 10, 3, 2, 3), (1, 2, 0, 0, 0), (0, 0, 0, 0, 2), (4, 0, 0, 0, 0), (7, 0, 0, 0, 0)] = some 35 := by decide +kernel
theorem bkMo_isWithin_38 : zBk mMo_isWithin 38 [(0, 0, 0, 0, 1), (22, 43, 0, 0, 0)] = some 43 := by decide +kernel
theorem bdMo_isWithin_16 : decode mMo_isWithin.2.2.1 16 = .ok (.if_icmp .lt 26, 3) := by decide +kernel
theorem bdMo_isWithin_35 : decode mMo_isWithin.2.2.1 35 = .ok (.if_icmp .gt 7, 3) := by decide +kernel
theorem bdMo_isWithin_43 : decode mMo_isWithin.2.2.1 43 = .ok (.ireturn, 1) := by decide +kernel
theorem cMo_isWithin {sg : zSig} {a b : Int32} (a0 : 0 ≤ a) (a1 : a ≤ 938) (b0 : 0 ≤ b) (b1 : b ≤ 938) : zG mMo_isWithin 411 (fun rr h' => rr = some (.int (if sg 395 (b + 1) ≤ sg 395 (a + 1) ∧ sg 395 (a + 2) ≤ sg 395 (b + 2) then 1 else 0)) ∧ h' = zN sg) 0 [(0, .ref 393), (1, .int a), (2, .int b)] [] (zN sg) := by
  refine zb_iclt (tgt := 42) bkMo_isWithin_0 bdMo_isWithin_16 (by decide) (lv' := [(0, .ref 393), (1, .int a), (2, .int b)]) (st' := []) (h' := zN sg) (x := sg 395 (a + 1)) (y := sg 395 (b + 1)) (Ps := [zOb (zN sg) 393 10 ∧ (zN sg).2.2 393 3 = true, zInL (zN sg) 395 (a + 1), zOb (zN sg) 393 10 ∧ (zN sg).2.2 393 3 = true, zInL (zN sg) 395 (b + 1)]) rfl (zA ⟨zob_393, rfl⟩ (zA (zinL_395 (i := a + 1) (by lia) (by lia)) (zA ⟨zob_393, rfl⟩ (zA (zinL_395 (i := b + 1) (by lia) (by lia)) trivial)))) (fun c1 => ?_) (fun c1 => ?_)
  · skip
    refine zb_zret bkMo_isWithin_42 bdMo_isWithin_43 rfl (x := 0) (h' := zN sg) (Ps := []) rfl trivial rfl (Or.inl rfl) ?_
    exact ⟨by grind, rfl⟩
  · skip
    refine zb_icgt (tgt := 42) bkMo_isWithin_19 bdMo_isWithin_35 (by decide) (lv' := [(0, .ref 393), (1, .int a), (2, .int b)]) (st' := []) (h' := zN sg) (x := sg 395 (a + 2)) (y := sg 395 (b + 2)) (Ps := [zOb (zN sg) 393 10 ∧ (zN sg).2.2 393 3 = true, zInL (zN sg) 395 (a + 2), zOb (zN sg) 393 10 ∧ (zN sg).2.2 393 3 = true, zInL (zN sg) 395 (b + 2)]) rfl (zA ⟨zob_393, rfl⟩ (zA (zinL_395 (i := a + 2) (by lia) (by lia)) (zA ⟨zob_393, rfl⟩ (zA (zinL_395 (i := b + 2) (by lia) (by lia)) trivial)))) (fun c2 => ?_) (fun c2 => ?_)
    · skip
      refine zb_zret bkMo_isWithin_42 bdMo_isWithin_43 rfl (x := 0) (h' := zN sg) (Ps := []) rfl trivial rfl (Or.inl rfl) ?_
      exact ⟨by grind, rfl⟩
    · skip
      refine zb_zret bkMo_isWithin_38 bdMo_isWithin_43 rfl (x := 1) (h' := zN sg) (Ps := []) rfl trivial rfl (Or.inr rfl) ?_
      exact ⟨by grind, rfl⟩
def mcrs (sg : zSig) (a b : Int32) : Bool := decide ((sg 395 (803 + 9 * a) = 1 ∧ sg 395 (803 + 9 * b) = 1) ∧ (sg 395 (803 + 9 * a + 1) < sg 395 (803 + 9 * b + 2) ∧ sg 395 (803 + 9 * b + 1) < sg 395 (803 + 9 * a + 2)) ∧ ¬ (sg 395 (803 + 9 * a + 1) ≤ sg 395 (803 + 9 * b + 1) ∧ sg 395 (803 + 9 * b + 2) ≤ sg 395 (803 + 9 * a + 2)) ∧ ¬ (sg 395 (803 + 9 * b + 1) ≤ sg 395 (803 + 9 * a + 1) ∧ sg 395 (803 + 9 * a + 2) ≤ sg 395 (803 + 9 * b + 2)))
def mcr1 (sg : zSig) (a b p : Int32) : Int32 := if p = -1 ∧ a < b ∧ mcrs sg a b = true then 100 * a + b else p
def mcr2 (sg : zSig) (a p : Int32) : Int32 := zit (mcr1 sg a) p (sg 395 1)
def mCr (sg : zSig) : Int32 := zit (mcr2 sg) (-1) (sg 395 1)
theorem mcr1_st {sg : zSig} {a b p v : Int32} (h0 : v ≠ -1) (h : p = v) : mcr1 sg a b p = v := by
  unfold mcr1; rw [if_neg (fun q => h0 (h ▸ q.1))]; exact h
theorem bkMo_crossed_5 : zBk mMo_crossed 5 [(0, 0, 0, 0, 0), (2, 1, 0, 0, 0)] = some 7 := by decide +kernel
theorem bkMo_crossed_7 : zBk mMo_crossed 7 [(1, 1, 0, 0, 0), (1, 0, 1, 0, 0), (5, 10, 3, 2, 3), (0, 0, 0, 0, 1), (7, 0, 0, 0, 0)] = some 14 := by decide +kernel
theorem bkMo_crossed_154 : zBk mMo_crossed 154 [(0, 0, 0, 0, -1)] = some 155 := by decide +kernel
theorem bkMo_crossed_17 : zBk mMo_crossed 17 [(1, 1, 0, 0, 0), (0, 0, 0, 0, 1), (4, 0, 0, 0, 0), (2, 2, 0, 0, 0)] = some 21 := by decide +kernel
theorem bkMo_crossed_21 : zBk mMo_crossed 21 [(1, 2, 0, 0, 0), (1, 0, 1, 0, 0), (5, 10, 3, 2, 3), (0, 0, 0, 0, 1), (7, 0, 0, 0, 0)] = some 28 := by decide +kernel
theorem bkMo_crossed_148 : zBk mMo_crossed 148 [(3, 1, 0, 0, 1), (22, 7, 0, 0, 0)] = some 7 := by decide +kernel
theorem bkMo_crossed_31 : zBk mMo_crossed 31 [(1, 1, 0, 0, 0)] = some 32 := by decide +kernel
theorem bkMo_crossed_35 : zBk mMo_crossed 35 [(2, 3, 0, 0, 0), (1, 2, 0, 0, 0)] = some 37 := by decide +kernel
theorem bkMo_crossed_40 : zBk mMo_crossed 40 [(2, 4, 0, 0, 0), (1, 0, 1, 0, 0), (5, 10, 3, 2, 3), (1, 3, 0, 0, 0), (7, 0, 0, 0, 0), (0, 0, 0, 0, 1)] = some 49 := by decide +kernel
theorem bkMo_crossed_107 : zBk mMo_crossed 107 [(0, 0, 0, 0, 0), (2, 5, 0, 0, 0), (1, 5, 0, 0, 0)] = some 112 := by decide +kernel
theorem bkMo_crossed_142 : zBk mMo_crossed 142 [(3, 2, 0, 0, 1), (22, 21, 0, 0, 0)] = some 21 := by decide +kernel
theorem bkMo_crossed_52 : zBk mMo_crossed 52 [(1, 0, 1, 0, 0), (5, 10, 3, 2, 3), (1, 4, 0, 0, 0), (7, 0, 0, 0, 0), (0, 0, 0, 0, 1)] = some 60 := by decide +kernel
theorem bkMo_crossed_63 : zBk mMo_crossed 63 [(1, 0, 1, 0, 0), (5, 10, 3, 2, 3), (1, 3, 0, 0, 0), (0, 0, 0, 0, 1), (4, 0, 0, 0, 0), (7, 0, 0, 0, 0), (1, 0, 1, 0, 0), (5, 10, 3, 2, 3), (1, 4, 0, 0, 0), (0, 0, 0, 0, 2), (4, 0, 0, 0, 0), (7, 0, 0, 0, 0)] = some 80 := by decide +kernel
theorem bkMo_crossed_83 : zBk mMo_crossed 83 [(1, 0, 1, 0, 0), (5, 10, 3, 2, 3), (1, 4, 0, 0, 0), (0, 0, 0, 0, 1), (4, 0, 0, 0, 0), (7, 0, 0, 0, 0), (1, 0, 1, 0, 0), (5, 10, 3, 2, 3), (1, 3, 0, 0, 0), (0, 0, 0, 0, 2), (4, 0, 0, 0, 0), (7, 0, 0, 0, 0)] = some 100 := by decide +kernel
theorem bkMo_crossed_103 : zBk mMo_crossed 103 [(0, 0, 0, 0, 1), (22, 108, 0, 0, 0), (2, 5, 0, 0, 0), (1, 5, 0, 0, 0)] = some 112 := by decide +kernel
theorem bkMo_crossed_115 : zBk mMo_crossed 115 [(1, 0, 1, 0, 0), (1, 3, 0, 0, 0), (1, 4, 0, 0, 0)] = some 119 := by decide +kernel
theorem bkMo_crossed_122 : zBk mMo_crossed 122 [] = some 122 := by decide +kernel
theorem bkMo_crossed_125 : zBk mMo_crossed 125 [(1, 0, 1, 0, 0), (1, 4, 0, 0, 0), (1, 3, 0, 0, 0)] = some 129 := by decide +kernel
theorem bkMo_crossed_132 : zBk mMo_crossed 132 [] = some 132 := by decide +kernel
theorem bkMo_crossed_135 : zBk mMo_crossed 135 [(0, 0, 0, 0, 100), (1, 1, 0, 0, 0), (4, 2, 0, 0, 0), (1, 2, 0, 0, 0), (4, 0, 0, 0, 0)] = some 141 := by decide +kernel
theorem bkMo_crossed_0 : zBk mMo_crossed 0 [(1, 0, 1, 0, 0), (0, 0, 0, 0, 0), (6, 10, 0, 0, 0)] = some 5 := by decide +kernel
theorem bdMo_crossed_14 : decode mMo_crossed.2.2.1 14 = .ok (.if_icmp .ge 140, 3) := by decide +kernel
theorem bdMo_crossed_28 : decode mMo_crossed.2.2.1 28 = .ok (.if_icmp .ge 120, 3) := by decide +kernel
theorem bdMo_crossed_32 : decode mMo_crossed.2.2.1 32 = .ok (.invokestatic 91, 3) := by decide +kernel
theorem bdMo_crossed_37 : decode mMo_crossed.2.2.1 37 = .ok (.invokestatic 91, 3) := by decide +kernel
theorem bdMo_crossed_49 : decode mMo_crossed.2.2.1 49 = .ok (.if_icmp .ne 58, 3) := by decide +kernel
theorem bdMo_crossed_60 : decode mMo_crossed.2.2.1 60 = .ok (.if_icmp .ne 47, 3) := by decide +kernel
theorem bdMo_crossed_80 : decode mMo_crossed.2.2.1 80 = .ok (.if_icmp .ge 27, 3) := by decide +kernel
theorem bdMo_crossed_100 : decode mMo_crossed.2.2.1 100 = .ok (.if_icmp .ge 7, 3) := by decide +kernel
theorem bdMo_crossed_112 : decode mMo_crossed.2.2.1 112 = .ok (.ifCond .eq 30, 3) := by decide +kernel
theorem bdMo_crossed_119 : decode mMo_crossed.2.2.1 119 = .ok (.invokevirtual 302, 3) := by decide +kernel
theorem bdMo_crossed_122 : decode mMo_crossed.2.2.1 122 = .ok (.ifCond .ne 20, 3) := by decide +kernel
theorem bdMo_crossed_129 : decode mMo_crossed.2.2.1 129 = .ok (.invokevirtual 302, 3) := by decide +kernel
theorem bdMo_crossed_132 : decode mMo_crossed.2.2.1 132 = .ok (.ifCond .ne 10, 3) := by decide +kernel
theorem bdMo_crossed_141 : decode mMo_crossed.2.2.1 141 = .ok (.ireturn, 1) := by decide +kernel
theorem bdMo_crossed_155 : decode mMo_crossed.2.2.1 155 = .ok (.ireturn, 1) := by decide +kernel
theorem lMo_crossed {sg : zSig}  (n0 : 0 ≤ sg 395 0) (n2 : sg 395 0 ≤ 200) (g0 : 0 ≤ sg 395 1) (g1 : sg 395 1 ≤ 16) {Q : Option Value → zHp → Prop} (hq : ∀ rr h', (rr = some (.int (mCr sg)) ∧ h' = zN sg) → Q rr h') : zG mMo_crossed 411 Q 5 [(0, .ref 393)] [] (zN sg) := by
  refine zG_run bkMo_crossed_5 (lv' := [(1, .int 0), (0, .ref 393)]) (st' := []) (h' := zN sg) (Ps := []) rfl trivial ?_
  refine zG_pick (lv' := [(0, .ref 393), (1, .int 0)]) [1, 0] rfl ?_
  refine zlp1 (fun (a : Int32) => zG mMo_crossed 411 Q 7 [(0, .ref 393), (1, .int a)] [] (zN sg)) (fun (a : Int32) => (0 ≤ a) ∧ (a ≤ sg 395 1) ∧ (zit (mcr2 sg) (-1) a = -1)) (fun (a : Int32) => zmu (sg 395 1) a) ?_ 0 ?_
  · intro a ho iho
    obtain ⟨l0, l1, lz⟩ := ho
    refine zb_icge (tgt := 154) bkMo_crossed_7 bdMo_crossed_14 (by decide) (lv' := [(0, .ref 393), (1, .int a)]) (st' := []) (h' := zN sg) (x := a) (y := sg 395 1) (Ps := [zOb (zN sg) 393 10 ∧ (zN sg).2.2 393 3 = true, zInL (zN sg) 395 1]) rfl (zA ⟨zob_393, rfl⟩ (zA (zinL_395 (i := 1) (by decide) (by decide)) trivial)) (fun c1 => ?_) (fun c1 => ?_)
    · skip
      refine zb_iret bkMo_crossed_154 bdMo_crossed_155 rfl (x := (-1)) (h' := zN sg) (Ps := []) rfl trivial rfl ?_
      refine hq _ _ ?_
      refine ⟨?_, rfl⟩
      unfold mCr; rw [show sg 395 1 = a by lia, lz]
    · skip
      refine zG_run bkMo_crossed_17 (lv' := [(2, .int (a + 1)), (0, .ref 393), (1, .int a)]) (st' := []) (h' := zN sg) (Ps := []) rfl trivial ?_
      refine zG_pick (lv' := [(0, .ref 393), (1, .int a), (2, .int (a + 1))]) [1, 2, 0] rfl ?_
      refine zlp1 (fun (b : Int32) => zG mMo_crossed 411 Q 21 [(0, .ref 393), (1, .int a), (2, .int b)] [] (zN sg)) (fun (b : Int32) => (a < b) ∧ (b ≤ sg 395 1 ∨ (b = a + 1)) ∧ (zit (mcr1 sg a) (-1) b = -1)) (fun (b : Int32) => zmu (sg 395 1) b) ?_ (a + 1) ?_
      · intro b hk ihk
        obtain ⟨k0, k1, kz⟩ := hk
        refine zb_icge (tgt := 148) bkMo_crossed_21 bdMo_crossed_28 (by decide) (lv' := [(0, .ref 393), (1, .int a), (2, .int b)]) (st' := []) (h' := zN sg) (x := b) (y := sg 395 1) (Ps := [zOb (zN sg) 393 10 ∧ (zN sg).2.2 393 3 = true, zInL (zN sg) 395 1]) rfl (zA ⟨zob_393, rfl⟩ (zA (zinL_395 (i := 1) (by decide) (by decide)) trivial)) (fun c2 => ?_) (fun c2 => ?_)
        · skip
          refine zG_run bkMo_crossed_148 (lv' := [(1, .int (a + 1)), (0, .ref 393), (2, .int b)]) (st' := []) (h' := zN sg) (Ps := []) rfl trivial ?_
          refine zG_pick (lv' := [(0, .ref 393), (1, .int (a + 1))]) [1, 0] rfl ?_
          refine iho (a + 1) ?_ ?_
          · refine ⟨?_, ?_, ?_⟩
            · lia
            · lia
            · rw [zit_s _ _ l0 (by lia : a < sg 395 1), lz]; unfold mcr2; rw [show sg 395 1 = b by lia]; exact kz
          · exact zmu_up (by lia)
        · skip
          refine zG_run bkMo_crossed_31 (lv' := [(0, .ref 393), (1, .int a), (2, .int b)]) (st' := [.int a]) (h' := zN sg) (Ps := []) rfl trivial ?_
          refine zG_calls (As := [.int a]) (rest := []) (N2 := 411) bdMo_crossed_32 okMo_spanAt lk10_91 (And.intro (by decide) (by decide)) rfl rfl (Nat.le_of_ble_eq_true rfl) (Nat.le_of_ble_eq_true rfl) (Nat.le_refl 411) (Nat.le_refl 411) cMo_spanAt ?_
          rintro rr h' ⟨rfl, rfl⟩ -
          refine zG_run bkMo_crossed_35 (lv' := [(3, .int (803 + 9 * a)), (0, .ref 393), (1, .int a), (2, .int b)]) (st' := [.int b]) (h' := zN sg) (Ps := []) rfl trivial ?_
          refine zG_calls (As := [.int b]) (rest := []) (N2 := 411) bdMo_crossed_37 okMo_spanAt lk10_91 (And.intro (by decide) (by decide)) rfl rfl (Nat.le_of_ble_eq_true rfl) (Nat.le_of_ble_eq_true rfl) (Nat.le_refl 411) (Nat.le_refl 411) cMo_spanAt ?_
          rintro rr h' ⟨rfl, rfl⟩ -
          refine zb_icne (tgt := 107) bkMo_crossed_40 bdMo_crossed_49 (by decide) (lv' := [(4, .int (803 + 9 * b)), (3, .int (803 + 9 * a)), (0, .ref 393), (1, .int a), (2, .int b)]) (st' := []) (h' := zN sg) (x := sg 395 (803 + 9 * a)) (y := 1) (Ps := [zOb (zN sg) 393 10 ∧ (zN sg).2.2 393 3 = true, zInL (zN sg) 395 (803 + 9 * a)]) rfl (zA ⟨zob_393, rfl⟩ (zA (zinL_395 (i := 803 + 9 * a) (by lia) (by lia)) trivial)) (fun c3 => ?_) (fun c3 => ?_)
          · skip
            refine zb_ifeq (tgt := 142) bkMo_crossed_107 bdMo_crossed_112 (by decide) (lv' := [(5, .int 0), (4, .int (803 + 9 * b)), (3, .int (803 + 9 * a)), (0, .ref 393), (1, .int a), (2, .int b)]) (st' := []) (h' := zN sg) (x := 0) (Ps := []) rfl trivial (fun c4 => ?_) (fun c4 => ?_)
            · skip
              refine zG_run bkMo_crossed_142 (lv' := [(2, .int (b + 1)), (5, .int 0), (4, .int (803 + 9 * b)), (3, .int (803 + 9 * a)), (0, .ref 393), (1, .int a)]) (st' := []) (h' := zN sg) (Ps := []) rfl trivial ?_
              refine zG_pick (lv' := [(0, .ref 393), (1, .int a), (2, .int (b + 1))]) [4, 5, 0] rfl ?_
              refine ihk (b + 1) ?_ ?_
              · refine ⟨?_, ?_, ?_⟩
                · lia
                · exact Or.inl (by lia)
                · rw [zit_s _ _ (by lia : 0 ≤ b) (by lia : b < sg 395 1), kz]; unfold mcr1; rw [if_neg]; unfold mcrs; clear ihk iho hq kz lz; grind
              · exact zmu_up (by lia)
            · exact absurd c4 (by decide)
          · skip
            refine zb_icne (tgt := 107) bkMo_crossed_52 bdMo_crossed_60 (by decide) (lv' := [(4, .int (803 + 9 * b)), (3, .int (803 + 9 * a)), (0, .ref 393), (1, .int a), (2, .int b)]) (st' := []) (h' := zN sg) (x := sg 395 (803 + 9 * b)) (y := 1) (Ps := [zOb (zN sg) 393 10 ∧ (zN sg).2.2 393 3 = true, zInL (zN sg) 395 (803 + 9 * b)]) rfl (zA ⟨zob_393, rfl⟩ (zA (zinL_395 (i := 803 + 9 * b) (by lia) (by lia)) trivial)) (fun c5 => ?_) (fun c5 => ?_)
            · skip
              refine zb_ifeq (tgt := 142) bkMo_crossed_107 bdMo_crossed_112 (by decide) (lv' := [(5, .int 0), (4, .int (803 + 9 * b)), (3, .int (803 + 9 * a)), (0, .ref 393), (1, .int a), (2, .int b)]) (st' := []) (h' := zN sg) (x := 0) (Ps := []) rfl trivial (fun c6 => ?_) (fun c6 => ?_)
              · skip
                refine zG_run bkMo_crossed_142 (lv' := [(2, .int (b + 1)), (5, .int 0), (4, .int (803 + 9 * b)), (3, .int (803 + 9 * a)), (0, .ref 393), (1, .int a)]) (st' := []) (h' := zN sg) (Ps := []) rfl trivial ?_
                refine zG_pick (lv' := [(0, .ref 393), (1, .int a), (2, .int (b + 1))]) [4, 5, 0] rfl ?_
                refine ihk (b + 1) ?_ ?_
                · refine ⟨?_, ?_, ?_⟩
                  · lia
                  · exact Or.inl (by lia)
                  · rw [zit_s _ _ (by lia : 0 ≤ b) (by lia : b < sg 395 1), kz]; unfold mcr1; rw [if_neg]; unfold mcrs; clear ihk iho hq kz lz; grind
                · exact zmu_up (by lia)
              · exact absurd c6 (by decide)
            · skip
              refine zb_icge (tgt := 107) bkMo_crossed_63 bdMo_crossed_80 (by decide) (lv' := [(4, .int (803 + 9 * b)), (3, .int (803 + 9 * a)), (0, .ref 393), (1, .int a), (2, .int b)]) (st' := []) (h' := zN sg) (x := sg 395 ((803 + 9 * a) + 1)) (y := sg 395 ((803 + 9 * b) + 2)) (Ps := [zOb (zN sg) 393 10 ∧ (zN sg).2.2 393 3 = true, zInL (zN sg) 395 ((803 + 9 * a) + 1), zOb (zN sg) 393 10 ∧ (zN sg).2.2 393 3 = true, zInL (zN sg) 395 ((803 + 9 * b) + 2)]) rfl (zA ⟨zob_393, rfl⟩ (zA (zinL_395 (i := (803 + 9 * a) + 1) (by lia) (by lia)) (zA ⟨zob_393, rfl⟩ (zA (zinL_395 (i := (803 + 9 * b) + 2) (by lia) (by lia)) trivial)))) (fun c7 => ?_) (fun c7 => ?_)
              · skip
                refine zb_ifeq (tgt := 142) bkMo_crossed_107 bdMo_crossed_112 (by decide) (lv' := [(5, .int 0), (4, .int (803 + 9 * b)), (3, .int (803 + 9 * a)), (0, .ref 393), (1, .int a), (2, .int b)]) (st' := []) (h' := zN sg) (x := 0) (Ps := []) rfl trivial (fun c8 => ?_) (fun c8 => ?_)
                · skip
                  refine zG_run bkMo_crossed_142 (lv' := [(2, .int (b + 1)), (5, .int 0), (4, .int (803 + 9 * b)), (3, .int (803 + 9 * a)), (0, .ref 393), (1, .int a)]) (st' := []) (h' := zN sg) (Ps := []) rfl trivial ?_
                  refine zG_pick (lv' := [(0, .ref 393), (1, .int a), (2, .int (b + 1))]) [4, 5, 0] rfl ?_
                  refine ihk (b + 1) ?_ ?_
                  · refine ⟨?_, ?_, ?_⟩
                    · lia
                    · exact Or.inl (by lia)
                    · rw [zit_s _ _ (by lia : 0 ≤ b) (by lia : b < sg 395 1), kz]; unfold mcr1; rw [if_neg]; unfold mcrs; clear ihk iho hq kz lz; grind
                  · exact zmu_up (by lia)
                · exact absurd c8 (by decide)
              · skip
                refine zb_icge (tgt := 107) bkMo_crossed_83 bdMo_crossed_100 (by decide) (lv' := [(4, .int (803 + 9 * b)), (3, .int (803 + 9 * a)), (0, .ref 393), (1, .int a), (2, .int b)]) (st' := []) (h' := zN sg) (x := sg 395 ((803 + 9 * b) + 1)) (y := sg 395 ((803 + 9 * a) + 2)) (Ps := [zOb (zN sg) 393 10 ∧ (zN sg).2.2 393 3 = true, zInL (zN sg) 395 ((803 + 9 * b) + 1), zOb (zN sg) 393 10 ∧ (zN sg).2.2 393 3 = true, zInL (zN sg) 395 ((803 + 9 * a) + 2)]) rfl (zA ⟨zob_393, rfl⟩ (zA (zinL_395 (i := (803 + 9 * b) + 1) (by lia) (by lia)) (zA ⟨zob_393, rfl⟩ (zA (zinL_395 (i := (803 + 9 * a) + 2) (by lia) (by lia)) trivial)))) (fun c9 => ?_) (fun c9 => ?_)
                · skip
                  refine zb_ifeq (tgt := 142) bkMo_crossed_107 bdMo_crossed_112 (by decide) (lv' := [(5, .int 0), (4, .int (803 + 9 * b)), (3, .int (803 + 9 * a)), (0, .ref 393), (1, .int a), (2, .int b)]) (st' := []) (h' := zN sg) (x := 0) (Ps := []) rfl trivial (fun c10 => ?_) (fun c10 => ?_)
                  · skip
                    refine zG_run bkMo_crossed_142 (lv' := [(2, .int (b + 1)), (5, .int 0), (4, .int (803 + 9 * b)), (3, .int (803 + 9 * a)), (0, .ref 393), (1, .int a)]) (st' := []) (h' := zN sg) (Ps := []) rfl trivial ?_
                    refine zG_pick (lv' := [(0, .ref 393), (1, .int a), (2, .int (b + 1))]) [4, 5, 0] rfl ?_
                    refine ihk (b + 1) ?_ ?_
                    · refine ⟨?_, ?_, ?_⟩
                      · lia
                      · exact Or.inl (by lia)
                      · rw [zit_s _ _ (by lia : 0 ≤ b) (by lia : b < sg 395 1), kz]; unfold mcr1; rw [if_neg]; unfold mcrs; clear ihk iho hq kz lz; grind
                    · exact zmu_up (by lia)
                  · exact absurd c10 (by decide)
                · skip
                  refine zb_ifeq (tgt := 142) bkMo_crossed_103 bdMo_crossed_112 (by decide) (lv' := [(5, .int 1), (4, .int (803 + 9 * b)), (3, .int (803 + 9 * a)), (0, .ref 393), (1, .int a), (2, .int b)]) (st' := []) (h' := zN sg) (x := 1) (Ps := []) rfl trivial (fun c11 => ?_) (fun c11 => ?_)
                  · exact absurd c11 (by decide)
                  · skip
                    refine zG_run bkMo_crossed_115 (lv' := [(5, .int 1), (4, .int (803 + 9 * b)), (3, .int (803 + 9 * a)), (0, .ref 393), (1, .int a), (2, .int b)]) (st' := [.int (803 + 9 * b), .int (803 + 9 * a), .ref 393]) (h' := zN sg) (Ps := []) rfl trivial ?_
                    refine zG_callv (a := 393) (c := 10) (As := [.int (803 + 9 * a), .int (803 + 9 * b)]) (rest := []) (N2 := 411) bdMo_crossed_119 okMo_isWithin lk10_302 (And.intro (by decide) (by decide)) (by decide) rfl rfl rfl (Nat.le_of_ble_eq_true rfl) (Nat.le_of_ble_eq_true rfl) (Nat.le_refl 411) (Nat.le_refl 411) zob_393 (cMo_isWithin (by lia) (by lia) (by lia) (by lia)) ?_
                    rintro rr h' ⟨rfl, rfl⟩ -
                    refine zb_ifne (tgt := 142) bkMo_crossed_122 bdMo_crossed_122 (by decide) (lv' := [(5, .int 1), (4, .int (803 + 9 * b)), (3, .int (803 + 9 * a)), (0, .ref 393), (1, .int a), (2, .int b)]) (st' := []) (h' := zN sg) (x := if sg 395 ((803 + 9 * b) + 1) ≤ sg 395 ((803 + 9 * a) + 1) ∧ sg 395 ((803 + 9 * a) + 2) ≤ sg 395 ((803 + 9 * b) + 2) then 1 else 0) (Ps := []) rfl trivial (fun c12 => ?_) (fun c12 => ?_)
                    · skip
                      refine zG_run bkMo_crossed_142 (lv' := [(2, .int (b + 1)), (5, .int 1), (4, .int (803 + 9 * b)), (3, .int (803 + 9 * a)), (0, .ref 393), (1, .int a)]) (st' := []) (h' := zN sg) (Ps := []) rfl trivial ?_
                      refine zG_pick (lv' := [(0, .ref 393), (1, .int a), (2, .int (b + 1))]) [4, 5, 0] rfl ?_
                      refine ihk (b + 1) ?_ ?_
                      · refine ⟨?_, ?_, ?_⟩
                        · lia
                        · exact Or.inl (by lia)
                        · rw [zit_s _ _ (by lia : 0 ≤ b) (by lia : b < sg 395 1), kz]; unfold mcr1; rw [if_neg]; unfold mcrs; clear ihk iho hq kz lz; grind
                      · exact zmu_up (by lia)
                    · skip
                      refine zG_run bkMo_crossed_125 (lv' := [(5, .int 1), (4, .int (803 + 9 * b)), (3, .int (803 + 9 * a)), (0, .ref 393), (1, .int a), (2, .int b)]) (st' := [.int (803 + 9 * a), .int (803 + 9 * b), .ref 393]) (h' := zN sg) (Ps := []) rfl trivial ?_
                      refine zG_callv (a := 393) (c := 10) (As := [.int (803 + 9 * b), .int (803 + 9 * a)]) (rest := []) (N2 := 411) bdMo_crossed_129 okMo_isWithin lk10_302 (And.intro (by decide) (by decide)) (by decide) rfl rfl rfl (Nat.le_of_ble_eq_true rfl) (Nat.le_of_ble_eq_true rfl) (Nat.le_refl 411) (Nat.le_refl 411) zob_393 (cMo_isWithin (by lia) (by lia) (by lia) (by lia)) ?_
                      rintro rr h' ⟨rfl, rfl⟩ -
                      refine zb_ifne (tgt := 142) bkMo_crossed_132 bdMo_crossed_132 (by decide) (lv' := [(5, .int 1), (4, .int (803 + 9 * b)), (3, .int (803 + 9 * a)), (0, .ref 393), (1, .int a), (2, .int b)]) (st' := []) (h' := zN sg) (x := if sg 395 ((803 + 9 * a) + 1) ≤ sg 395 ((803 + 9 * b) + 1) ∧ sg 395 ((803 + 9 * b) + 2) ≤ sg 395 ((803 + 9 * a) + 2) then 1 else 0) (Ps := []) rfl trivial (fun c13 => ?_) (fun c13 => ?_)
                      · skip
                        refine zG_run bkMo_crossed_142 (lv' := [(2, .int (b + 1)), (5, .int 1), (4, .int (803 + 9 * b)), (3, .int (803 + 9 * a)), (0, .ref 393), (1, .int a)]) (st' := []) (h' := zN sg) (Ps := []) rfl trivial ?_
                        refine zG_pick (lv' := [(0, .ref 393), (1, .int a), (2, .int (b + 1))]) [4, 5, 0] rfl ?_
                        refine ihk (b + 1) ?_ ?_
                        · refine ⟨?_, ?_, ?_⟩
                          · lia
                          · exact Or.inl (by lia)
                          · rw [zit_s _ _ (by lia : 0 ≤ b) (by lia : b < sg 395 1), kz]; unfold mcr1; rw [if_neg]; unfold mcrs; clear ihk iho hq kz lz; grind
                        · exact zmu_up (by lia)
                      · skip
                        refine zb_iret bkMo_crossed_135 bdMo_crossed_141 rfl (x := (100 * a) + b) (h' := zN sg) (Ps := []) rfl trivial rfl ?_
                        refine hq _ _ ?_
                        refine ⟨?_, rfl⟩
                        have hc : mcrs sg a b = true := by unfold mcrs; clear ihk iho hq kz lz; grind
                        have e1 : zit (mcr1 sg a) (-1) (b + 1) = 100 * a + b := by rw [zit_s _ _ (by lia : 0 ≤ b) (by lia : b < sg 395 1), kz]; unfold mcr1; rw [if_pos ⟨rfl, k0, hc⟩]
                        have e2 : zit (mcr2 sg) (-1) (a + 1) = 100 * a + b := by rw [zit_s _ _ l0 (by lia : a < sg 395 1), lz]; exact zit_stable (P := fun x : Int32 => x = 100 * a + b) (i := b + 1) (by lia) (by lia) (fun j x _ _ h => mcr1_st (by lia) h) e1
                        have e3 := (zit_stable (P := fun x : Int32 => x = 100 * a + b) (i := a + 1) (by lia) (by lia : a + 1 ≤ sg 395 1) (fun j x _ _ h => zit_stable (P := fun x : Int32 => x = 100 * a + b) (i := 0) (Int32.le_refl 0) (by lia) (fun j x _ _ h => mcr1_st (by lia) h) h) e2).symm
                        rw [e3]; rfl
      · refine ⟨?_, ?_, ?_⟩
        · lia
        · exact Or.inr rfl
        · exact zit_id (by lia) (fun j x j0 j1 => by unfold mcr1; rw [if_neg (by lia)])
  · refine ⟨?_, ?_, ?_⟩
    · lia
    · lia
    · rfl
theorem bMo_crossed {sg : zSig}  (n0 : 0 ≤ sg 395 0) (n2 : sg 395 0 ≤ 200) (g0 : 0 ≤ sg 395 1) (g1 : sg 395 1 ≤ 16) : zG mMo_crossed 411 (fun rr h' => rr = some (.int (mCr sg)) ∧ h' = zN sg) 5 [(0, .ref 393)] [] (zN sg) := lMo_crossed n0 n2 g0 g1 (fun _ _ q => q)
theorem tMo_crossed {sg : zSig}  {Q : Option Value → zHp → Prop} (g : zG mMo_crossed 411 Q 5 [(0, .ref 393)] [] (zN (zup sg 393 0 0))) : zG mMo_crossed 411 Q 0 [(0, .ref 393)] [] (zN sg) :=
  zG_run bkMo_crossed_0 (lv' := [(0, .ref 393)]) (st' := []) (h' := zN (zup sg 393 0 0)) (Ps := [zOb (zN sg) 393 10]) rfl (zA zob_393 trivial) g
def mMt (sg : zSig) (p k : Int32) : Prop := sg 395 (3 + 4 * (p + k)) = sg 401 k &&& 255
def mStd (sg : zSig) (p : Int32) : Prop := p + sg 393 11 ≤ sg 395 0 ∧ ∀ k, 0 ≤ k → k < sg 393 11 → mMt sg p k
theorem bkMo_stands_0 : zBk mMo_stands 0 [(1, 1, 0, 0, 0), (1, 0, 1, 0, 0), (5, 10, 11, 0, 11), (4, 0, 0, 0, 0), (1, 0, 1, 0, 0), (5, 10, 3, 2, 3), (0, 0, 0, 0, 0), (7, 0, 0, 0, 0)] = some 12 := by decide +kernel
theorem bkMo_stands_19 : zBk mMo_stands 19 [(0, 0, 0, 0, 0), (2, 2, 0, 0, 0), (0, 0, 0, 0, 0), (2, 3, 0, 0, 0)] = some 23 := by decide +kernel
theorem bkMo_stands_23 : zBk mMo_stands 23 [(1, 3, 0, 0, 0), (1, 0, 1, 0, 0), (5, 10, 11, 0, 11)] = some 28 := by decide +kernel
theorem bkMo_stands_71 : zBk mMo_stands 71 [(1, 2, 0, 0, 0)] = some 72 := by decide +kernel
theorem bkMo_stands_31 : zBk mMo_stands 31 [(1, 2, 0, 0, 0)] = some 32 := by decide +kernel
theorem bkMo_stands_35 : zBk mMo_stands 35 [(1, 0, 1, 0, 0), (5, 10, 3, 2, 3), (1, 1, 0, 0, 0), (1, 3, 0, 0, 0), (4, 0, 0, 0, 0)] = some 42 := by decide +kernel
theorem bkMo_stands_45 : zBk mMo_stands 45 [(7, 0, 0, 0, 0), (1, 0, 1, 0, 0), (5, 10, 10, 8, 10), (1, 3, 0, 0, 0), (7, 1, 0, 0, 0), (0, 0, 0, 0, 255), (4, 3, 0, 0, 0)] = some 56 := by decide +kernel
theorem bkMo_stands_63 : zBk mMo_stands 63 [(0, 0, 0, 0, 0), (2, 2, 0, 0, 0), (3, 3, 0, 0, 1), (22, 23, 0, 0, 0)] = some 23 := by decide +kernel
theorem bkMo_stands_59 : zBk mMo_stands 59 [(0, 0, 0, 0, 1), (22, 64, 0, 0, 0), (2, 2, 0, 0, 0), (3, 3, 0, 0, 1), (22, 23, 0, 0, 0)] = some 23 := by decide +kernel
theorem bkMo_stands_15 : zBk mMo_stands 15 [(0, 0, 0, 0, 1), (22, 20, 0, 0, 0), (2, 2, 0, 0, 0), (0, 0, 0, 0, 0), (2, 3, 0, 0, 0)] = some 23 := by decide +kernel
theorem bdMo_stands_12 : decode mMo_stands.2.2.1 12 = .ok (.if_icmp .gt 7, 3) := by decide +kernel
theorem bdMo_stands_28 : decode mMo_stands.2.2.1 28 = .ok (.if_icmp .ge 43, 3) := by decide +kernel
theorem bdMo_stands_32 : decode mMo_stands.2.2.1 32 = .ok (.ifCond .eq 39, 3) := by decide +kernel
theorem bdMo_stands_42 : decode mMo_stands.2.2.1 42 = .ok (.invokestatic 141, 3) := by decide +kernel
theorem bdMo_stands_56 : decode mMo_stands.2.2.1 56 = .ok (.if_icmp .ne 7, 3) := by decide +kernel
theorem bdMo_stands_72 : decode mMo_stands.2.2.1 72 = .ok (.ireturn, 1) := by decide +kernel
theorem lMo_stands {sg : zSig} {p : Int32} (n0 : 0 ≤ sg 395 0) (n2 : sg 395 0 ≤ 200) (p0 : 0 ≤ p) (p1 : p ≤ 200)  (t0 : 0 ≤ sg 393 11) (t1 : sg 393 11 ≤ 400) {Q : Option Value → zHp → Prop} (hq : ∀ rr h', (∃ v, rr = some (.int v) ∧ h' = zN sg ∧ ((v = 1 ∧ mStd sg p) ∨ (v = 0 ∧ ¬ mStd sg p))) → Q rr h') : zG mMo_stands 411 Q 0 [(0, .ref 393), (1, .int p)] [] (zN sg) := by
  refine zb_icgt (tgt := 19) bkMo_stands_0 bdMo_stands_12 (by decide) (lv' := [(0, .ref 393), (1, .int p)]) (st' := []) (h' := zN sg) (x := p + (sg 393 11)) (y := sg 395 0) (Ps := [zOb (zN sg) 393 10, zOb (zN sg) 393 10 ∧ (zN sg).2.2 393 3 = true, zInL (zN sg) 395 0]) rfl (zA zob_393 (zA ⟨zob_393, rfl⟩ (zA (zinL_395 (i := 0) (by decide) (by decide)) trivial))) (fun c1 => ?_) (fun c1 => ?_)
  · skip
    refine zG_run bkMo_stands_19 (lv' := [(3, .int 0), (2, .int 0), (0, .ref 393), (1, .int p)]) (st' := []) (h' := zN sg) (Ps := []) rfl trivial ?_
    refine zG_pick (lv' := [(0, .ref 393), (1, .int p), (2, .int 0), (3, .int 0)]) [2, 3, 1, 0] rfl ?_
    refine zlp2 (fun (b : Int32) (k : Int32) => zG mMo_stands 411 Q 23 [(0, .ref 393), (1, .int p), (2, .int b), (3, .int k)] [] (zN sg)) (fun (b : Int32) (k : Int32) => (0 ≤ k) ∧ (k ≤ sg 393 11) ∧ ((b = 1 ∧ p + sg 393 11 ≤ sg 395 0 ∧ ∀ j, 0 ≤ j → j < k → mMt sg p j) ∨ (b = 0 ∧ ¬ mStd sg p))) (fun (b : Int32) (k : Int32) => zmu (sg 393 11) k) ?_ 0 0 ?_
    · intro b k hI ih
      obtain ⟨k0, k1, kz⟩ := hI
      refine zb_icge (tgt := 71) bkMo_stands_23 bdMo_stands_28 (by decide) (lv' := [(0, .ref 393), (1, .int p), (2, .int b), (3, .int k)]) (st' := []) (h' := zN sg) (x := k) (y := sg 393 11) (Ps := [zOb (zN sg) 393 10]) rfl (zA zob_393 trivial) (fun c2 => ?_) (fun c2 => ?_)
      · skip
        refine zb_zret bkMo_stands_71 bdMo_stands_72 rfl (x := b) (h' := zN sg) (Ps := []) rfl trivial rfl (by rcases kz with ⟨h, -⟩ | ⟨h, -⟩ <;> simp [h]) ?_
        refine hq _ _ ?_
        refine ⟨b, rfl, rfl, ?_⟩
        rcases kz with ⟨h1, h2, h3⟩ | h
        · refine Or.inl ⟨h1, h2, fun j j0 j1 => h3 j j0 ?_⟩
          rcases (by lia : k = sg 393 11 ∨ k < sg 393 11) with h | h
          · lia
          · exfalso; lia
        · exact Or.inr h
      · skip
        refine zb_ifeq (tgt := 71) bkMo_stands_31 bdMo_stands_32 (by decide) (lv' := [(0, .ref 393), (1, .int p), (2, .int b), (3, .int k)]) (st' := []) (h' := zN sg) (x := b) (Ps := []) rfl trivial (fun c3 => ?_) (fun c3 => ?_)
        · skip
          refine zb_zret bkMo_stands_71 bdMo_stands_72 rfl (x := b) (h' := zN sg) (Ps := []) rfl trivial rfl (by rcases kz with ⟨h, -⟩ | ⟨h, -⟩ <;> simp [h]) ?_
          refine hq _ _ ?_
          refine ⟨b, rfl, rfl, ?_⟩
          rcases kz with ⟨h1, h2, h3⟩ | h
          · refine Or.inl ⟨h1, h2, fun j j0 j1 => h3 j j0 ?_⟩
            rcases (by lia : k = sg 393 11 ∨ k < sg 393 11) with h | h
            · lia
            · exfalso; lia
          · exact Or.inr h
        · skip
          refine zG_run bkMo_stands_35 (lv' := [(0, .ref 393), (1, .int p), (2, .int b), (3, .int k)]) (st' := [.int (p + k), .ref 395]) (h' := zN sg) (Ps := [zOb (zN sg) 393 10 ∧ (zN sg).2.2 393 3 = true]) rfl (zA ⟨zob_393, rfl⟩ trivial) ?_
          refine zG_calls (As := [.int (p + k)]) (rest := [.ref 395]) (N2 := 411) bdMo_stands_42 okMo_letterAt lk10_141 (And.intro (by decide) (by decide)) rfl rfl (Nat.le_of_ble_eq_true rfl) (Nat.le_of_ble_eq_true rfl) (Nat.le_refl 411) (Nat.le_refl 411) cMo_letterAt ?_
          rintro rr h' ⟨rfl, rfl⟩ -
          refine zb_icne (tgt := 63) bkMo_stands_45 bdMo_stands_56 (by decide) (lv' := [(0, .ref 393), (1, .int p), (2, .int b), (3, .int k)]) (st' := []) (h' := zN sg) (x := sg 395 (3 + 4 * (p + k))) (y := (sg 401 k) &&& 255) (Ps := [zInL (zN sg) 395 (3 + 4 * (p + k)), zOb (zN sg) 393 10 ∧ (zN sg).2.2 393 10 = true, zIn (zN sg) 401 1 k]) rfl (zA (zinL_395 (i := 3 + 4 * (p + k)) (by lia) (by lia)) (zA ⟨zob_393, rfl⟩ (zA (zin_401 (i := k) (by lia) (by lia)) trivial))) (fun c4 => ?_) (fun c4 => ?_)
          · skip
            refine zG_run bkMo_stands_63 (lv' := [(3, .int (k + 1)), (2, .int 0), (0, .ref 393), (1, .int p)]) (st' := []) (h' := zN sg) (Ps := []) rfl trivial ?_
            refine zG_pick (lv' := [(0, .ref 393), (1, .int p), (2, .int 0), (3, .int (k + 1))]) [2, 3, 1, 0] rfl ?_
            refine ih 0 (k + 1) ?_ ?_
            · refine ⟨?_, ?_, ?_⟩
              · lia
              · lia
              · exact Or.inr ⟨rfl, fun hs => absurd (hs.2 k k0 (by lia)) (by unfold mMt; assumption)⟩
            · exact zmu_up (by lia)
          · skip
            refine zG_run bkMo_stands_59 (lv' := [(3, .int (k + 1)), (2, .int 1), (0, .ref 393), (1, .int p)]) (st' := []) (h' := zN sg) (Ps := []) rfl trivial ?_
            refine zG_pick (lv' := [(0, .ref 393), (1, .int p), (2, .int 1), (3, .int (k + 1))]) [2, 3, 1, 0] rfl ?_
            refine ih 1 (k + 1) ?_ ?_
            · refine ⟨?_, ?_, ?_⟩
              · lia
              · lia
              · refine Or.inl ⟨rfl, by lia, fun j j0 j1 => ?_⟩
                by_cases hj : j = k
                · rw [hj]; unfold mMt; assumption
                · exact (kz.elim (fun h => h.2.2) (fun h => absurd h.1 (by lia))) j j0 (by lia)
            · exact zmu_up (by lia)
    · refine ⟨?_, ?_, ?_⟩
      · lia
      · lia
      · exact Or.inr ⟨rfl, fun h => absurd h.1 (by lia)⟩
  · skip
    refine zG_run bkMo_stands_15 (lv' := [(3, .int 0), (2, .int 1), (0, .ref 393), (1, .int p)]) (st' := []) (h' := zN sg) (Ps := []) rfl trivial ?_
    refine zG_pick (lv' := [(0, .ref 393), (1, .int p), (2, .int 1), (3, .int 0)]) [2, 3, 1, 0] rfl ?_
    refine zlp2 (fun (b : Int32) (k : Int32) => zG mMo_stands 411 Q 23 [(0, .ref 393), (1, .int p), (2, .int b), (3, .int k)] [] (zN sg)) (fun (b : Int32) (k : Int32) => (0 ≤ k) ∧ (k ≤ sg 393 11) ∧ ((b = 1 ∧ p + sg 393 11 ≤ sg 395 0 ∧ ∀ j, 0 ≤ j → j < k → mMt sg p j) ∨ (b = 0 ∧ ¬ mStd sg p))) (fun (b : Int32) (k : Int32) => zmu (sg 393 11) k) ?_ 1 0 ?_
    · intro b k hI ih
      obtain ⟨k0, k1, kz⟩ := hI
      refine zb_icge (tgt := 71) bkMo_stands_23 bdMo_stands_28 (by decide) (lv' := [(0, .ref 393), (1, .int p), (2, .int b), (3, .int k)]) (st' := []) (h' := zN sg) (x := k) (y := sg 393 11) (Ps := [zOb (zN sg) 393 10]) rfl (zA zob_393 trivial) (fun c5 => ?_) (fun c5 => ?_)
      · skip
        refine zb_zret bkMo_stands_71 bdMo_stands_72 rfl (x := b) (h' := zN sg) (Ps := []) rfl trivial rfl (by rcases kz with ⟨h, -⟩ | ⟨h, -⟩ <;> simp [h]) ?_
        refine hq _ _ ?_
        refine ⟨b, rfl, rfl, ?_⟩
        rcases kz with ⟨h1, h2, h3⟩ | h
        · refine Or.inl ⟨h1, h2, fun j j0 j1 => h3 j j0 ?_⟩
          rcases (by lia : k = sg 393 11 ∨ k < sg 393 11) with h | h
          · lia
          · exfalso; lia
        · exact Or.inr h
      · skip
        refine zb_ifeq (tgt := 71) bkMo_stands_31 bdMo_stands_32 (by decide) (lv' := [(0, .ref 393), (1, .int p), (2, .int b), (3, .int k)]) (st' := []) (h' := zN sg) (x := b) (Ps := []) rfl trivial (fun c6 => ?_) (fun c6 => ?_)
        · skip
          refine zb_zret bkMo_stands_71 bdMo_stands_72 rfl (x := b) (h' := zN sg) (Ps := []) rfl trivial rfl (by rcases kz with ⟨h, -⟩ | ⟨h, -⟩ <;> simp [h]) ?_
          refine hq _ _ ?_
          refine ⟨b, rfl, rfl, ?_⟩
          rcases kz with ⟨h1, h2, h3⟩ | h
          · refine Or.inl ⟨h1, h2, fun j j0 j1 => h3 j j0 ?_⟩
            rcases (by lia : k = sg 393 11 ∨ k < sg 393 11) with h | h
            · lia
            · exfalso; lia
          · exact Or.inr h
        · skip
          refine zG_run bkMo_stands_35 (lv' := [(0, .ref 393), (1, .int p), (2, .int b), (3, .int k)]) (st' := [.int (p + k), .ref 395]) (h' := zN sg) (Ps := [zOb (zN sg) 393 10 ∧ (zN sg).2.2 393 3 = true]) rfl (zA ⟨zob_393, rfl⟩ trivial) ?_
          refine zG_calls (As := [.int (p + k)]) (rest := [.ref 395]) (N2 := 411) bdMo_stands_42 okMo_letterAt lk10_141 (And.intro (by decide) (by decide)) rfl rfl (Nat.le_of_ble_eq_true rfl) (Nat.le_of_ble_eq_true rfl) (Nat.le_refl 411) (Nat.le_refl 411) cMo_letterAt ?_
          rintro rr h' ⟨rfl, rfl⟩ -
          refine zb_icne (tgt := 63) bkMo_stands_45 bdMo_stands_56 (by decide) (lv' := [(0, .ref 393), (1, .int p), (2, .int b), (3, .int k)]) (st' := []) (h' := zN sg) (x := sg 395 (3 + 4 * (p + k))) (y := (sg 401 k) &&& 255) (Ps := [zInL (zN sg) 395 (3 + 4 * (p + k)), zOb (zN sg) 393 10 ∧ (zN sg).2.2 393 10 = true, zIn (zN sg) 401 1 k]) rfl (zA (zinL_395 (i := 3 + 4 * (p + k)) (by lia) (by lia)) (zA ⟨zob_393, rfl⟩ (zA (zin_401 (i := k) (by lia) (by lia)) trivial))) (fun c7 => ?_) (fun c7 => ?_)
          · skip
            refine zG_run bkMo_stands_63 (lv' := [(3, .int (k + 1)), (2, .int 0), (0, .ref 393), (1, .int p)]) (st' := []) (h' := zN sg) (Ps := []) rfl trivial ?_
            refine zG_pick (lv' := [(0, .ref 393), (1, .int p), (2, .int 0), (3, .int (k + 1))]) [2, 3, 1, 0] rfl ?_
            refine ih 0 (k + 1) ?_ ?_
            · refine ⟨?_, ?_, ?_⟩
              · lia
              · lia
              · exact Or.inr ⟨rfl, fun hs => absurd (hs.2 k k0 (by lia)) (by unfold mMt; assumption)⟩
            · exact zmu_up (by lia)
          · skip
            refine zG_run bkMo_stands_59 (lv' := [(3, .int (k + 1)), (2, .int 1), (0, .ref 393), (1, .int p)]) (st' := []) (h' := zN sg) (Ps := []) rfl trivial ?_
            refine zG_pick (lv' := [(0, .ref 393), (1, .int p), (2, .int 1), (3, .int (k + 1))]) [2, 3, 1, 0] rfl ?_
            refine ih 1 (k + 1) ?_ ?_
            · refine ⟨?_, ?_, ?_⟩
              · lia
              · lia
              · refine Or.inl ⟨rfl, by lia, fun j j0 j1 => ?_⟩
                by_cases hj : j = k
                · rw [hj]; unfold mMt; assumption
                · exact (kz.elim (fun h => h.2.2) (fun h => absurd h.1 (by lia))) j j0 (by lia)
            · exact zmu_up (by lia)
    · refine ⟨?_, ?_, ?_⟩
      · lia
      · lia
      · exact Or.inl ⟨rfl, by lia, fun j j0 j1 => by exfalso; lia⟩
theorem cMo_stands {sg : zSig} {p : Int32} (n0 : 0 ≤ sg 395 0) (n2 : sg 395 0 ≤ 200) (p0 : 0 ≤ p) (p1 : p ≤ 200)  (t0 : 0 ≤ sg 393 11) (t1 : sg 393 11 ≤ 400) : zG mMo_stands 411 (fun rr h' => ∃ v, rr = some (.int v) ∧ h' = zN sg ∧ ((v = 1 ∧ mStd sg p) ∨ (v = 0 ∧ ¬ mStd sg p))) 0 [(0, .ref 393), (1, .int p)] [] (zN sg) := lMo_stands n0 n2 p0 p1 t0 t1 (fun _ _ q => q)
def mFs (sg : zSig) (f : Int32) (T : Int32 → Prop) (v : Int32) : Prop := (v = -1 ∧ (¬ (0 ≤ f ∧ f ≤ sg 395 0) ∨ sg 393 11 = 0)) ∨ ((0 ≤ f ∧ f ≤ sg 395 0) ∧ sg 393 11 ≠ 0 ∧ ((f ≤ v ∧ v < sg 395 0 ∧ T v ∧ ∀ p, f ≤ p → p < v → ¬ T p) ∨ (v = -1 ∧ ∀ p, f ≤ p → p < sg 395 0 → ¬ T p)))
theorem bkMo_find_5 : zBk mMo_find 5 [(1, 0, 1, 0, 0), (1, 1, 0, 0, 0)] = some 7 := by decide +kernel
theorem bkMo_find_10 : zBk mMo_find 10 [] = some 10 := by decide +kernel
theorem bkMo_find_20 : zBk mMo_find 20 [(0, 0, 0, 0, -1)] = some 21 := by decide +kernel
theorem bkMo_find_13 : zBk mMo_find 13 [(1, 0, 1, 0, 0), (5, 10, 11, 0, 11)] = some 17 := by decide +kernel
theorem bkMo_find_22 : zBk mMo_find 22 [(1, 1, 0, 0, 0), (2, 2, 0, 0, 0)] = some 24 := by decide +kernel
theorem bkMo_find_24 : zBk mMo_find 24 [(1, 2, 0, 0, 0), (1, 0, 1, 0, 0), (5, 10, 3, 2, 3), (0, 0, 0, 0, 0), (7, 0, 0, 0, 0)] = some 31 := by decide +kernel
theorem bkMo_find_50 : zBk mMo_find 50 [(0, 0, 0, 0, -1)] = some 51 := by decide +kernel
theorem bkMo_find_34 : zBk mMo_find 34 [(1, 0, 1, 0, 0), (1, 2, 0, 0, 0)] = some 36 := by decide +kernel
theorem bkMo_find_39 : zBk mMo_find 39 [] = some 39 := by decide +kernel
theorem bkMo_find_44 : zBk mMo_find 44 [(3, 2, 0, 0, 1), (22, 24, 0, 0, 0)] = some 24 := by decide +kernel
theorem bkMo_find_42 : zBk mMo_find 42 [(1, 2, 0, 0, 0)] = some 43 := by decide +kernel
theorem bkMo_find_0 : zBk mMo_find 0 [(1, 0, 1, 0, 0), (0, 0, 0, 0, 0), (6, 10, 0, 0, 0)] = some 5 := by decide +kernel
theorem bdMo_find_7 : decode mMo_find.2.2.1 7 = .ok (.invokevirtual 97, 3) := by decide +kernel
theorem bdMo_find_10 : decode mMo_find.2.2.1 10 = .ok (.ifCond .eq 10, 3) := by decide +kernel
theorem bdMo_find_17 : decode mMo_find.2.2.1 17 = .ok (.ifCond .ne 5, 3) := by decide +kernel
theorem bdMo_find_21 : decode mMo_find.2.2.1 21 = .ok (.ireturn, 1) := by decide +kernel
theorem bdMo_find_31 : decode mMo_find.2.2.1 31 = .ok (.if_icmp .ge 19, 3) := by decide +kernel
theorem bdMo_find_36 : decode mMo_find.2.2.1 36 = .ok (.invokevirtual 288, 3) := by decide +kernel
theorem bdMo_find_39 : decode mMo_find.2.2.1 39 = .ok (.ifCond .eq 5, 3) := by decide +kernel
theorem bdMo_find_43 : decode mMo_find.2.2.1 43 = .ok (.ireturn, 1) := by decide +kernel
theorem bdMo_find_51 : decode mMo_find.2.2.1 51 = .ok (.ireturn, 1) := by decide +kernel
theorem lMo_find {sg : zSig} {f : Int32} (n0 : 0 ≤ sg 395 0) (n2 : sg 395 0 ≤ 200) (g0 : 0 ≤ sg 395 1) (g1 : sg 395 1 ≤ 16) (t0 : 0 ≤ sg 393 11) (t1 : sg 393 11 ≤ 400) {Q : Option Value → zHp → Prop} (hq : ∀ rr h', (∃ v, rr = some (.int v) ∧ h' = zN sg ∧ mFs sg f (mStd sg) v) → Q rr h') : zG mMo_find 411 Q 5 [(0, .ref 393), (1, .int f)] [] (zN sg) := by
  refine zG_run bkMo_find_5 (lv' := [(0, .ref 393), (1, .int f)]) (st' := [.int f, .ref 393]) (h' := zN sg) (Ps := []) rfl trivial ?_
  refine zG_callv (a := 393) (c := 10) (As := [.int f]) (rest := []) (N2 := 411) bdMo_find_7 okMo_isPlace lk10_97 (And.intro (by decide) (by decide)) (by decide) rfl rfl rfl (Nat.le_of_ble_eq_true rfl) (Nat.le_of_ble_eq_true rfl) (Nat.le_refl 411) (Nat.le_refl 411) zob_393 cMo_isPlace ?_
  rintro rr h' ⟨rfl, rfl⟩ -
  refine zb_ifeq (tgt := 20) bkMo_find_10 bdMo_find_10 (by decide) (lv' := [(0, .ref 393), (1, .int f)]) (st' := []) (h' := zN sg) (x := if 0 ≤ f ∧ f ≤ sg 395 0 then 1 else 0) (Ps := []) rfl trivial (fun c1 => ?_) (fun c1 => ?_)
  · skip
    refine zb_iret bkMo_find_20 bdMo_find_21 rfl (x := (-1)) (h' := zN sg) (Ps := []) rfl trivial rfl ?_
    refine hq _ _ ?_
    refine ⟨_, rfl, rfl, Or.inl ⟨rfl, ?_⟩⟩
    clear hq; grind
  · skip
    refine zb_ifne (tgt := 22) bkMo_find_13 bdMo_find_17 (by decide) (lv' := [(0, .ref 393), (1, .int f)]) (st' := []) (h' := zN sg) (x := sg 393 11) (Ps := [zOb (zN sg) 393 10]) rfl (zA zob_393 trivial) (fun c2 => ?_) (fun c2 => ?_)
    · skip
      have hc : (0 ≤ f ∧ f ≤ sg 395 0) ∧ sg 393 11 ≠ 0 := by clear hq; grind
      refine zG_run bkMo_find_22 (lv' := [(2, .int f), (0, .ref 393), (1, .int f)]) (st' := []) (h' := zN sg) (Ps := []) rfl trivial ?_
      refine zG_pick (lv' := [(0, .ref 393), (1, .int f), (2, .int f)]) [1, 2, 0] rfl ?_
      refine zlp1 (fun (p : Int32) => zG mMo_find 411 Q 24 [(0, .ref 393), (1, .int f), (2, .int p)] [] (zN sg)) (fun (p : Int32) => (f ≤ p) ∧ (p ≤ sg 395 0) ∧ (∀ q, f ≤ q → q < p → ¬ mStd sg q)) (fun (p : Int32) => zmu (sg 395 0) p) ?_ f ?_
      · intro p hI ih
        obtain ⟨p0, p1, pz⟩ := hI
        refine zb_icge (tgt := 50) bkMo_find_24 bdMo_find_31 (by decide) (lv' := [(0, .ref 393), (1, .int f), (2, .int p)]) (st' := []) (h' := zN sg) (x := p) (y := sg 395 0) (Ps := [zOb (zN sg) 393 10 ∧ (zN sg).2.2 393 3 = true, zInL (zN sg) 395 0]) rfl (zA ⟨zob_393, rfl⟩ (zA (zinL_395 (i := 0) (by decide) (by decide)) trivial)) (fun c3 => ?_) (fun c3 => ?_)
        · skip
          refine zb_iret bkMo_find_50 bdMo_find_51 rfl (x := (-1)) (h' := zN sg) (Ps := []) rfl trivial rfl ?_
          refine hq _ _ ?_
          exact ⟨_, rfl, rfl, Or.inr ⟨hc.1, hc.2, Or.inr ⟨rfl, fun q q0 q1 => pz q q0 (by lia)⟩⟩⟩
        · skip
          refine zG_run bkMo_find_34 (lv' := [(0, .ref 393), (1, .int f), (2, .int p)]) (st' := [.int p, .ref 393]) (h' := zN sg) (Ps := []) rfl trivial ?_
          refine zG_callv (a := 393) (c := 10) (As := [.int p]) (rest := []) (N2 := 411) bdMo_find_36 okMo_stands lk10_288 (And.intro (by decide) (by decide)) (by decide) rfl rfl rfl (Nat.le_of_ble_eq_true rfl) (Nat.le_of_ble_eq_true rfl) (Nat.le_refl 411) (Nat.le_refl 411) zob_393 (cMo_stands (p := p) (by lia) (by lia) (by lia) (by lia) (by lia) (by lia)) ?_
          rintro rr h' ⟨vs, rfl, rfl, hvs⟩ -
          refine zb_ifeq (tgt := 44) bkMo_find_39 bdMo_find_39 (by decide) (lv' := [(0, .ref 393), (1, .int f), (2, .int p)]) (st' := []) (h' := zN sg) (x := vs) (Ps := []) rfl trivial (fun c4 => ?_) (fun c4 => ?_)
          · skip
            refine zG_run bkMo_find_44 (lv' := [(2, .int (p + 1)), (0, .ref 393), (1, .int f)]) (st' := []) (h' := zN sg) (Ps := []) rfl trivial ?_
            refine zG_pick (lv' := [(0, .ref 393), (1, .int f), (2, .int (p + 1))]) [1, 2, 0] rfl ?_
            refine ih (p + 1) ?_ ?_
            · refine ⟨?_, ?_, ?_⟩
              · lia
              · lia
              · intro q q0 q1; by_cases hq2 : q = p
                · rw [hq2]; exact hvs.elim (fun h => absurd h.1 (by lia)) (fun h => h.2)
                · exact pz q q0 (by lia)
            · exact zmu_up (by lia)
          · skip
            refine zb_iret bkMo_find_42 bdMo_find_43 rfl (x := p) (h' := zN sg) (Ps := []) rfl trivial rfl ?_
            refine hq _ _ ?_
            exact ⟨_, rfl, rfl, Or.inr ⟨hc.1, hc.2, Or.inl ⟨p0, by lia, hvs.elim (fun h => h.2) (fun h => absurd h.1 (by lia)), pz⟩⟩⟩
      · refine ⟨?_, ?_, ?_⟩
        · lia
        · lia
        · intro q q0 q1; exfalso; lia
    · skip
      refine zb_iret bkMo_find_20 bdMo_find_21 rfl (x := (-1)) (h' := zN sg) (Ps := []) rfl trivial rfl ?_
      refine hq _ _ ?_
      refine ⟨_, rfl, rfl, Or.inl ⟨rfl, ?_⟩⟩
      clear hq; grind
theorem bMo_find {sg : zSig} {f : Int32} (n0 : 0 ≤ sg 395 0) (n2 : sg 395 0 ≤ 200) (g0 : 0 ≤ sg 395 1) (g1 : sg 395 1 ≤ 16) (t0 : 0 ≤ sg 393 11) (t1 : sg 393 11 ≤ 400) : zG mMo_find 411 (fun rr h' => ∃ v, rr = some (.int v) ∧ h' = zN sg ∧ mFs sg f (mStd sg) v) 5 [(0, .ref 393), (1, .int f)] [] (zN sg) := lMo_find n0 n2 g0 g1 t0 t1 (fun _ _ q => q)
theorem tMo_find {sg : zSig} {f : Int32} {Q : Option Value → zHp → Prop} (g : zG mMo_find 411 Q 5 [(0, .ref 393), (1, .int f)] [] (zN (zup sg 393 0 0))) : zG mMo_find 411 Q 0 [(0, .ref 393), (1, .int f)] [] (zN sg) :=
  zG_run bkMo_find_0 (lv' := [(0, .ref 393), (1, .int f)]) (st' := []) (h' := zN (zup sg 393 0 0)) (Ps := [zOb (zN sg) 393 10]) rfl (zA zob_393 trivial) g
def mSu (t : z3) (m g c : Int32) : Prop := t.1 &&& m = g &&& m ∧ (c = -1 ∨ t.2.1 = c)
theorem bkMo_isSo_0 : zBk mMo_isSo 0 [(1, 0, 1, 0, 0), (1, 1, 0, 0, 0), (0, 0, 0, 0, -1)] = some 3 := by decide +kernel
theorem bkMo_isSo_6 : zBk mMo_isSo 6 [(1, 0, 1, 0, 0), (5, 10, 16, 0, 16), (1, 2, 0, 0, 0), (4, 3, 0, 0, 0), (1, 3, 0, 0, 0), (1, 2, 0, 0, 0), (4, 3, 0, 0, 0)] = some 15 := by decide +kernel
theorem bkMo_isSo_37 : zBk mMo_isSo 37 [(0, 0, 0, 0, 0)] = some 38 := by decide +kernel
theorem bkMo_isSo_18 : zBk mMo_isSo 18 [(1, 4, 0, 0, 0), (0, 0, 0, 0, -1)] = some 21 := by decide +kernel
theorem bkMo_isSo_33 : zBk mMo_isSo 33 [(0, 0, 0, 0, 1), (22, 38, 0, 0, 0)] = some 38 := by decide +kernel
theorem bkMo_isSo_24 : zBk mMo_isSo 24 [(1, 0, 1, 0, 0), (5, 10, 17, 0, 17), (1, 4, 0, 0, 0)] = some 30 := by decide +kernel
theorem bdMo_isSo_3 : decode mMo_isSo.2.2.1 3 = .ok (.invokevirtual 196, 3) := by decide +kernel
theorem bdMo_isSo_15 : decode mMo_isSo.2.2.1 15 = .ok (.if_icmp .ne 22, 3) := by decide +kernel
theorem bdMo_isSo_21 : decode mMo_isSo.2.2.1 21 = .ok (.if_icmp .eq 12, 3) := by decide +kernel
theorem bdMo_isSo_30 : decode mMo_isSo.2.2.1 30 = .ok (.if_icmp .ne 7, 3) := by decide +kernel
theorem bdMo_isSo_38 : decode mMo_isSo.2.2.1 38 = .ok (.ireturn, 1) := by decide +kernel
theorem cMo_isSo {sg : zSig} {i m g c : Int32} (i0 : 0 ≤ i) (i1 : i < 200) (g0 : 0 ≤ sg 395 1) (g1 : sg 395 1 ≤ 16) : zG mMo_isSo 411 (fun rr h' => ∃ v sg', rr = some (.int v) ∧ h' = zN sg' ∧ mFr sg sg' ∧ mT sg' = mS sg (-1) i ∧ ((v = 1 ∧ mSu (mS sg (-1) i) m g c) ∨ (v = 0 ∧ ¬ mSu (mS sg (-1) i) m g c))) 0 [(0, .ref 393), (1, .int i), (2, .int m), (3, .int g), (4, .int c)] [] (zN sg) := by
  refine zG_run bkMo_isSo_0 (lv' := [(0, .ref 393), (1, .int i), (2, .int m), (3, .int g), (4, .int c)]) (st' := [.int (-1), .int i, .ref 393]) (h' := zN sg) (Ps := []) rfl trivial ?_
  refine zG_callv (a := 393) (c := 10) (As := [.int i, .int (-1)]) (rest := []) (N2 := 411) bdMo_isSo_3 okMo_takeStyle lk10_196 (And.intro (by decide) (by decide)) (by decide) rfl rfl rfl (Nat.le_of_ble_eq_true rfl) (Nat.le_of_ble_eq_true rfl) (Nat.le_refl 411) (Nat.le_refl 411) zob_393 (cMo_takeStyle (i := i) (but := (-1)) (by lia) (by lia) (by lia) (by lia)) ?_
  rintro rr h' ⟨sg1, rfl, rfl, hfr1, hmt1⟩ -
  refine zb_icne (tgt := 37) bkMo_isSo_6 bdMo_isSo_15 (by decide) (lv' := [(0, .ref 393), (1, .int i), (2, .int m), (3, .int g), (4, .int c)]) (st' := []) (h' := zN sg1) (x := (sg1 393 16) &&& m) (y := g &&& m) (Ps := [zOb (zN sg1) 393 10]) rfl (zA zob_393 trivial) (fun c1 => ?_) (fun c1 => ?_)
  · skip
    refine zb_zret bkMo_isSo_37 bdMo_isSo_38 rfl (x := 0) (h' := zN sg1) (Ps := []) rfl trivial rfl (Or.inl rfl) ?_
    have h1 : sg1 393 16 = (mS sg (-1) i).1 := by rw [← hmt1]; rfl
    have h2 : sg1 393 17 = (mS sg (-1) i).2.1 := by rw [← hmt1]; rfl
    refine ⟨_, _, rfl, rfl, hfr1, hmt1, ?_⟩
    exact Or.inr ⟨rfl, fun q => by have q1 := q.1; have q2 := q.2; rw [← h1] at q1; rw [← h2] at q2; grind⟩
  · skip
    refine zb_iceq (tgt := 33) bkMo_isSo_18 bdMo_isSo_21 (by decide) (lv' := [(0, .ref 393), (1, .int i), (2, .int m), (3, .int g), (4, .int c)]) (st' := []) (h' := zN sg1) (x := c) (y := (-1)) (Ps := []) rfl trivial (fun c2 => ?_) (fun c2 => ?_)
    · skip
      refine zb_zret bkMo_isSo_33 bdMo_isSo_38 rfl (x := 1) (h' := zN sg1) (Ps := []) rfl trivial rfl (Or.inr rfl) ?_
      have h1 : sg1 393 16 = (mS sg (-1) i).1 := by rw [← hmt1]; rfl
      have h2 : sg1 393 17 = (mS sg (-1) i).2.1 := by rw [← hmt1]; rfl
      refine ⟨_, _, rfl, rfl, hfr1, hmt1, ?_⟩
      exact Or.inl ⟨rfl, by rw [← h1]; assumption, by rw [← h2]; grind⟩
    · skip
      refine zb_icne (tgt := 37) bkMo_isSo_24 bdMo_isSo_30 (by decide) (lv' := [(0, .ref 393), (1, .int i), (2, .int m), (3, .int g), (4, .int c)]) (st' := []) (h' := zN sg1) (x := sg1 393 17) (y := c) (Ps := [zOb (zN sg1) 393 10]) rfl (zA zob_393 trivial) (fun c3 => ?_) (fun c3 => ?_)
      · skip
        refine zb_zret bkMo_isSo_37 bdMo_isSo_38 rfl (x := 0) (h' := zN sg1) (Ps := []) rfl trivial rfl (Or.inl rfl) ?_
        have h1 : sg1 393 16 = (mS sg (-1) i).1 := by rw [← hmt1]; rfl
        have h2 : sg1 393 17 = (mS sg (-1) i).2.1 := by rw [← hmt1]; rfl
        refine ⟨_, _, rfl, rfl, hfr1, hmt1, ?_⟩
        exact Or.inr ⟨rfl, fun q => by have q1 := q.1; have q2 := q.2; rw [← h1] at q1; rw [← h2] at q2; grind⟩
      · skip
        refine zb_zret bkMo_isSo_33 bdMo_isSo_38 rfl (x := 1) (h' := zN sg1) (Ps := []) rfl trivial rfl (Or.inr rfl) ?_
        have h1 : sg1 393 16 = (mS sg (-1) i).1 := by rw [← hmt1]; rfl
        have h2 : sg1 393 17 = (mS sg (-1) i).2.1 := by rw [← hmt1]; rfl
        refine ⟨_, _, rfl, rfl, hfr1, hmt1, ?_⟩
        exact Or.inl ⟨rfl, by rw [← h1]; assumption, by rw [← h2]; grind⟩
def mFt (sg : zSig) (m g c lo hi p k : Int32) : Prop := mSu (mS sg (-1) (p + k)) m g c ∧ lo ≤ (mS sg (-1) (p + k)).2.2 ∧ (mS sg (-1) (p + k)).2.2 ≤ hi
def mFy (sg : zSig) (m g c lo hi p : Int32) : Prop := mStd sg p ∧ ∀ k, 0 ≤ k → k < sg 393 11 → mFt sg m g c lo hi p k
theorem mStd_Q {sg sg' : zSig} {p : Int32} (h : mQ sg sg') : mStd sg' p ↔ mStd sg p := by
  unfold mStd mMt
  rw [mQ_row h, h 393 11 (by decide) (by decide) (by decide) (by decide) (by decide) (by decide), show sg' 401 = sg 401 from funext (fun j => mQ_c h j (by decide))]
theorem bkMo_findBy_5 : zBk mMo_findBy 5 [(1, 0, 1, 0, 0), (1, 1, 0, 0, 0)] = some 7 := by decide +kernel
theorem bkMo_findBy_10 : zBk mMo_findBy 10 [] = some 10 := by decide +kernel
theorem bkMo_findBy_85 : zBk mMo_findBy 85 [(0, 0, 0, 0, -1)] = some 86 := by decide +kernel
theorem bkMo_findBy_13 : zBk mMo_findBy 13 [(1, 0, 1, 0, 0), (5, 10, 11, 0, 11)] = some 17 := by decide +kernel
theorem bkMo_findBy_20 : zBk mMo_findBy 20 [(1, 2, 0, 0, 0), (14, 0, 0, 0, 0), (15, 0, 0, 0, 0), (15, 0, 0, 0, 15)] = some 26 := by decide +kernel
theorem bkMo_findBy_29 : zBk mMo_findBy 29 [] = some 29 := by decide +kernel
theorem bkMo_findBy_32 : zBk mMo_findBy 32 [(1, 3, 0, 0, 0), (14, 0, 0, 0, 0), (15, 0, 0, 0, 0), (15, 0, 0, 0, 15)] = some 38 := by decide +kernel
theorem bkMo_findBy_41 : zBk mMo_findBy 41 [] = some 41 := by decide +kernel
theorem bkMo_findBy_44 : zBk mMo_findBy 44 [(1, 4, 0, 0, 0), (14, 0, 0, 0, 0), (15, 0, 0, 0, -1), (15, 0, 0, 0, 7)] = some 53 := by decide +kernel
theorem bkMo_findBy_56 : zBk mMo_findBy 56 [] = some 56 := by decide +kernel
theorem bkMo_findBy_59 : zBk mMo_findBy 59 [(1, 5, 0, 0, 0), (14, 0, 0, 0, 0), (15, 0, 0, 0, 0), (15, 0, 0, 0, 9)] = some 66 := by decide +kernel
theorem bkMo_findBy_69 : zBk mMo_findBy 69 [] = some 69 := by decide +kernel
theorem bkMo_findBy_72 : zBk mMo_findBy 72 [(1, 6, 0, 0, 0), (14, 0, 0, 0, 0), (15, 0, 0, 0, 0), (15, 0, 0, 0, 9)] = some 79 := by decide +kernel
theorem bkMo_findBy_82 : zBk mMo_findBy 82 [] = some 82 := by decide +kernel
theorem bkMo_findBy_87 : zBk mMo_findBy 87 [(1, 1, 0, 0, 0), (2, 7, 0, 0, 0)] = some 90 := by decide +kernel
theorem bkMo_findBy_90 : zBk mMo_findBy 90 [(1, 7, 0, 0, 0), (1, 0, 1, 0, 0), (5, 10, 3, 2, 3), (0, 0, 0, 0, 0), (7, 0, 0, 0, 0)] = some 98 := by decide +kernel
theorem bkMo_findBy_186 : zBk mMo_findBy 186 [(0, 0, 0, 0, -1)] = some 187 := by decide +kernel
theorem bkMo_findBy_101 : zBk mMo_findBy 101 [(1, 0, 1, 0, 0), (1, 7, 0, 0, 0)] = some 104 := by decide +kernel
theorem bkMo_findBy_107 : zBk mMo_findBy 107 [(2, 8, 0, 0, 0), (0, 0, 0, 0, 0), (2, 9, 0, 0, 0)] = some 112 := by decide +kernel
theorem bkMo_findBy_112 : zBk mMo_findBy 112 [(1, 9, 0, 0, 0), (1, 0, 1, 0, 0), (5, 10, 11, 0, 11)] = some 118 := by decide +kernel
theorem bkMo_findBy_172 : zBk mMo_findBy 172 [(1, 8, 0, 0, 0)] = some 174 := by decide +kernel
theorem bkMo_findBy_180 : zBk mMo_findBy 180 [(3, 7, 0, 0, 1), (22, 90, 0, 0, 0)] = some 90 := by decide +kernel
theorem bkMo_findBy_177 : zBk mMo_findBy 177 [(1, 7, 0, 0, 0)] = some 179 := by decide +kernel
theorem bkMo_findBy_121 : zBk mMo_findBy 121 [(1, 8, 0, 0, 0)] = some 123 := by decide +kernel
theorem bkMo_findBy_126 : zBk mMo_findBy 126 [(1, 0, 1, 0, 0), (1, 7, 0, 0, 0), (1, 9, 0, 0, 0), (4, 0, 0, 0, 0), (1, 2, 0, 0, 0), (1, 3, 0, 0, 0), (1, 4, 0, 0, 0)] = some 136 := by decide +kernel
theorem bkMo_findBy_139 : zBk mMo_findBy 139 [] = some 139 := by decide +kernel
theorem bkMo_findBy_163 : zBk mMo_findBy 163 [(0, 0, 0, 0, 0), (2, 8, 0, 0, 0), (3, 9, 0, 0, 1), (22, 112, 0, 0, 0)] = some 112 := by decide +kernel
theorem bkMo_findBy_142 : zBk mMo_findBy 142 [(1, 0, 1, 0, 0), (5, 10, 18, 0, 18), (14, 0, 0, 0, 0), (1, 5, 0, 0, 0), (14, 0, 0, 0, 0), (1, 6, 0, 0, 0), (14, 0, 0, 0, 0)] = some 153 := by decide +kernel
theorem bkMo_findBy_156 : zBk mMo_findBy 156 [] = some 156 := by decide +kernel
theorem bkMo_findBy_159 : zBk mMo_findBy 159 [(0, 0, 0, 0, 1), (22, 164, 0, 0, 0), (2, 8, 0, 0, 0), (3, 9, 0, 0, 1), (22, 112, 0, 0, 0)] = some 112 := by decide +kernel
theorem bkMo_findBy_0 : zBk mMo_findBy 0 [(1, 0, 1, 0, 0), (0, 0, 0, 0, 0), (6, 10, 0, 0, 0)] = some 5 := by decide +kernel
theorem bdMo_findBy_7 : decode mMo_findBy.2.2.1 7 = .ok (.invokevirtual 97, 3) := by decide +kernel
theorem bdMo_findBy_10 : decode mMo_findBy.2.2.1 10 = .ok (.ifCond .eq 75, 3) := by decide +kernel
theorem bdMo_findBy_17 : decode mMo_findBy.2.2.1 17 = .ok (.ifCond .eq 68, 3) := by decide +kernel
theorem bdMo_findBy_26 : decode mMo_findBy.2.2.1 26 = .ok (.invokestatic 87, 3) := by decide +kernel
theorem bdMo_findBy_29 : decode mMo_findBy.2.2.1 29 = .ok (.ifCond .eq 56, 3) := by decide +kernel
theorem bdMo_findBy_38 : decode mMo_findBy.2.2.1 38 = .ok (.invokestatic 87, 3) := by decide +kernel
theorem bdMo_findBy_41 : decode mMo_findBy.2.2.1 41 = .ok (.ifCond .eq 44, 3) := by decide +kernel
theorem bdMo_findBy_53 : decode mMo_findBy.2.2.1 53 = .ok (.invokestatic 87, 3) := by decide +kernel
theorem bdMo_findBy_56 : decode mMo_findBy.2.2.1 56 = .ok (.ifCond .eq 29, 3) := by decide +kernel
theorem bdMo_findBy_66 : decode mMo_findBy.2.2.1 66 = .ok (.invokestatic 87, 3) := by decide +kernel
theorem bdMo_findBy_69 : decode mMo_findBy.2.2.1 69 = .ok (.ifCond .eq 16, 3) := by decide +kernel
theorem bdMo_findBy_79 : decode mMo_findBy.2.2.1 79 = .ok (.invokestatic 87, 3) := by decide +kernel
theorem bdMo_findBy_82 : decode mMo_findBy.2.2.1 82 = .ok (.ifCond .ne 5, 3) := by decide +kernel
theorem bdMo_findBy_86 : decode mMo_findBy.2.2.1 86 = .ok (.ireturn, 1) := by decide +kernel
theorem bdMo_findBy_98 : decode mMo_findBy.2.2.1 98 = .ok (.if_icmp .ge 88, 3) := by decide +kernel
theorem bdMo_findBy_104 : decode mMo_findBy.2.2.1 104 = .ok (.invokevirtual 288, 3) := by decide +kernel
theorem bdMo_findBy_118 : decode mMo_findBy.2.2.1 118 = .ok (.if_icmp .ge 54, 3) := by decide +kernel
theorem bdMo_findBy_123 : decode mMo_findBy.2.2.1 123 = .ok (.ifCond .eq 49, 3) := by decide +kernel
theorem bdMo_findBy_136 : decode mMo_findBy.2.2.1 136 = .ok (.invokevirtual 291, 3) := by decide +kernel
theorem bdMo_findBy_139 : decode mMo_findBy.2.2.1 139 = .ok (.ifCond .eq 24, 3) := by decide +kernel
theorem bdMo_findBy_153 : decode mMo_findBy.2.2.1 153 = .ok (.invokestatic 87, 3) := by decide +kernel
theorem bdMo_findBy_156 : decode mMo_findBy.2.2.1 156 = .ok (.ifCond .eq 7, 3) := by decide +kernel
theorem bdMo_findBy_174 : decode mMo_findBy.2.2.1 174 = .ok (.ifCond .eq 6, 3) := by decide +kernel
theorem bdMo_findBy_179 : decode mMo_findBy.2.2.1 179 = .ok (.ireturn, 1) := by decide +kernel
theorem bdMo_findBy_187 : decode mMo_findBy.2.2.1 187 = .ok (.ireturn, 1) := by decide +kernel
theorem lMo_findBy {sg : zSig} {f m g c lo hi : Int32} (n0 : 0 ≤ sg 395 0) (n2 : sg 395 0 ≤ 200) (g0 : 0 ≤ sg 395 1) (g1 : sg 395 1 ≤ 16) (hp : okP sg) (t0 : 0 ≤ sg 393 11) (t1 : sg 393 11 ≤ 400) {Q : Option Value → zHp → Prop} (hq : ∀ rr h', (∃ v sg', rr = some (.int v) ∧ h' = zN sg' ∧ mQ sg sg' ∧ ((¬ (((0 ≤ f ∧ f ≤ sg 395 0) ∧ sg 393 11 ≠ 0) ∧ (0 ≤ m ∧ m ≤ 15) ∧ (0 ≤ g ∧ g ≤ 15) ∧ (-1 ≤ c ∧ c ≤ 7) ∧ (0 ≤ lo ∧ lo ≤ 9) ∧ 0 ≤ hi ∧ hi ≤ 9) ∧ v = -1) ∨ ((((0 ≤ f ∧ f ≤ sg 395 0) ∧ sg 393 11 ≠ 0) ∧ (0 ≤ m ∧ m ≤ 15) ∧ (0 ≤ g ∧ g ≤ 15) ∧ (-1 ≤ c ∧ c ≤ 7) ∧ (0 ≤ lo ∧ lo ≤ 9) ∧ 0 ≤ hi ∧ hi ≤ 9) ∧ mFs sg f (mFy sg m g c lo hi) v))) → Q rr h') : zG mMo_findBy 411 Q 5 [(0, .ref 393), (1, .int f), (2, .int m), (3, .int g), (4, .int c), (5, .int lo), (6, .int hi)] [] (zN sg) := by
  refine zG_run bkMo_findBy_5 (lv' := [(0, .ref 393), (1, .int f), (2, .int m), (3, .int g), (4, .int c), (5, .int lo), (6, .int hi)]) (st' := [.int f, .ref 393]) (h' := zN sg) (Ps := []) rfl trivial ?_
  refine zG_callv (a := 393) (c := 10) (As := [.int f]) (rest := []) (N2 := 411) bdMo_findBy_7 okMo_isPlace lk10_97 (And.intro (by decide) (by decide)) (by decide) rfl rfl rfl (Nat.le_of_ble_eq_true rfl) (Nat.le_of_ble_eq_true rfl) (Nat.le_refl 411) (Nat.le_refl 411) zob_393 cMo_isPlace ?_
  rintro rr h' ⟨rfl, rfl⟩ -
  refine zb_ifeq (tgt := 85) bkMo_findBy_10 bdMo_findBy_10 (by decide) (lv' := [(0, .ref 393), (1, .int f), (2, .int m), (3, .int g), (4, .int c), (5, .int lo), (6, .int hi)]) (st' := []) (h' := zN sg) (x := if 0 ≤ f ∧ f ≤ sg 395 0 then 1 else 0) (Ps := []) rfl trivial (fun c1 => ?_) (fun c1 => ?_)
  · skip
    refine zb_iret bkMo_findBy_85 bdMo_findBy_86 rfl (x := (-1)) (h' := zN sg) (Ps := []) rfl trivial rfl ?_
    refine hq _ _ ?_
    exact ⟨_, _, rfl, rfl, mQ_refl, Or.inl ⟨by clear hq hp; grind, rfl⟩⟩
  · skip
    refine zb_ifeq (tgt := 85) bkMo_findBy_13 bdMo_findBy_17 (by decide) (lv' := [(0, .ref 393), (1, .int f), (2, .int m), (3, .int g), (4, .int c), (5, .int lo), (6, .int hi)]) (st' := []) (h' := zN sg) (x := sg 393 11) (Ps := [zOb (zN sg) 393 10]) rfl (zA zob_393 trivial) (fun c2 => ?_) (fun c2 => ?_)
    · skip
      refine zb_iret bkMo_findBy_85 bdMo_findBy_86 rfl (x := (-1)) (h' := zN sg) (Ps := []) rfl trivial rfl ?_
      refine hq _ _ ?_
      exact ⟨_, _, rfl, rfl, mQ_refl, Or.inl ⟨by clear hq hp; grind, rfl⟩⟩
    · skip
      refine zG_run bkMo_findBy_20 (lv' := [(0, .ref 393), (1, .int f), (2, .int m), (3, .int g), (4, .int c), (5, .int lo), (6, .int hi)]) (st' := [.long ((15 : Int32).toInt64), .long ((0 : Int32).toInt64), .long m.toInt64]) (h' := zN sg) (Ps := []) rfl trivial ?_
      refine zG_calls (As := [.long m.toInt64, .long ((0 : Int32).toInt64), .long ((15 : Int32).toInt64)]) (rest := []) (N2 := 411) bdMo_findBy_26 okMo_in lk10_87 (And.intro (by decide) (by decide)) rfl rfl (Nat.le_of_ble_eq_true rfl) (Nat.le_of_ble_eq_true rfl) (Nat.le_refl 411) (Nat.le_refl 411) cMo_inA ?_
      rintro rr h' ⟨rfl, rfl⟩ -
      refine zb_ifeq (tgt := 85) bkMo_findBy_29 bdMo_findBy_29 (by decide) (lv' := [(0, .ref 393), (1, .int f), (2, .int m), (3, .int g), (4, .int c), (5, .int lo), (6, .int hi)]) (st' := []) (h' := zN sg) (x := if 0 ≤ m ∧ m ≤ 15 then 1 else 0) (Ps := []) rfl trivial (fun c3 => ?_) (fun c3 => ?_)
      · skip
        refine zb_iret bkMo_findBy_85 bdMo_findBy_86 rfl (x := (-1)) (h' := zN sg) (Ps := []) rfl trivial rfl ?_
        refine hq _ _ ?_
        exact ⟨_, _, rfl, rfl, mQ_refl, Or.inl ⟨by clear hq hp; grind, rfl⟩⟩
      · skip
        refine zG_run bkMo_findBy_32 (lv' := [(0, .ref 393), (1, .int f), (2, .int m), (3, .int g), (4, .int c), (5, .int lo), (6, .int hi)]) (st' := [.long ((15 : Int32).toInt64), .long ((0 : Int32).toInt64), .long g.toInt64]) (h' := zN sg) (Ps := []) rfl trivial ?_
        refine zG_calls (As := [.long g.toInt64, .long ((0 : Int32).toInt64), .long ((15 : Int32).toInt64)]) (rest := []) (N2 := 411) bdMo_findBy_38 okMo_in lk10_87 (And.intro (by decide) (by decide)) rfl rfl (Nat.le_of_ble_eq_true rfl) (Nat.le_of_ble_eq_true rfl) (Nat.le_refl 411) (Nat.le_refl 411) cMo_inA ?_
        rintro rr h' ⟨rfl, rfl⟩ -
        refine zb_ifeq (tgt := 85) bkMo_findBy_41 bdMo_findBy_41 (by decide) (lv' := [(0, .ref 393), (1, .int f), (2, .int m), (3, .int g), (4, .int c), (5, .int lo), (6, .int hi)]) (st' := []) (h' := zN sg) (x := if 0 ≤ g ∧ g ≤ 15 then 1 else 0) (Ps := []) rfl trivial (fun c4 => ?_) (fun c4 => ?_)
        · skip
          refine zb_iret bkMo_findBy_85 bdMo_findBy_86 rfl (x := (-1)) (h' := zN sg) (Ps := []) rfl trivial rfl ?_
          refine hq _ _ ?_
          exact ⟨_, _, rfl, rfl, mQ_refl, Or.inl ⟨by clear hq hp; grind, rfl⟩⟩
        · skip
          refine zG_run bkMo_findBy_44 (lv' := [(0, .ref 393), (1, .int f), (2, .int m), (3, .int g), (4, .int c), (5, .int lo), (6, .int hi)]) (st' := [.long ((7 : Int32).toInt64), .long ((-1 : Int32).toInt64), .long c.toInt64]) (h' := zN sg) (Ps := []) rfl trivial ?_
          refine zG_calls (As := [.long c.toInt64, .long ((-1 : Int32).toInt64), .long ((7 : Int32).toInt64)]) (rest := []) (N2 := 411) bdMo_findBy_53 okMo_in lk10_87 (And.intro (by decide) (by decide)) rfl rfl (Nat.le_of_ble_eq_true rfl) (Nat.le_of_ble_eq_true rfl) (Nat.le_refl 411) (Nat.le_refl 411) cMo_inA ?_
          rintro rr h' ⟨rfl, rfl⟩ -
          refine zb_ifeq (tgt := 85) bkMo_findBy_56 bdMo_findBy_56 (by decide) (lv' := [(0, .ref 393), (1, .int f), (2, .int m), (3, .int g), (4, .int c), (5, .int lo), (6, .int hi)]) (st' := []) (h' := zN sg) (x := if (-1) ≤ c ∧ c ≤ 7 then 1 else 0) (Ps := []) rfl trivial (fun c5 => ?_) (fun c5 => ?_)
          · skip
            refine zb_iret bkMo_findBy_85 bdMo_findBy_86 rfl (x := (-1)) (h' := zN sg) (Ps := []) rfl trivial rfl ?_
            refine hq _ _ ?_
            exact ⟨_, _, rfl, rfl, mQ_refl, Or.inl ⟨by clear hq hp; grind, rfl⟩⟩
          · skip
            refine zG_run bkMo_findBy_59 (lv' := [(0, .ref 393), (1, .int f), (2, .int m), (3, .int g), (4, .int c), (5, .int lo), (6, .int hi)]) (st' := [.long ((9 : Int32).toInt64), .long ((0 : Int32).toInt64), .long lo.toInt64]) (h' := zN sg) (Ps := []) rfl trivial ?_
            refine zG_calls (As := [.long lo.toInt64, .long ((0 : Int32).toInt64), .long ((9 : Int32).toInt64)]) (rest := []) (N2 := 411) bdMo_findBy_66 okMo_in lk10_87 (And.intro (by decide) (by decide)) rfl rfl (Nat.le_of_ble_eq_true rfl) (Nat.le_of_ble_eq_true rfl) (Nat.le_refl 411) (Nat.le_refl 411) cMo_inA ?_
            rintro rr h' ⟨rfl, rfl⟩ -
            refine zb_ifeq (tgt := 85) bkMo_findBy_69 bdMo_findBy_69 (by decide) (lv' := [(0, .ref 393), (1, .int f), (2, .int m), (3, .int g), (4, .int c), (5, .int lo), (6, .int hi)]) (st' := []) (h' := zN sg) (x := if 0 ≤ lo ∧ lo ≤ 9 then 1 else 0) (Ps := []) rfl trivial (fun c6 => ?_) (fun c6 => ?_)
            · skip
              refine zb_iret bkMo_findBy_85 bdMo_findBy_86 rfl (x := (-1)) (h' := zN sg) (Ps := []) rfl trivial rfl ?_
              refine hq _ _ ?_
              exact ⟨_, _, rfl, rfl, mQ_refl, Or.inl ⟨by clear hq hp; grind, rfl⟩⟩
            · skip
              refine zG_run bkMo_findBy_72 (lv' := [(0, .ref 393), (1, .int f), (2, .int m), (3, .int g), (4, .int c), (5, .int lo), (6, .int hi)]) (st' := [.long ((9 : Int32).toInt64), .long ((0 : Int32).toInt64), .long hi.toInt64]) (h' := zN sg) (Ps := []) rfl trivial ?_
              refine zG_calls (As := [.long hi.toInt64, .long ((0 : Int32).toInt64), .long ((9 : Int32).toInt64)]) (rest := []) (N2 := 411) bdMo_findBy_79 okMo_in lk10_87 (And.intro (by decide) (by decide)) rfl rfl (Nat.le_of_ble_eq_true rfl) (Nat.le_of_ble_eq_true rfl) (Nat.le_refl 411) (Nat.le_refl 411) cMo_inA ?_
              rintro rr h' ⟨rfl, rfl⟩ -
              refine zb_ifne (tgt := 87) bkMo_findBy_82 bdMo_findBy_82 (by decide) (lv' := [(0, .ref 393), (1, .int f), (2, .int m), (3, .int g), (4, .int c), (5, .int lo), (6, .int hi)]) (st' := []) (h' := zN sg) (x := if 0 ≤ hi ∧ hi ≤ 9 then 1 else 0) (Ps := []) rfl trivial (fun c7 => ?_) (fun c7 => ?_)
              · skip
                have hc : ((0 ≤ f ∧ f ≤ sg 395 0) ∧ sg 393 11 ≠ 0) ∧ (0 ≤ m ∧ m ≤ 15) ∧ (0 ≤ g ∧ g ≤ 15) ∧ (-1 ≤ c ∧ c ≤ 7) ∧ (0 ≤ lo ∧ lo ≤ 9) ∧ 0 ≤ hi ∧ hi ≤ 9 := by clear hq hp; grind (splits := 40)
                refine zG_run bkMo_findBy_87 (lv' := [(7, .int f), (0, .ref 393), (1, .int f), (2, .int m), (3, .int g), (4, .int c), (5, .int lo), (6, .int hi)]) (st' := []) (h' := zN sg) (Ps := []) rfl trivial ?_
                refine zG_pick (lv' := [(0, .ref 393), (1, .int f), (2, .int m), (3, .int g), (4, .int c), (5, .int lo), (6, .int hi), (7, .int f)]) [1, 2, 3, 4, 5, 6, 7, 0] rfl ?_
                refine zlp2 (fun (p : Int32) (sg0 : zSig) => zG mMo_findBy 411 Q 90 [(0, .ref 393), (1, .int f), (2, .int m), (3, .int g), (4, .int c), (5, .int lo), (6, .int hi), (7, .int p)] [] (zN sg0)) (fun (p : Int32) (sg0 : zSig) => (f ≤ p) ∧ (p ≤ sg 395 0) ∧ (mQ sg sg0) ∧ (∀ q, f ≤ q → q < p → ¬ mFy sg m g c lo hi q)) (fun (p : Int32) (sg0 : zSig) => zmu (sg 395 0) p) ?_ f sg ?_
                · intro p sg0 ho iho
                  obtain ⟨p0, p1, lf, pz⟩ := ho
                  have lr := mQ_row lf
                  have le0 : sg0 395 0 = sg 395 0 := congrFun lr 0
                  have le1 : sg0 395 1 = sg 395 1 := congrFun lr 1
                  have let1 : sg0 393 11 = sg 393 11 := lf 393 11 (by decide) (by decide) (by decide) (by decide) (by decide) (by decide)
                  refine zb_icge (tgt := 186) bkMo_findBy_90 bdMo_findBy_98 (by decide) (lv' := [(0, .ref 393), (1, .int f), (2, .int m), (3, .int g), (4, .int c), (5, .int lo), (6, .int hi), (7, .int p)]) (st' := []) (h' := zN sg0) (x := p) (y := sg0 395 0) (Ps := [zOb (zN sg0) 393 10 ∧ (zN sg0).2.2 393 3 = true, zInL (zN sg0) 395 0]) rfl (zA ⟨zob_393, rfl⟩ (zA (zinL_395 (i := 0) (by decide) (by decide)) trivial)) (fun c8 => ?_) (fun c8 => ?_)
                  · skip
                    refine zb_iret bkMo_findBy_186 bdMo_findBy_187 rfl (x := (-1)) (h' := zN sg0) (Ps := []) rfl trivial rfl ?_
                    refine hq _ _ ?_
                    exact ⟨_, _, rfl, rfl, lf, Or.inr ⟨hc, Or.inr ⟨hc.1.1, hc.1.2, Or.inr ⟨rfl, fun q q0 q1 => pz q q0 (by lia)⟩⟩⟩⟩
                  · skip
                    refine zG_run bkMo_findBy_101 (lv' := [(0, .ref 393), (1, .int f), (2, .int m), (3, .int g), (4, .int c), (5, .int lo), (6, .int hi), (7, .int p)]) (st' := [.int p, .ref 393]) (h' := zN sg0) (Ps := []) rfl trivial ?_
                    refine zG_callv (a := 393) (c := 10) (As := [.int p]) (rest := []) (N2 := 411) bdMo_findBy_104 okMo_stands lk10_288 (And.intro (by decide) (by decide)) (by decide) rfl rfl rfl (Nat.le_of_ble_eq_true rfl) (Nat.le_of_ble_eq_true rfl) (Nat.le_refl 411) (Nat.le_refl 411) zob_393 (cMo_stands (p := p) (by lia) (by lia) (by lia) (by lia) (by lia) (by lia)) ?_
                    rintro rr h' ⟨vs, rfl, rfl, hvs⟩ -
                    rw [mStd_Q lf] at hvs
                    refine zG_run bkMo_findBy_107 (lv' := [(9, .int 0), (8, .int vs), (0, .ref 393), (1, .int f), (2, .int m), (3, .int g), (4, .int c), (5, .int lo), (6, .int hi), (7, .int p)]) (st' := []) (h' := zN sg0) (Ps := []) rfl trivial ?_
                    refine zG_pick (lv' := [(0, .ref 393), (1, .int f), (2, .int m), (3, .int g), (4, .int c), (5, .int lo), (6, .int hi), (7, .int p), (8, .int vs), (9, .int 0)]) [2, 3, 4, 5, 6, 7, 8, 9, 1, 0] rfl ?_
                    refine zlp3 (fun (b : Int32) (k : Int32) (sg1 : zSig) => zG mMo_findBy 411 Q 112 [(0, .ref 393), (1, .int f), (2, .int m), (3, .int g), (4, .int c), (5, .int lo), (6, .int hi), (7, .int p), (8, .int b), (9, .int k)] [] (zN sg1)) (fun (b : Int32) (k : Int32) (sg1 : zSig) => (0 ≤ k) ∧ (k ≤ sg 393 11) ∧ (mQ sg sg1) ∧ ((b = 1 ∧ mStd sg p ∧ ∀ j, 0 ≤ j → j < k → mFt sg m g c lo hi p j) ∨ (b = 0 ∧ ¬ mFy sg m g c lo hi p))) (fun (b : Int32) (k : Int32) (sg1 : zSig) => zmu (sg 393 11) k) ?_ vs 0 sg0 ?_
                    · intro b k sg1 hk ihk
                      obtain ⟨k0, k1, kf, kz⟩ := hk
                      have kr := mQ_row kf
                      have ke0 : sg1 395 0 = sg 395 0 := congrFun kr 0
                      have ke1 : sg1 395 1 = sg 395 1 := congrFun kr 1
                      have ket : sg1 393 11 = sg 393 11 := kf 393 11 (by decide) (by decide) (by decide) (by decide) (by decide) (by decide)
                      have kb : b = 1 → p + sg 393 11 ≤ sg 395 0 := fun hb => kz.elim (fun h => h.2.1.1) (fun h => absurd h.1 (by lia))
                      refine zb_icge (tgt := 172) bkMo_findBy_112 bdMo_findBy_118 (by decide) (lv' := [(0, .ref 393), (1, .int f), (2, .int m), (3, .int g), (4, .int c), (5, .int lo), (6, .int hi), (7, .int p), (8, .int b), (9, .int k)]) (st' := []) (h' := zN sg1) (x := k) (y := sg1 393 11) (Ps := [zOb (zN sg1) 393 10]) rfl (zA zob_393 trivial) (fun c9 => ?_) (fun c9 => ?_)
                      · skip
                        refine zb_ifeq (tgt := 180) bkMo_findBy_172 bdMo_findBy_174 (by decide) (lv' := [(0, .ref 393), (1, .int f), (2, .int m), (3, .int g), (4, .int c), (5, .int lo), (6, .int hi), (7, .int p), (8, .int b), (9, .int k)]) (st' := []) (h' := zN sg1) (x := b) (Ps := []) rfl trivial (fun c10 => ?_) (fun c10 => ?_)
                        · skip
                          refine zG_run bkMo_findBy_180 (lv' := [(7, .int (p + 1)), (0, .ref 393), (1, .int f), (2, .int m), (3, .int g), (4, .int c), (5, .int lo), (6, .int hi), (8, .int b), (9, .int k)]) (st' := []) (h' := zN sg1) (Ps := []) rfl trivial ?_
                          refine zG_pick (lv' := [(0, .ref 393), (1, .int f), (2, .int m), (3, .int g), (4, .int c), (5, .int lo), (6, .int hi), (7, .int (p + 1))]) [1, 2, 3, 4, 5, 6, 7, 0] rfl ?_
                          refine iho (p + 1) sg1 ?_ ?_
                          · refine ⟨?_, ?_, ?_, ?_⟩
                            · lia
                            · lia
                            · exact kf
                            · intro q q0 q1; by_cases hq2 : q = p
                              · rw [hq2]; exact kz.elim (fun h => absurd h.1 (by lia)) (fun h => h.2)
                              · exact pz q q0 (by lia)
                          · exact zmu_up (by lia)
                        · skip
                          refine zb_iret bkMo_findBy_177 bdMo_findBy_179 rfl (x := p) (h' := zN sg1) (Ps := []) rfl trivial rfl ?_
                          refine hq _ _ ?_
                          refine ⟨_, _, rfl, rfl, kf, Or.inr ⟨hc, Or.inr ⟨hc.1.1, hc.1.2, Or.inl ⟨p0, by lia, ?_, pz⟩⟩⟩⟩
                          rcases kz with ⟨h1, h2, h3⟩ | h
                          · exact ⟨h2, fun j j0 j1 => h3 j j0 (by lia)⟩
                          · exact absurd h.1 (by lia)
                      · skip
                        refine zb_ifeq (tgt := 172) bkMo_findBy_121 bdMo_findBy_123 (by decide) (lv' := [(0, .ref 393), (1, .int f), (2, .int m), (3, .int g), (4, .int c), (5, .int lo), (6, .int hi), (7, .int p), (8, .int b), (9, .int k)]) (st' := []) (h' := zN sg1) (x := b) (Ps := []) rfl trivial (fun c11 => ?_) (fun c11 => ?_)
                        · skip
                          refine zb_ifeq (tgt := 180) bkMo_findBy_172 bdMo_findBy_174 (by decide) (lv' := [(0, .ref 393), (1, .int f), (2, .int m), (3, .int g), (4, .int c), (5, .int lo), (6, .int hi), (7, .int p), (8, .int b), (9, .int k)]) (st' := []) (h' := zN sg1) (x := b) (Ps := []) rfl trivial (fun c12 => ?_) (fun c12 => ?_)
                          · skip
                            refine zG_run bkMo_findBy_180 (lv' := [(7, .int (p + 1)), (0, .ref 393), (1, .int f), (2, .int m), (3, .int g), (4, .int c), (5, .int lo), (6, .int hi), (8, .int b), (9, .int k)]) (st' := []) (h' := zN sg1) (Ps := []) rfl trivial ?_
                            refine zG_pick (lv' := [(0, .ref 393), (1, .int f), (2, .int m), (3, .int g), (4, .int c), (5, .int lo), (6, .int hi), (7, .int (p + 1))]) [1, 2, 3, 4, 5, 6, 7, 0] rfl ?_
                            refine iho (p + 1) sg1 ?_ ?_
                            · refine ⟨?_, ?_, ?_, ?_⟩
                              · lia
                              · lia
                              · exact kf
                              · intro q q0 q1; by_cases hq2 : q = p
                                · rw [hq2]; exact kz.elim (fun h => absurd h.1 (by lia)) (fun h => h.2)
                                · exact pz q q0 (by lia)
                            · exact zmu_up (by lia)
                          · skip
                            refine zb_iret bkMo_findBy_177 bdMo_findBy_179 rfl (x := p) (h' := zN sg1) (Ps := []) rfl trivial rfl ?_
                            refine hq _ _ ?_
                            refine ⟨_, _, rfl, rfl, kf, Or.inr ⟨hc, Or.inr ⟨hc.1.1, hc.1.2, Or.inl ⟨p0, by lia, ?_, pz⟩⟩⟩⟩
                            rcases kz with ⟨h1, h2, h3⟩ | h
                            · exact ⟨h2, fun j j0 j1 => h3 j j0 (by lia)⟩
                            · exact absurd h.1 (by lia)
                        · skip
                          refine zG_run bkMo_findBy_126 (lv' := [(0, .ref 393), (1, .int f), (2, .int m), (3, .int g), (4, .int c), (5, .int lo), (6, .int hi), (7, .int p), (8, .int b), (9, .int k)]) (st' := [.int c, .int g, .int m, .int (p + k), .ref 393]) (h' := zN sg1) (Ps := []) rfl trivial ?_
                          refine zG_callv (a := 393) (c := 10) (As := [.int (p + k), .int m, .int g, .int c]) (rest := []) (N2 := 411) bdMo_findBy_136 okMo_isSo lk10_291 (And.intro (by decide) (by decide)) (by decide) rfl rfl rfl (Nat.le_of_ble_eq_true rfl) (Nat.le_of_ble_eq_true rfl) (Nat.le_refl 411) (Nat.le_refl 411) zob_393 (cMo_isSo (i := p + k) (m := m) (g := g) (c := c) (by lia) (by lia) (by lia) (by lia)) ?_
                          rintro rr h' ⟨vo, sg13, rfl, rfl, hfo, hto, hvo⟩ -
                          rw [mS_row kr] at hto hvo
                          have e18 : sg13 393 18 = (mS sg (-1) (p + k)).2.2 := by rw [← hto]; rfl
                          have hQo : mQ sg sg13 := mQ_trans kf (mFr_Q hfo)
                          refine zb_ifeq (tgt := 163) bkMo_findBy_139 bdMo_findBy_139 (by decide) (lv' := [(0, .ref 393), (1, .int f), (2, .int m), (3, .int g), (4, .int c), (5, .int lo), (6, .int hi), (7, .int p), (8, .int b), (9, .int k)]) (st' := []) (h' := zN sg13) (x := vo) (Ps := []) rfl trivial (fun c14 => ?_) (fun c14 => ?_)
                          · skip
                            refine zG_run bkMo_findBy_163 (lv' := [(9, .int (k + 1)), (8, .int 0), (0, .ref 393), (1, .int f), (2, .int m), (3, .int g), (4, .int c), (5, .int lo), (6, .int hi), (7, .int p)]) (st' := []) (h' := zN sg13) (Ps := []) rfl trivial ?_
                            refine zG_pick (lv' := [(0, .ref 393), (1, .int f), (2, .int m), (3, .int g), (4, .int c), (5, .int lo), (6, .int hi), (7, .int p), (8, .int 0), (9, .int (k + 1))]) [2, 3, 4, 5, 6, 7, 8, 9, 1, 0] rfl ?_
                            refine ihk 0 (k + 1) sg13 ?_ ?_
                            · refine ⟨?_, ?_, ?_, ?_⟩
                              · lia
                              · lia
                              · exact hQo
                              · refine Or.inr ⟨rfl, fun hs => ?_⟩
                                have hk1 := hs.2 k k0 (by lia)
                                rcases hvo with ⟨h1, h2⟩ | ⟨h1, h2⟩
                                · have q1 := hk1.2; clear ihk iho hq hs hk1; grind
                                · exact h2 hk1.1
                            · exact zmu_up (by lia)
                          · skip
                            refine zG_run bkMo_findBy_142 (lv' := [(0, .ref 393), (1, .int f), (2, .int m), (3, .int g), (4, .int c), (5, .int lo), (6, .int hi), (7, .int p), (8, .int b), (9, .int k)]) (st' := [.long hi.toInt64, .long lo.toInt64, .long ((sg13 393 18).toInt64)]) (h' := zN sg13) (Ps := [zOb (zN sg13) 393 10]) rfl (zA zob_393 trivial) ?_
                            refine zG_calls (As := [.long ((sg13 393 18).toInt64), .long lo.toInt64, .long hi.toInt64]) (rest := []) (N2 := 411) bdMo_findBy_153 okMo_in lk10_87 (And.intro (by decide) (by decide)) rfl rfl (Nat.le_of_ble_eq_true rfl) (Nat.le_of_ble_eq_true rfl) (Nat.le_refl 411) (Nat.le_refl 411) cMo_inA ?_
                            rintro rr h' ⟨rfl, rfl⟩ -
                            refine zb_ifeq (tgt := 163) bkMo_findBy_156 bdMo_findBy_156 (by decide) (lv' := [(0, .ref 393), (1, .int f), (2, .int m), (3, .int g), (4, .int c), (5, .int lo), (6, .int hi), (7, .int p), (8, .int b), (9, .int k)]) (st' := []) (h' := zN sg13) (x := if lo ≤ (sg13 393 18) ∧ (sg13 393 18) ≤ hi then 1 else 0) (Ps := []) rfl trivial (fun c15 => ?_) (fun c15 => ?_)
                            · skip
                              refine zG_run bkMo_findBy_163 (lv' := [(9, .int (k + 1)), (8, .int 0), (0, .ref 393), (1, .int f), (2, .int m), (3, .int g), (4, .int c), (5, .int lo), (6, .int hi), (7, .int p)]) (st' := []) (h' := zN sg13) (Ps := []) rfl trivial ?_
                              refine zG_pick (lv' := [(0, .ref 393), (1, .int f), (2, .int m), (3, .int g), (4, .int c), (5, .int lo), (6, .int hi), (7, .int p), (8, .int 0), (9, .int (k + 1))]) [2, 3, 4, 5, 6, 7, 8, 9, 1, 0] rfl ?_
                              refine ihk 0 (k + 1) sg13 ?_ ?_
                              · refine ⟨?_, ?_, ?_, ?_⟩
                                · lia
                                · lia
                                · exact hQo
                                · refine Or.inr ⟨rfl, fun hs => ?_⟩
                                  have hk1 := hs.2 k k0 (by lia)
                                  rcases hvo with ⟨h1, h2⟩ | ⟨h1, h2⟩
                                  · have q1 := hk1.2; clear ihk iho hq hs hk1; grind
                                  · exact h2 hk1.1
                              · exact zmu_up (by lia)
                            · skip
                              refine zG_run bkMo_findBy_159 (lv' := [(9, .int (k + 1)), (8, .int 1), (0, .ref 393), (1, .int f), (2, .int m), (3, .int g), (4, .int c), (5, .int lo), (6, .int hi), (7, .int p)]) (st' := []) (h' := zN sg13) (Ps := []) rfl trivial ?_
                              refine zG_pick (lv' := [(0, .ref 393), (1, .int f), (2, .int m), (3, .int g), (4, .int c), (5, .int lo), (6, .int hi), (7, .int p), (8, .int 1), (9, .int (k + 1))]) [2, 3, 4, 5, 6, 7, 8, 9, 1, 0] rfl ?_
                              refine ihk 1 (k + 1) sg13 ?_ ?_
                              · refine ⟨?_, ?_, ?_, ?_⟩
                                · lia
                                · lia
                                · exact hQo
                                · refine Or.inl ⟨rfl, ?_⟩
                                  rcases kz with ⟨-, h2, h3⟩ | h
                                  · refine ⟨h2, fun j j0 j1 => ?_⟩
                                    by_cases hj : j = k
                                    · rw [hj]; exact ⟨hvo.elim (fun h => h.2) (fun h => absurd h.1 (by lia)), by clear ihk iho hq hvo h3; grind⟩
                                    · exact h3 j j0 (by lia)
                                  · exact absurd h.1 (by lia)
                              · exact zmu_up (by lia)
                    · refine ⟨?_, ?_, ?_, ?_⟩
                      · lia
                      · lia
                      · exact lf
                      · rcases hvs with ⟨h1, h2⟩ | ⟨h1, h2⟩
                        · exact Or.inl ⟨h1, h2, fun j j0 j1 => by exfalso; lia⟩
                        · exact Or.inr ⟨h1, fun h => h2 h.1⟩
                · refine ⟨?_, ?_, ?_, ?_⟩
                  · lia
                  · lia
                  · exact mQ_refl
                  · intro q q0 q1; exfalso; lia
              · skip
                refine zb_iret bkMo_findBy_85 bdMo_findBy_86 rfl (x := (-1)) (h' := zN sg) (Ps := []) rfl trivial rfl ?_
                refine hq _ _ ?_
                exact ⟨_, _, rfl, rfl, mQ_refl, Or.inl ⟨by clear hq hp; grind, rfl⟩⟩
theorem bMo_findBy {sg : zSig} {f m g c lo hi : Int32} (n0 : 0 ≤ sg 395 0) (n2 : sg 395 0 ≤ 200) (g0 : 0 ≤ sg 395 1) (g1 : sg 395 1 ≤ 16) (hp : okP sg) (t0 : 0 ≤ sg 393 11) (t1 : sg 393 11 ≤ 400) : zG mMo_findBy 411 (fun rr h' => ∃ v sg', rr = some (.int v) ∧ h' = zN sg' ∧ mQ sg sg' ∧ ((¬ (((0 ≤ f ∧ f ≤ sg 395 0) ∧ sg 393 11 ≠ 0) ∧ (0 ≤ m ∧ m ≤ 15) ∧ (0 ≤ g ∧ g ≤ 15) ∧ (-1 ≤ c ∧ c ≤ 7) ∧ (0 ≤ lo ∧ lo ≤ 9) ∧ 0 ≤ hi ∧ hi ≤ 9) ∧ v = -1) ∨ ((((0 ≤ f ∧ f ≤ sg 395 0) ∧ sg 393 11 ≠ 0) ∧ (0 ≤ m ∧ m ≤ 15) ∧ (0 ≤ g ∧ g ≤ 15) ∧ (-1 ≤ c ∧ c ≤ 7) ∧ (0 ≤ lo ∧ lo ≤ 9) ∧ 0 ≤ hi ∧ hi ≤ 9) ∧ mFs sg f (mFy sg m g c lo hi) v))) 5 [(0, .ref 393), (1, .int f), (2, .int m), (3, .int g), (4, .int c), (5, .int lo), (6, .int hi)] [] (zN sg) := lMo_findBy n0 n2 g0 g1 hp t0 t1 (fun _ _ q => q)
theorem tMo_findBy {sg : zSig} {f m g c lo hi : Int32} {Q : Option Value → zHp → Prop} (gz : zG mMo_findBy 411 Q 5 [(0, .ref 393), (1, .int f), (2, .int m), (3, .int g), (4, .int c), (5, .int lo), (6, .int hi)] [] (zN (zup sg 393 0 0))) : zG mMo_findBy 411 Q 0 [(0, .ref 393), (1, .int f), (2, .int m), (3, .int g), (4, .int c), (5, .int lo), (6, .int hi)] [] (zN sg) :=
  zG_run bkMo_findBy_0 (lv' := [(0, .ref 393), (1, .int f), (2, .int m), (3, .int g), (4, .int c), (5, .int lo), (6, .int hi)]) (st' := []) (h' := zN (zup sg 393 0 0)) (Ps := [zOb (zN sg) 393 10]) rfl (zA zob_393 trivial) gz
def mBh (sg : zSig) (k x l : Int32) : Int32 := if sg 397 k = 0 then pOn x l (sg 398 (3 * k)) (sg 398 (3 * k + 2)) else if sg 397 k = 1 then pBk x (sg 398 (3 * k)) (sg 398 (3 * k + 1)) else if sg 397 k = 2 then (if sg 398 (3 * k) < x ∧ x < sg 398 (3 * k + 1) then x - sg 398 (3 * k) + sg 398 (3 * k + 2) else pOn (pBk x (sg 398 (3 * k)) (sg 398 (3 * k + 1))) l (sg 398 (3 * k + 2)) (sg 398 (3 * k + 1) - sg 398 (3 * k))) else if sg 397 k = 12 then (if 1 < sg 398 (3 * k + 1) - sg 398 (3 * k) then pBk (pBk (pOn x l (sg 398 (3 * k) + 1) (sg 398 (3 * k + 2))) (sg 398 (3 * k)) (sg 398 (3 * k) + 1)) (sg 398 (3 * k) + sg 398 (3 * k + 2)) (sg 398 (3 * k + 1) + sg 398 (3 * k + 2) - 1) else pBk (pOn x l (sg 398 (3 * k) + 1) (sg 398 (3 * k + 2))) (sg 398 (3 * k)) (sg 398 (3 * k) + 1)) else x
theorem bkMo_behind_0 : zBk mMo_behind 0 [(1, 0, 1, 0, 0), (5, 10, 7, 5, 7), (0, 0, 0, 0, 3), (1, 1, 0, 0, 0), (4, 2, 0, 0, 0), (7, 0, 0, 0, 0), (2, 4, 0, 0, 0), (1, 0, 1, 0, 0), (5, 10, 7, 5, 7), (0, 0, 0, 0, 3), (1, 1, 0, 0, 0), (4, 2, 0, 0, 0), (0, 0, 0, 0, 1), (4, 0, 0, 0, 0), (7, 0, 0, 0, 0), (2, 5, 0, 0, 0), (1, 0, 1, 0, 0), (5, 10, 7, 5, 7), (0, 0, 0, 0, 3), (1, 1, 0, 0, 0), (4, 2, 0, 0, 0), (0, 0, 0, 0, 2), (4, 0, 0, 0, 0), (7, 0, 0, 0, 0), (2, 6, 0, 0, 0), (1, 0, 1, 0, 0), (5, 10, 5, 4, 5), (1, 1, 0, 0, 0), (7, 0, 0, 0, 0)] = some 40 := by decide +kernel
theorem bkMo_behind_53 : zBk mMo_behind 53 [(1, 0, 1, 0, 0), (5, 10, 5, 4, 5), (1, 1, 0, 0, 0), (7, 0, 0, 0, 0), (0, 0, 0, 0, 1)] = some 60 := by decide +kernel
theorem bkMo_behind_72 : zBk mMo_behind 72 [(1, 0, 1, 0, 0), (5, 10, 5, 4, 5), (1, 1, 0, 0, 0), (7, 0, 0, 0, 0), (0, 0, 0, 0, 2)] = some 79 := by decide +kernel
theorem bkMo_behind_124 : zBk mMo_behind 124 [(1, 0, 1, 0, 0), (5, 10, 5, 4, 5), (1, 1, 0, 0, 0), (7, 0, 0, 0, 0), (0, 0, 0, 0, 12)] = some 132 := by decide +kernel
theorem bkMo_behind_189 : zBk mMo_behind 189 [(1, 2, 0, 0, 0)] = some 190 := by decide +kernel
theorem bkMo_behind_135 : zBk mMo_behind 135 [(1, 2, 0, 0, 0), (1, 3, 0, 0, 0), (1, 4, 0, 0, 0), (0, 0, 0, 0, 1), (4, 0, 0, 0, 0), (1, 6, 0, 0, 0)] = some 143 := by decide +kernel
theorem bkMo_behind_146 : zBk mMo_behind 146 [(1, 4, 0, 0, 0), (1, 4, 0, 0, 0), (0, 0, 0, 0, 1), (4, 0, 0, 0, 0)] = some 152 := by decide +kernel
theorem bkMo_behind_155 : zBk mMo_behind 155 [(2, 7, 0, 0, 0), (1, 5, 0, 0, 0), (1, 4, 0, 0, 0), (4, 1, 0, 0, 0), (0, 0, 0, 0, 1)] = some 163 := by decide +kernel
theorem bkMo_behind_186 : zBk mMo_behind 186 [(1, 7, 0, 0, 0)] = some 188 := by decide +kernel
theorem bkMo_behind_166 : zBk mMo_behind 166 [(1, 7, 0, 0, 0), (1, 4, 0, 0, 0), (1, 6, 0, 0, 0), (4, 0, 0, 0, 0), (1, 5, 0, 0, 0), (1, 6, 0, 0, 0), (4, 0, 0, 0, 0), (0, 0, 0, 0, 1), (4, 1, 0, 0, 0)] = some 180 := by decide +kernel
theorem bkMo_behind_183 : zBk mMo_behind 183 [(22, 188, 0, 0, 0)] = some 188 := by decide +kernel
theorem bkMo_behind_82 : zBk mMo_behind 82 [(1, 2, 0, 0, 0), (1, 4, 0, 0, 0)] = some 85 := by decide +kernel
theorem bkMo_behind_104 : zBk mMo_behind 104 [(1, 2, 0, 0, 0), (1, 4, 0, 0, 0), (1, 5, 0, 0, 0)] = some 109 := by decide +kernel
theorem bkMo_behind_112 : zBk mMo_behind 112 [(1, 3, 0, 0, 0), (1, 6, 0, 0, 0), (1, 5, 0, 0, 0), (1, 4, 0, 0, 0), (4, 1, 0, 0, 0)] = some 120 := by decide +kernel
theorem bkMo_behind_123 : zBk mMo_behind 123 [] = some 123 := by decide +kernel
theorem bkMo_behind_88 : zBk mMo_behind 88 [(1, 2, 0, 0, 0), (1, 5, 0, 0, 0)] = some 91 := by decide +kernel
theorem bkMo_behind_94 : zBk mMo_behind 94 [(1, 2, 0, 0, 0), (1, 4, 0, 0, 0), (4, 1, 0, 0, 0), (1, 6, 0, 0, 0), (4, 0, 0, 0, 0), (22, 123, 0, 0, 0)] = some 123 := by decide +kernel
theorem bkMo_behind_63 : zBk mMo_behind 63 [(1, 2, 0, 0, 0), (1, 4, 0, 0, 0), (1, 5, 0, 0, 0)] = some 68 := by decide +kernel
theorem bkMo_behind_71 : zBk mMo_behind 71 [] = some 71 := by decide +kernel
theorem bkMo_behind_43 : zBk mMo_behind 43 [(1, 2, 0, 0, 0), (1, 3, 0, 0, 0), (1, 4, 0, 0, 0), (1, 6, 0, 0, 0)] = some 49 := by decide +kernel
theorem bkMo_behind_52 : zBk mMo_behind 52 [] = some 52 := by decide +kernel
theorem bdMo_behind_40 : decode mMo_behind.2.2.1 40 = .ok (.ifCond .ne 13, 3) := by decide +kernel
theorem bdMo_behind_49 : decode mMo_behind.2.2.1 49 = .ok (.invokestatic 105, 3) := by decide +kernel
theorem bdMo_behind_52 : decode mMo_behind.2.2.1 52 = .ok (.ireturn, 1) := by decide +kernel
theorem bdMo_behind_60 : decode mMo_behind.2.2.1 60 = .ok (.if_icmp .ne 12, 3) := by decide +kernel
theorem bdMo_behind_68 : decode mMo_behind.2.2.1 68 = .ok (.invokestatic 109, 3) := by decide +kernel
theorem bdMo_behind_71 : decode mMo_behind.2.2.1 71 = .ok (.ireturn, 1) := by decide +kernel
theorem bdMo_behind_79 : decode mMo_behind.2.2.1 79 = .ok (.if_icmp .ne 45, 3) := by decide +kernel
theorem bdMo_behind_85 : decode mMo_behind.2.2.1 85 = .ok (.if_icmp .le 19, 3) := by decide +kernel
theorem bdMo_behind_91 : decode mMo_behind.2.2.1 91 = .ok (.if_icmp .ge 13, 3) := by decide +kernel
theorem bdMo_behind_109 : decode mMo_behind.2.2.1 109 = .ok (.invokestatic 109, 3) := by decide +kernel
theorem bdMo_behind_120 : decode mMo_behind.2.2.1 120 = .ok (.invokestatic 105, 3) := by decide +kernel
theorem bdMo_behind_123 : decode mMo_behind.2.2.1 123 = .ok (.ireturn, 1) := by decide +kernel
theorem bdMo_behind_132 : decode mMo_behind.2.2.1 132 = .ok (.if_icmp .ne 57, 3) := by decide +kernel
theorem bdMo_behind_143 : decode mMo_behind.2.2.1 143 = .ok (.invokestatic 105, 3) := by decide +kernel
theorem bdMo_behind_152 : decode mMo_behind.2.2.1 152 = .ok (.invokestatic 109, 3) := by decide +kernel
theorem bdMo_behind_163 : decode mMo_behind.2.2.1 163 = .ok (.if_icmp .le 23, 3) := by decide +kernel
theorem bdMo_behind_180 : decode mMo_behind.2.2.1 180 = .ok (.invokestatic 109, 3) := by decide +kernel
theorem bdMo_behind_188 : decode mMo_behind.2.2.1 188 = .ok (.ireturn, 1) := by decide +kernel
theorem bdMo_behind_190 : decode mMo_behind.2.2.1 190 = .ok (.ireturn, 1) := by decide +kernel
theorem cMo_behind {sg : zSig} {k x l : Int32} (k0 : 0 ≤ k) (k1 : k < 8) : zG mMo_behind 411 (fun rr h' => rr = some (.int (mBh sg k x l)) ∧ h' = zN sg) 0 [(0, .ref 393), (1, .int k), (2, .int x), (3, .int l)] [] (zN sg) := by
  refine zb_ifne (tgt := 53) bkMo_behind_0 bdMo_behind_40 (by decide) (lv' := [(6, .int (sg 398 ((3 * k) + 2))), (5, .int (sg 398 ((3 * k) + 1))), (4, .int (sg 398 (3 * k))), (0, .ref 393), (1, .int k), (2, .int x), (3, .int l)]) (st' := []) (h' := zN sg) (x := sg 397 k) (Ps := [zOb (zN sg) 393 10 ∧ (zN sg).2.2 393 7 = true, zInL (zN sg) 398 (3 * k), zOb (zN sg) 393 10 ∧ (zN sg).2.2 393 7 = true, zInL (zN sg) 398 ((3 * k) + 1), zOb (zN sg) 393 10 ∧ (zN sg).2.2 393 7 = true, zInL (zN sg) 398 ((3 * k) + 2), zOb (zN sg) 393 10 ∧ (zN sg).2.2 393 5 = true, zInL (zN sg) 397 k]) rfl (zA ⟨zob_393, rfl⟩ (zA (zinL_398 (i := 3 * k) (by lia) (by lia)) (zA ⟨zob_393, rfl⟩ (zA (zinL_398 (i := (3 * k) + 1) (by lia) (by lia)) (zA ⟨zob_393, rfl⟩ (zA (zinL_398 (i := (3 * k) + 2) (by lia) (by lia)) (zA ⟨zob_393, rfl⟩ (zA (zinL_397 (i := k) (by lia) (by lia)) trivial)))))))) (fun c1 => ?_) (fun c1 => ?_)
  · skip
    refine zb_icne (tgt := 72) bkMo_behind_53 bdMo_behind_60 (by decide) (lv' := [(6, .int (sg 398 ((3 * k) + 2))), (5, .int (sg 398 ((3 * k) + 1))), (4, .int (sg 398 (3 * k))), (0, .ref 393), (1, .int k), (2, .int x), (3, .int l)]) (st' := []) (h' := zN sg) (x := sg 397 k) (y := 1) (Ps := [zOb (zN sg) 393 10 ∧ (zN sg).2.2 393 5 = true, zInL (zN sg) 397 k]) rfl (zA ⟨zob_393, rfl⟩ (zA (zinL_397 (i := k) (by lia) (by lia)) trivial)) (fun c2 => ?_) (fun c2 => ?_)
    · skip
      refine zb_icne (tgt := 124) bkMo_behind_72 bdMo_behind_79 (by decide) (lv' := [(6, .int (sg 398 ((3 * k) + 2))), (5, .int (sg 398 ((3 * k) + 1))), (4, .int (sg 398 (3 * k))), (0, .ref 393), (1, .int k), (2, .int x), (3, .int l)]) (st' := []) (h' := zN sg) (x := sg 397 k) (y := 2) (Ps := [zOb (zN sg) 393 10 ∧ (zN sg).2.2 393 5 = true, zInL (zN sg) 397 k]) rfl (zA ⟨zob_393, rfl⟩ (zA (zinL_397 (i := k) (by lia) (by lia)) trivial)) (fun c3 => ?_) (fun c3 => ?_)
      · skip
        refine zb_icne (tgt := 189) bkMo_behind_124 bdMo_behind_132 (by decide) (lv' := [(6, .int (sg 398 ((3 * k) + 2))), (5, .int (sg 398 ((3 * k) + 1))), (4, .int (sg 398 (3 * k))), (0, .ref 393), (1, .int k), (2, .int x), (3, .int l)]) (st' := []) (h' := zN sg) (x := sg 397 k) (y := 12) (Ps := [zOb (zN sg) 393 10 ∧ (zN sg).2.2 393 5 = true, zInL (zN sg) 397 k]) rfl (zA ⟨zob_393, rfl⟩ (zA (zinL_397 (i := k) (by lia) (by lia)) trivial)) (fun c4 => ?_) (fun c4 => ?_)
        · skip
          refine zb_iret bkMo_behind_189 bdMo_behind_190 rfl (x := x) (h' := zN sg) (Ps := []) rfl trivial rfl ?_
          refine ⟨?_, rfl⟩
          unfold mBh
          repeat (first | rw [if_pos (by lia)] | rw [if_neg (by lia)])
        · skip
          refine zG_run bkMo_behind_135 (lv' := [(6, .int (sg 398 ((3 * k) + 2))), (5, .int (sg 398 ((3 * k) + 1))), (4, .int (sg 398 (3 * k))), (0, .ref 393), (1, .int k), (2, .int x), (3, .int l)]) (st' := [.int (sg 398 ((3 * k) + 2)), .int ((sg 398 (3 * k)) + 1), .int l, .int x]) (h' := zN sg) (Ps := []) rfl trivial ?_
          refine zG_calls (As := [.int x, .int l, .int ((sg 398 (3 * k)) + 1), .int (sg 398 ((3 * k) + 2))]) (rest := []) (N2 := 411) bdMo_behind_143 okMo_onward lk10_105 (And.intro (by decide) (by decide)) rfl rfl (Nat.le_of_ble_eq_true rfl) (Nat.le_of_ble_eq_true rfl) (Nat.le_refl 411) (Nat.le_refl 411) cMo_onward ?_
          rintro rr h' ⟨rfl, rfl⟩ -
          refine zG_run bkMo_behind_146 (lv' := [(6, .int (sg 398 ((3 * k) + 2))), (5, .int (sg 398 ((3 * k) + 1))), (4, .int (sg 398 (3 * k))), (0, .ref 393), (1, .int k), (2, .int x), (3, .int l)]) (st' := [.int ((sg 398 (3 * k)) + 1), .int (sg 398 (3 * k)), .int (pOn x l ((sg 398 (3 * k)) + 1) (sg 398 ((3 * k) + 2)))]) (h' := zN sg) (Ps := []) rfl trivial ?_
          refine zG_calls (As := [.int (pOn x l ((sg 398 (3 * k)) + 1) (sg 398 ((3 * k) + 2))), .int (sg 398 (3 * k)), .int ((sg 398 (3 * k)) + 1)]) (rest := []) (N2 := 411) bdMo_behind_152 okMo_backward lk10_109 (And.intro (by decide) (by decide)) rfl rfl (Nat.le_of_ble_eq_true rfl) (Nat.le_of_ble_eq_true rfl) (Nat.le_refl 411) (Nat.le_refl 411) cMo_backward ?_
          rintro rr h' ⟨rfl, rfl⟩ -
          refine zb_icle (tgt := 186) bkMo_behind_155 bdMo_behind_163 (by decide) (lv' := [(7, .int (pBk (pOn x l ((sg 398 (3 * k)) + 1) (sg 398 ((3 * k) + 2))) (sg 398 (3 * k)) ((sg 398 (3 * k)) + 1))), (6, .int (sg 398 ((3 * k) + 2))), (5, .int (sg 398 ((3 * k) + 1))), (4, .int (sg 398 (3 * k))), (0, .ref 393), (1, .int k), (2, .int x), (3, .int l)]) (st' := []) (h' := zN sg) (x := (sg 398 ((3 * k) + 1)) - (sg 398 (3 * k))) (y := 1) (Ps := []) rfl trivial (fun c5 => ?_) (fun c5 => ?_)
          · skip
            refine zb_iret bkMo_behind_186 bdMo_behind_188 rfl (x := pBk (pOn x l ((sg 398 (3 * k)) + 1) (sg 398 ((3 * k) + 2))) (sg 398 (3 * k)) ((sg 398 (3 * k)) + 1)) (h' := zN sg) (Ps := []) rfl trivial rfl ?_
            refine ⟨?_, rfl⟩
            unfold mBh
            repeat (first | rw [if_pos (by lia)] | rw [if_neg (by lia)])
          · skip
            refine zG_run bkMo_behind_166 (lv' := [(7, .int (pBk (pOn x l ((sg 398 (3 * k)) + 1) (sg 398 ((3 * k) + 2))) (sg 398 (3 * k)) ((sg 398 (3 * k)) + 1))), (6, .int (sg 398 ((3 * k) + 2))), (5, .int (sg 398 ((3 * k) + 1))), (4, .int (sg 398 (3 * k))), (0, .ref 393), (1, .int k), (2, .int x), (3, .int l)]) (st' := [.int (((sg 398 ((3 * k) + 1)) + (sg 398 ((3 * k) + 2))) - 1), .int ((sg 398 (3 * k)) + (sg 398 ((3 * k) + 2))), .int (pBk (pOn x l ((sg 398 (3 * k)) + 1) (sg 398 ((3 * k) + 2))) (sg 398 (3 * k)) ((sg 398 (3 * k)) + 1))]) (h' := zN sg) (Ps := []) rfl trivial ?_
            refine zG_calls (As := [.int (pBk (pOn x l ((sg 398 (3 * k)) + 1) (sg 398 ((3 * k) + 2))) (sg 398 (3 * k)) ((sg 398 (3 * k)) + 1)), .int ((sg 398 (3 * k)) + (sg 398 ((3 * k) + 2))), .int (((sg 398 ((3 * k) + 1)) + (sg 398 ((3 * k) + 2))) - 1)]) (rest := []) (N2 := 411) bdMo_behind_180 okMo_backward lk10_109 (And.intro (by decide) (by decide)) rfl rfl (Nat.le_of_ble_eq_true rfl) (Nat.le_of_ble_eq_true rfl) (Nat.le_refl 411) (Nat.le_refl 411) cMo_backward ?_
            rintro rr h' ⟨rfl, rfl⟩ -
            refine zb_iret bkMo_behind_183 bdMo_behind_188 rfl (x := pBk (pBk (pOn x l ((sg 398 (3 * k)) + 1) (sg 398 ((3 * k) + 2))) (sg 398 (3 * k)) ((sg 398 (3 * k)) + 1)) ((sg 398 (3 * k)) + (sg 398 ((3 * k) + 2))) (((sg 398 ((3 * k) + 1)) + (sg 398 ((3 * k) + 2))) - 1)) (h' := zN sg) (Ps := []) rfl trivial rfl ?_
            refine ⟨?_, rfl⟩
            unfold mBh
            repeat (first | rw [if_pos (by lia)] | rw [if_neg (by lia)])
      · skip
        refine zb_icle (tgt := 104) bkMo_behind_82 bdMo_behind_85 (by decide) (lv' := [(6, .int (sg 398 ((3 * k) + 2))), (5, .int (sg 398 ((3 * k) + 1))), (4, .int (sg 398 (3 * k))), (0, .ref 393), (1, .int k), (2, .int x), (3, .int l)]) (st' := []) (h' := zN sg) (x := x) (y := sg 398 (3 * k)) (Ps := []) rfl trivial (fun c6 => ?_) (fun c6 => ?_)
        · skip
          refine zG_run bkMo_behind_104 (lv' := [(6, .int (sg 398 ((3 * k) + 2))), (5, .int (sg 398 ((3 * k) + 1))), (4, .int (sg 398 (3 * k))), (0, .ref 393), (1, .int k), (2, .int x), (3, .int l)]) (st' := [.int (sg 398 ((3 * k) + 1)), .int (sg 398 (3 * k)), .int x]) (h' := zN sg) (Ps := []) rfl trivial ?_
          refine zG_calls (As := [.int x, .int (sg 398 (3 * k)), .int (sg 398 ((3 * k) + 1))]) (rest := []) (N2 := 411) bdMo_behind_109 okMo_backward lk10_109 (And.intro (by decide) (by decide)) rfl rfl (Nat.le_of_ble_eq_true rfl) (Nat.le_of_ble_eq_true rfl) (Nat.le_refl 411) (Nat.le_refl 411) cMo_backward ?_
          rintro rr h' ⟨rfl, rfl⟩ -
          refine zG_run bkMo_behind_112 (lv' := [(6, .int (sg 398 ((3 * k) + 2))), (5, .int (sg 398 ((3 * k) + 1))), (4, .int (sg 398 (3 * k))), (0, .ref 393), (1, .int k), (2, .int x), (3, .int l)]) (st' := [.int ((sg 398 ((3 * k) + 1)) - (sg 398 (3 * k))), .int (sg 398 ((3 * k) + 2)), .int l, .int (pBk x (sg 398 (3 * k)) (sg 398 ((3 * k) + 1)))]) (h' := zN sg) (Ps := []) rfl trivial ?_
          refine zG_calls (As := [.int (pBk x (sg 398 (3 * k)) (sg 398 ((3 * k) + 1))), .int l, .int (sg 398 ((3 * k) + 2)), .int ((sg 398 ((3 * k) + 1)) - (sg 398 (3 * k)))]) (rest := []) (N2 := 411) bdMo_behind_120 okMo_onward lk10_105 (And.intro (by decide) (by decide)) rfl rfl (Nat.le_of_ble_eq_true rfl) (Nat.le_of_ble_eq_true rfl) (Nat.le_refl 411) (Nat.le_refl 411) cMo_onward ?_
          rintro rr h' ⟨rfl, rfl⟩ -
          refine zb_iret bkMo_behind_123 bdMo_behind_123 rfl (x := pOn (pBk x (sg 398 (3 * k)) (sg 398 ((3 * k) + 1))) l (sg 398 ((3 * k) + 2)) ((sg 398 ((3 * k) + 1)) - (sg 398 (3 * k)))) (h' := zN sg) (Ps := []) rfl trivial rfl ?_
          refine ⟨?_, rfl⟩
          unfold mBh
          repeat (first | rw [if_pos (by lia)] | rw [if_neg (by lia)])
        · skip
          refine zb_icge (tgt := 104) bkMo_behind_88 bdMo_behind_91 (by decide) (lv' := [(6, .int (sg 398 ((3 * k) + 2))), (5, .int (sg 398 ((3 * k) + 1))), (4, .int (sg 398 (3 * k))), (0, .ref 393), (1, .int k), (2, .int x), (3, .int l)]) (st' := []) (h' := zN sg) (x := x) (y := sg 398 ((3 * k) + 1)) (Ps := []) rfl trivial (fun c7 => ?_) (fun c7 => ?_)
          · skip
            refine zG_run bkMo_behind_104 (lv' := [(6, .int (sg 398 ((3 * k) + 2))), (5, .int (sg 398 ((3 * k) + 1))), (4, .int (sg 398 (3 * k))), (0, .ref 393), (1, .int k), (2, .int x), (3, .int l)]) (st' := [.int (sg 398 ((3 * k) + 1)), .int (sg 398 (3 * k)), .int x]) (h' := zN sg) (Ps := []) rfl trivial ?_
            refine zG_calls (As := [.int x, .int (sg 398 (3 * k)), .int (sg 398 ((3 * k) + 1))]) (rest := []) (N2 := 411) bdMo_behind_109 okMo_backward lk10_109 (And.intro (by decide) (by decide)) rfl rfl (Nat.le_of_ble_eq_true rfl) (Nat.le_of_ble_eq_true rfl) (Nat.le_refl 411) (Nat.le_refl 411) cMo_backward ?_
            rintro rr h' ⟨rfl, rfl⟩ -
            refine zG_run bkMo_behind_112 (lv' := [(6, .int (sg 398 ((3 * k) + 2))), (5, .int (sg 398 ((3 * k) + 1))), (4, .int (sg 398 (3 * k))), (0, .ref 393), (1, .int k), (2, .int x), (3, .int l)]) (st' := [.int ((sg 398 ((3 * k) + 1)) - (sg 398 (3 * k))), .int (sg 398 ((3 * k) + 2)), .int l, .int (pBk x (sg 398 (3 * k)) (sg 398 ((3 * k) + 1)))]) (h' := zN sg) (Ps := []) rfl trivial ?_
            refine zG_calls (As := [.int (pBk x (sg 398 (3 * k)) (sg 398 ((3 * k) + 1))), .int l, .int (sg 398 ((3 * k) + 2)), .int ((sg 398 ((3 * k) + 1)) - (sg 398 (3 * k)))]) (rest := []) (N2 := 411) bdMo_behind_120 okMo_onward lk10_105 (And.intro (by decide) (by decide)) rfl rfl (Nat.le_of_ble_eq_true rfl) (Nat.le_of_ble_eq_true rfl) (Nat.le_refl 411) (Nat.le_refl 411) cMo_onward ?_
            rintro rr h' ⟨rfl, rfl⟩ -
            refine zb_iret bkMo_behind_123 bdMo_behind_123 rfl (x := pOn (pBk x (sg 398 (3 * k)) (sg 398 ((3 * k) + 1))) l (sg 398 ((3 * k) + 2)) ((sg 398 ((3 * k) + 1)) - (sg 398 (3 * k)))) (h' := zN sg) (Ps := []) rfl trivial rfl ?_
            refine ⟨?_, rfl⟩
            unfold mBh
            repeat (first | rw [if_pos (by lia)] | rw [if_neg (by lia)])
          · skip
            refine zb_iret bkMo_behind_94 bdMo_behind_123 rfl (x := (x - (sg 398 (3 * k))) + (sg 398 ((3 * k) + 2))) (h' := zN sg) (Ps := []) rfl trivial rfl ?_
            refine ⟨?_, rfl⟩
            unfold mBh
            repeat (first | rw [if_pos (by lia)] | rw [if_neg (by lia)])
    · skip
      refine zG_run bkMo_behind_63 (lv' := [(6, .int (sg 398 ((3 * k) + 2))), (5, .int (sg 398 ((3 * k) + 1))), (4, .int (sg 398 (3 * k))), (0, .ref 393), (1, .int k), (2, .int x), (3, .int l)]) (st' := [.int (sg 398 ((3 * k) + 1)), .int (sg 398 (3 * k)), .int x]) (h' := zN sg) (Ps := []) rfl trivial ?_
      refine zG_calls (As := [.int x, .int (sg 398 (3 * k)), .int (sg 398 ((3 * k) + 1))]) (rest := []) (N2 := 411) bdMo_behind_68 okMo_backward lk10_109 (And.intro (by decide) (by decide)) rfl rfl (Nat.le_of_ble_eq_true rfl) (Nat.le_of_ble_eq_true rfl) (Nat.le_refl 411) (Nat.le_refl 411) cMo_backward ?_
      rintro rr h' ⟨rfl, rfl⟩ -
      refine zb_iret bkMo_behind_71 bdMo_behind_71 rfl (x := pBk x (sg 398 (3 * k)) (sg 398 ((3 * k) + 1))) (h' := zN sg) (Ps := []) rfl trivial rfl ?_
      refine ⟨?_, rfl⟩
      unfold mBh
      repeat (first | rw [if_pos (by lia)] | rw [if_neg (by lia)])
  · skip
    refine zG_run bkMo_behind_43 (lv' := [(6, .int (sg 398 ((3 * k) + 2))), (5, .int (sg 398 ((3 * k) + 1))), (4, .int (sg 398 (3 * k))), (0, .ref 393), (1, .int k), (2, .int x), (3, .int l)]) (st' := [.int (sg 398 ((3 * k) + 2)), .int (sg 398 (3 * k)), .int l, .int x]) (h' := zN sg) (Ps := []) rfl trivial ?_
    refine zG_calls (As := [.int x, .int l, .int (sg 398 (3 * k)), .int (sg 398 ((3 * k) + 2))]) (rest := []) (N2 := 411) bdMo_behind_49 okMo_onward lk10_105 (And.intro (by decide) (by decide)) rfl rfl (Nat.le_of_ble_eq_true rfl) (Nat.le_of_ble_eq_true rfl) (Nat.le_refl 411) (Nat.le_refl 411) cMo_onward ?_
    rintro rr h' ⟨rfl, rfl⟩ -
    refine zb_iret bkMo_behind_52 bdMo_behind_52 rfl (x := pOn x l (sg 398 (3 * k)) (sg 398 ((3 * k) + 2))) (h' := zN sg) (Ps := []) rfl trivial rfl ?_
    refine ⟨?_, rfl⟩
    unfold mBh
    repeat (first | rw [if_pos (by lia)] | rw [if_neg (by lia)])
def mth1 (sg : zSig) (l n m : Int32) (p : Int32 × Int32) : Int32 × Int32 := if p.2 = 1 ∨ sg 397 (sg 393 6 - n + m) = 11 then (p.1, 1) else (mBh sg (sg 393 6 - n + m) p.1 l, p.2)
def mTh (sg : zSig) (x l n : Int32) : Int32 := if 0 ≤ x ∧ x ≤ sg 396 (995 * (sg 393 6 - n)) then (if (zit (mth1 sg l n) (x, 0) n).2 = 1 then -1 else (zit (mth1 sg l n) (x, 0) n).1) else -1
theorem mth1_st {sg : zSig} {l n m : Int32} {p : Int32 × Int32} (h : p.2 = 1) : (mth1 sg l n m p).2 = 1 := by
  unfold mth1; rw [if_pos (Or.inl h)]
theorem bkMo_through_5 : zBk mMo_through 5 [(1, 2, 0, 0, 0), (14, 0, 0, 0, 0), (15, 0, 0, 0, 0), (15, 0, 0, 0, 1)] = some 9 := by decide +kernel
theorem bkMo_through_12 : zBk mMo_through 12 [] = some 12 := by decide +kernel
theorem bkMo_through_54 : zBk mMo_through 54 [(0, 0, 0, 0, -1)] = some 55 := by decide +kernel
theorem bkMo_through_15 : zBk mMo_through 15 [(1, 3, 0, 0, 0), (14, 0, 0, 0, 0), (15, 0, 0, 0, 1), (1, 0, 1, 0, 0), (5, 10, 6, 0, 6), (14, 0, 0, 0, 0)] = some 23 := by decide +kernel
theorem bkMo_through_26 : zBk mMo_through 26 [] = some 26 := by decide +kernel
theorem bkMo_through_29 : zBk mMo_through 29 [(1, 1, 0, 0, 0), (14, 0, 0, 0, 0), (15, 0, 0, 0, 0), (1, 0, 1, 0, 0), (5, 10, 4, 3, 4), (0, 0, 0, 0, 995), (1, 0, 1, 0, 0), (5, 10, 6, 0, 6), (1, 3, 0, 0, 0), (4, 1, 0, 0, 0), (4, 2, 0, 0, 0), (7, 0, 0, 0, 0), (14, 0, 0, 0, 0)] = some 48 := by decide +kernel
theorem bkMo_through_51 : zBk mMo_through 51 [] = some 51 := by decide +kernel
theorem bkMo_through_56 : zBk mMo_through 56 [(1, 1, 0, 0, 0), (2, 4, 0, 0, 0), (1, 0, 1, 0, 0), (5, 10, 6, 0, 6), (1, 3, 0, 0, 0), (4, 1, 0, 0, 0), (2, 5, 0, 0, 0)] = some 67 := by decide +kernel
theorem bkMo_through_67 : zBk mMo_through 67 [(1, 5, 0, 0, 0), (1, 0, 1, 0, 0), (5, 10, 6, 0, 6)] = some 73 := by decide +kernel
theorem bkMo_through_107 : zBk mMo_through 107 [(1, 4, 0, 0, 0)] = some 109 := by decide +kernel
theorem bkMo_through_76 : zBk mMo_through 76 [(1, 0, 1, 0, 0), (5, 10, 5, 4, 5), (1, 5, 0, 0, 0), (7, 0, 0, 0, 0), (0, 0, 0, 0, 11)] = some 85 := by decide +kernel
theorem bkMo_through_90 : zBk mMo_through 90 [(1, 0, 1, 0, 0), (1, 5, 0, 0, 0), (1, 4, 0, 0, 0), (1, 2, 0, 0, 0)] = some 96 := by decide +kernel
theorem bkMo_through_99 : zBk mMo_through 99 [(2, 4, 0, 0, 0), (3, 5, 0, 0, 1), (22, 67, 0, 0, 0)] = some 67 := by decide +kernel
theorem bkMo_through_88 : zBk mMo_through 88 [(0, 0, 0, 0, -1)] = some 89 := by decide +kernel
theorem bkMo_through_0 : zBk mMo_through 0 [(1, 0, 1, 0, 0), (0, 0, 0, 0, 0), (6, 10, 0, 0, 0)] = some 5 := by decide +kernel
theorem bdMo_through_9 : decode mMo_through.2.2.1 9 = .ok (.invokestatic 87, 3) := by decide +kernel
theorem bdMo_through_12 : decode mMo_through.2.2.1 12 = .ok (.ifCond .eq 42, 3) := by decide +kernel
theorem bdMo_through_23 : decode mMo_through.2.2.1 23 = .ok (.invokestatic 87, 3) := by decide +kernel
theorem bdMo_through_26 : decode mMo_through.2.2.1 26 = .ok (.ifCond .eq 28, 3) := by decide +kernel
theorem bdMo_through_48 : decode mMo_through.2.2.1 48 = .ok (.invokestatic 87, 3) := by decide +kernel
theorem bdMo_through_51 : decode mMo_through.2.2.1 51 = .ok (.ifCond .ne 5, 3) := by decide +kernel
theorem bdMo_through_55 : decode mMo_through.2.2.1 55 = .ok (.ireturn, 1) := by decide +kernel
theorem bdMo_through_73 : decode mMo_through.2.2.1 73 = .ok (.if_icmp .ge 34, 3) := by decide +kernel
theorem bdMo_through_85 : decode mMo_through.2.2.1 85 = .ok (.if_icmp .ne 5, 3) := by decide +kernel
theorem bdMo_through_89 : decode mMo_through.2.2.1 89 = .ok (.ireturn, 1) := by decide +kernel
theorem bdMo_through_96 : decode mMo_through.2.2.1 96 = .ok (.invokevirtual 296, 3) := by decide +kernel
theorem bdMo_through_109 : decode mMo_through.2.2.1 109 = .ok (.ireturn, 1) := by decide +kernel
theorem lMo_through {sg : zSig} {x l n : Int32} (b0 : 0 ≤ sg 393 6) (b1 : sg 393 6 ≤ 8) {Q : Option Value → zHp → Prop} (hq : ∀ rr h', (rr = some (.int (if (1 ≤ n ∧ n ≤ sg 393 6) ∧ 0 ≤ l ∧ l ≤ 1 then mTh sg x l n else -1)) ∧ h' = zN sg) → Q rr h') : zG mMo_through 411 Q 5 [(0, .ref 393), (1, .int x), (2, .int l), (3, .int n)] [] (zN sg) := by
  refine zG_run bkMo_through_5 (lv' := [(0, .ref 393), (1, .int x), (2, .int l), (3, .int n)]) (st' := [.long ((1 : Int32).toInt64), .long ((0 : Int32).toInt64), .long l.toInt64]) (h' := zN sg) (Ps := []) rfl trivial ?_
  refine zG_calls (As := [.long l.toInt64, .long ((0 : Int32).toInt64), .long ((1 : Int32).toInt64)]) (rest := []) (N2 := 411) bdMo_through_9 okMo_in lk10_87 (And.intro (by decide) (by decide)) rfl rfl (Nat.le_of_ble_eq_true rfl) (Nat.le_of_ble_eq_true rfl) (Nat.le_refl 411) (Nat.le_refl 411) cMo_inA ?_
  rintro rr h' ⟨rfl, rfl⟩ -
  refine zb_ifeq (tgt := 54) bkMo_through_12 bdMo_through_12 (by decide) (lv' := [(0, .ref 393), (1, .int x), (2, .int l), (3, .int n)]) (st' := []) (h' := zN sg) (x := if 0 ≤ l ∧ l ≤ 1 then 1 else 0) (Ps := []) rfl trivial (fun c1 => ?_) (fun c1 => ?_)
  · skip
    refine zb_iret bkMo_through_54 bdMo_through_55 rfl (x := (-1)) (h' := zN sg) (Ps := []) rfl trivial rfl ?_
    refine hq _ _ ?_
    refine ⟨?_, rfl⟩
    by_cases hc : (1 ≤ n ∧ n ≤ sg 393 6) ∧ 0 ≤ l ∧ l ≤ 1
    · rw [if_pos hc]; unfold mTh; rw [if_neg (by clear hq; grind)]
    · rw [if_neg hc]
  · skip
    refine zG_run bkMo_through_15 (lv' := [(0, .ref 393), (1, .int x), (2, .int l), (3, .int n)]) (st' := [.long ((sg 393 6).toInt64), .long ((1 : Int32).toInt64), .long n.toInt64]) (h' := zN sg) (Ps := [zOb (zN sg) 393 10]) rfl (zA zob_393 trivial) ?_
    refine zG_calls (As := [.long n.toInt64, .long ((1 : Int32).toInt64), .long ((sg 393 6).toInt64)]) (rest := []) (N2 := 411) bdMo_through_23 okMo_in lk10_87 (And.intro (by decide) (by decide)) rfl rfl (Nat.le_of_ble_eq_true rfl) (Nat.le_of_ble_eq_true rfl) (Nat.le_refl 411) (Nat.le_refl 411) cMo_inA ?_
    rintro rr h' ⟨rfl, rfl⟩ -
    refine zb_ifeq (tgt := 54) bkMo_through_26 bdMo_through_26 (by decide) (lv' := [(0, .ref 393), (1, .int x), (2, .int l), (3, .int n)]) (st' := []) (h' := zN sg) (x := if 1 ≤ n ∧ n ≤ (sg 393 6) then 1 else 0) (Ps := []) rfl trivial (fun c2 => ?_) (fun c2 => ?_)
    · skip
      refine zb_iret bkMo_through_54 bdMo_through_55 rfl (x := (-1)) (h' := zN sg) (Ps := []) rfl trivial rfl ?_
      refine hq _ _ ?_
      refine ⟨?_, rfl⟩
      by_cases hc : (1 ≤ n ∧ n ≤ sg 393 6) ∧ 0 ≤ l ∧ l ≤ 1
      · rw [if_pos hc]; unfold mTh; rw [if_neg (by clear hq; grind)]
      · rw [if_neg hc]
    · skip
      have hd : (1 ≤ n ∧ n ≤ sg 393 6) ∧ 0 ≤ l ∧ l ≤ 1 := by clear hq; grind
      refine zG_run bkMo_through_29 (lv' := [(0, .ref 393), (1, .int x), (2, .int l), (3, .int n)]) (st' := [.long ((sg 396 (995 * ((sg 393 6) - n))).toInt64), .long ((0 : Int32).toInt64), .long x.toInt64]) (h' := zN sg) (Ps := [zOb (zN sg) 393 10 ∧ (zN sg).2.2 393 4 = true, zOb (zN sg) 393 10, zInL (zN sg) 396 (995 * ((sg 393 6) - n))]) rfl (zA ⟨zob_393, rfl⟩ (zA zob_393 (zA (zinL_396 (i := 995 * ((sg 393 6) - n)) (by lia) (by lia)) trivial))) ?_
      refine zG_calls (As := [.long x.toInt64, .long ((0 : Int32).toInt64), .long ((sg 396 (995 * ((sg 393 6) - n))).toInt64)]) (rest := []) (N2 := 411) bdMo_through_48 okMo_in lk10_87 (And.intro (by decide) (by decide)) rfl rfl (Nat.le_of_ble_eq_true rfl) (Nat.le_of_ble_eq_true rfl) (Nat.le_refl 411) (Nat.le_refl 411) cMo_inA ?_
      rintro rr h' ⟨rfl, rfl⟩ -
      refine zb_ifne (tgt := 56) bkMo_through_51 bdMo_through_51 (by decide) (lv' := [(0, .ref 393), (1, .int x), (2, .int l), (3, .int n)]) (st' := []) (h' := zN sg) (x := if 0 ≤ x ∧ x ≤ (sg 396 (995 * ((sg 393 6) - n))) then 1 else 0) (Ps := []) rfl trivial (fun c3 => ?_) (fun c3 => ?_)
      · skip
        have hc : ((1 ≤ n ∧ n ≤ sg 393 6) ∧ 0 ≤ l ∧ l ≤ 1) ∧ 0 ≤ x ∧ x ≤ sg 396 (995 * (sg 393 6 - n)) := ⟨hd, by clear hq; grind⟩
        refine zG_run bkMo_through_56 (lv' := [(5, .int ((sg 393 6) - n)), (4, .int x), (0, .ref 393), (1, .int x), (2, .int l), (3, .int n)]) (st' := []) (h' := zN sg) (Ps := [zOb (zN sg) 393 10]) rfl (zA zob_393 trivial) ?_
        refine zG_pick (lv' := [(0, .ref 393), (1, .int x), (2, .int l), (3, .int n), (4, .int x), (5, .int ((sg 393 6) - n))]) [2, 3, 4, 5, 1, 0] rfl ?_
        refine zlp2 (fun (y : Int32) (k : Int32) => zG mMo_through 411 Q 67 [(0, .ref 393), (1, .int x), (2, .int l), (3, .int n), (4, .int y), (5, .int k)] [] (zN sg)) (fun (y : Int32) (k : Int32) => (sg 393 6 - n ≤ k) ∧ (k ≤ sg 393 6) ∧ ((y, (0 : Int32)) = zit (mth1 sg l n) (x, 0) (k - (sg 393 6 - n)))) (fun (y : Int32) (k : Int32) => zmu (sg 393 6) k) ?_ x ((sg 393 6) - n) ?_
        · intro y k hI ih
          obtain ⟨k0, k1, kz⟩ := hI
          have ek : sg 393 6 - n + (k - (sg 393 6 - n)) = k := by clear hq ih kz k0 k1; grind
          refine zb_icge (tgt := 107) bkMo_through_67 bdMo_through_73 (by decide) (lv' := [(0, .ref 393), (1, .int x), (2, .int l), (3, .int n), (4, .int y), (5, .int k)]) (st' := []) (h' := zN sg) (x := k) (y := sg 393 6) (Ps := [zOb (zN sg) 393 10]) rfl (zA zob_393 trivial) (fun c4 => ?_) (fun c4 => ?_)
          · skip
            refine zb_iret bkMo_through_107 bdMo_through_109 rfl (x := y) (h' := zN sg) (Ps := []) rfl trivial rfl ?_
            refine hq _ _ ?_
            refine ⟨?_, rfl⟩
            rw [if_pos hc.1]; unfold mTh; rw [if_pos hc.2]
            have ek0 : k - (sg 393 6 - n) = n := by lia
            rw [ek0] at kz
            rw [← kz]; rfl
          · skip
            refine zb_icne (tgt := 90) bkMo_through_76 bdMo_through_85 (by decide) (lv' := [(0, .ref 393), (1, .int x), (2, .int l), (3, .int n), (4, .int y), (5, .int k)]) (st' := []) (h' := zN sg) (x := sg 397 k) (y := 11) (Ps := [zOb (zN sg) 393 10 ∧ (zN sg).2.2 393 5 = true, zInL (zN sg) 397 k]) rfl (zA ⟨zob_393, rfl⟩ (zA (zinL_397 (i := k) (by lia) (by lia)) trivial)) (fun c5 => ?_) (fun c5 => ?_)
            · skip
              refine zG_run bkMo_through_90 (lv' := [(0, .ref 393), (1, .int x), (2, .int l), (3, .int n), (4, .int y), (5, .int k)]) (st' := [.int l, .int y, .int k, .ref 393]) (h' := zN sg) (Ps := []) rfl trivial ?_
              refine zG_callv (a := 393) (c := 10) (As := [.int k, .int y, .int l]) (rest := []) (N2 := 411) bdMo_through_96 okMo_behind lk10_296 (And.intro (by decide) (by decide)) (by decide) rfl rfl rfl (Nat.le_of_ble_eq_true rfl) (Nat.le_of_ble_eq_true rfl) (Nat.le_refl 411) (Nat.le_refl 411) zob_393 (cMo_behind (by lia) (by lia)) ?_
              rintro rr h' ⟨rfl, rfl⟩ -
              refine zG_run bkMo_through_99 (lv' := [(5, .int (k + 1)), (4, .int (mBh sg k y l)), (0, .ref 393), (1, .int x), (2, .int l), (3, .int n)]) (st' := []) (h' := zN sg) (Ps := []) rfl trivial ?_
              refine zG_pick (lv' := [(0, .ref 393), (1, .int x), (2, .int l), (3, .int n), (4, .int (mBh sg k y l)), (5, .int (k + 1))]) [2, 3, 4, 5, 1, 0] rfl ?_
              refine ih (mBh sg k y l) (k + 1) ?_ ?_
              · refine ⟨?_, ?_, ?_⟩
                · lia
                · lia
                · rw [show k + 1 - (sg 393 6 - n) = k - (sg 393 6 - n) + 1 by grind, zit_s _ _ (by lia : 0 ≤ k - (sg 393 6 - n)) (by lia : k - (sg 393 6 - n) < n), ← kz]; unfold mth1; rw [ek, if_neg (by rintro (q | q); exact absurd (show (0 : Int32) = 1 from q) (by decide); exact absurd q (by assumption))]
              · exact zmu_up (by lia)
            · skip
              refine zb_iret bkMo_through_88 bdMo_through_89 rfl (x := (-1)) (h' := zN sg) (Ps := []) rfl trivial rfl ?_
              refine hq _ _ ?_
              refine ⟨?_, rfl⟩
              rw [if_pos hc.1]; unfold mTh; rw [if_pos hc.2]
              have e1 : (zit (mth1 sg l n) (x, 0) (k - (sg 393 6 - n) + 1)).2 = 1 := by rw [zit_s _ _ (by lia : 0 ≤ k - (sg 393 6 - n)) (by lia : k - (sg 393 6 - n) < n), ← kz]; unfold mth1; rw [ek, if_pos (Or.inr (by assumption))]
              rw [if_pos (zit_stable (P := fun x : Int32 × Int32 => x.2 = 1) (i := k - (sg 393 6 - n) + 1) (by lia) (by lia) (fun j x _ _ h => mth1_st h) e1)]
        · refine ⟨?_, ?_, ?_⟩
          · lia
          · lia
          · rw [show sg 393 6 - n - (sg 393 6 - n) = 0 by grind]; rfl
      · skip
        refine zb_iret bkMo_through_54 bdMo_through_55 rfl (x := (-1)) (h' := zN sg) (Ps := []) rfl trivial rfl ?_
        refine hq _ _ ?_
        refine ⟨?_, rfl⟩
        by_cases hc : (1 ≤ n ∧ n ≤ sg 393 6) ∧ 0 ≤ l ∧ l ≤ 1
        · rw [if_pos hc]; unfold mTh; rw [if_neg (by clear hq; grind)]
        · rw [if_neg hc]
theorem bMo_through {sg : zSig} {x l n : Int32} (b0 : 0 ≤ sg 393 6) (b1 : sg 393 6 ≤ 8) : zG mMo_through 411 (fun rr h' => rr = some (.int (if (1 ≤ n ∧ n ≤ sg 393 6) ∧ 0 ≤ l ∧ l ≤ 1 then mTh sg x l n else -1)) ∧ h' = zN sg) 5 [(0, .ref 393), (1, .int x), (2, .int l), (3, .int n)] [] (zN sg) := lMo_through b0 b1 (fun _ _ q => q)
theorem tMo_through {sg : zSig} {x l n : Int32} {Q : Option Value → zHp → Prop} (g : zG mMo_through 411 Q 5 [(0, .ref 393), (1, .int x), (2, .int l), (3, .int n)] [] (zN (zup sg 393 0 0))) : zG mMo_through 411 Q 0 [(0, .ref 393), (1, .int x), (2, .int l), (3, .int n)] [] (zN sg) :=
  zG_run bkMo_through_0 (lv' := [(0, .ref 393), (1, .int x), (2, .int l), (3, .int n)]) (st' := []) (h' := zN (zup sg 393 0 0)) (Ps := [zOb (zN sg) 393 10]) rfl (zA zob_393 trivial) g
def mSo (sg : zSig) (m g c i : Int32) : Prop := mSu (mS sg (-1) i) m g c
def iNu (T : Int32 → Prop) (f n a : Int32) (F : Int32 → Int32) : Prop := a = zit (fun i x => if f ≤ i then x + F i else x) 0 n ∧ ∀ i, f ≤ i → i < n → (F i = 1 ∧ T i) ∨ (F i = 0 ∧ ¬ T i)
def mYd (T : Int32 → Prop) (f n w v : Int32) : Prop := (v = -1 ∧ ∀ i, f ≤ i → i < n → ¬ T i) ∨ ∃ a, (f ≤ a ∧ a < n ∧ T a ∧ ∀ i, f ≤ i → i < a → ¬ T i) ∧ (w = 0 → v = a) ∧ (w = 1 → 1 ≤ v ∧ a + v ≤ n ∧ (∀ i, a ≤ i → i < a + v → T i) ∧ (a + v = n ∨ ¬ T (a + v))) ∧ (w = 2 → ∃ F, iNu T a n v F)
theorem z0p (x : Int32) : x + 0 = x := by grind
theorem sy_pos {T : Int32 → Prop} {a s x : Int32} (ha : T a) (h0 : 0 ≤ s) (h : s = x - a ∨ ¬ T (a + s)) (hx : a < x) (hx2 : x ≤ 200) (a0 : 0 ≤ a) : 1 ≤ s := by
  by_cases hs : s = 0
  · rw [hs, z0p] at h
    rcases h with h | h
    · lia
    · exact absurd ha h
  · lia
theorem iNu_s {T : Int32 → Prop} {f n N x v : Int32} {F : Int32 → Int32} (f0 : 0 ≤ f) (fn : f ≤ n) (nN : n < N) (h : iNu T f n x F) (hv : (v = 1 ∧ T n) ∨ (v = 0 ∧ ¬ T n)) : iNu T f (n + 1) (x + v) (fun j => if j = n then v else F j) := by
  have e1 : ∀ j, j ≠ n → (fun j => if j = n then v else F j) j = F j := fun j hj => if_neg hj
  have e2 : (fun j => if j = n then v else F j) n = v := if_pos rfl
  refine ⟨?_, fun i i0 i1 => ?_⟩
  · rw [zit_s _ _ (by lia) nN, zit_congr (g := fun i x => if f ≤ i then x + F i else x) (by lia) (fun i y i0 i1 => by rw [e1 i (by lia)]), ← h.1, if_pos fn, e2]
  · by_cases hi : i = n
    · rw [hi, e2]; exact hv
    · rw [e1 i hi]; exact h.2 i i0 (by lia)
theorem bkMo_styled_5 : zBk mMo_styled 5 [(1, 0, 1, 0, 0), (1, 1, 0, 0, 0)] = some 7 := by decide +kernel
theorem bkMo_styled_10 : zBk mMo_styled 10 [] = some 10 := by decide +kernel
theorem bkMo_styled_65 : zBk mMo_styled 65 [(0, 0, 0, 0, -1)] = some 66 := by decide +kernel
theorem bkMo_styled_13 : zBk mMo_styled 13 [(1, 2, 0, 0, 0), (14, 0, 0, 0, 0), (15, 0, 0, 0, 0), (15, 0, 0, 0, 15)] = some 19 := by decide +kernel
theorem bkMo_styled_22 : zBk mMo_styled 22 [] = some 22 := by decide +kernel
theorem bkMo_styled_25 : zBk mMo_styled 25 [(1, 3, 0, 0, 0), (14, 0, 0, 0, 0), (15, 0, 0, 0, 0), (15, 0, 0, 0, 15)] = some 31 := by decide +kernel
theorem bkMo_styled_34 : zBk mMo_styled 34 [] = some 34 := by decide +kernel
theorem bkMo_styled_37 : zBk mMo_styled 37 [(1, 4, 0, 0, 0), (14, 0, 0, 0, 0), (15, 0, 0, 0, -1), (15, 0, 0, 0, 7)] = some 46 := by decide +kernel
theorem bkMo_styled_49 : zBk mMo_styled 49 [] = some 49 := by decide +kernel
theorem bkMo_styled_52 : zBk mMo_styled 52 [(1, 5, 0, 0, 0), (14, 0, 0, 0, 0), (15, 0, 0, 0, 0), (15, 0, 0, 0, 2)] = some 59 := by decide +kernel
theorem bkMo_styled_62 : zBk mMo_styled 62 [] = some 62 := by decide +kernel
theorem bkMo_styled_67 : zBk mMo_styled 67 [(1, 1, 0, 0, 0), (2, 6, 0, 0, 0)] = some 70 := by decide +kernel
theorem bkMo_styled_70 : zBk mMo_styled 70 [(1, 6, 0, 0, 0), (1, 0, 1, 0, 0), (5, 10, 3, 2, 3), (0, 0, 0, 0, 0), (7, 0, 0, 0, 0)] = some 78 := by decide +kernel
theorem bkMo_styled_100 : zBk mMo_styled 100 [(1, 6, 0, 0, 0), (1, 0, 1, 0, 0), (5, 10, 3, 2, 3), (0, 0, 0, 0, 0), (7, 0, 0, 0, 0)] = some 108 := by decide +kernel
theorem bkMo_styled_111 : zBk mMo_styled 111 [(0, 0, 0, 0, -1)] = some 112 := by decide +kernel
theorem bkMo_styled_81 : zBk mMo_styled 81 [(1, 0, 1, 0, 0), (1, 6, 0, 0, 0), (1, 2, 0, 0, 0), (1, 3, 0, 0, 0), (1, 4, 0, 0, 0)] = some 88 := by decide +kernel
theorem bkMo_styled_91 : zBk mMo_styled 91 [] = some 91 := by decide +kernel
theorem bkMo_styled_113 : zBk mMo_styled 113 [(0, 0, 0, 0, 0), (2, 7, 0, 0, 0), (0, 0, 0, 0, 0), (2, 8, 0, 0, 0), (1, 6, 0, 0, 0), (2, 9, 0, 0, 0)] = some 123 := by decide +kernel
theorem bkMo_styled_123 : zBk mMo_styled 123 [(1, 9, 0, 0, 0), (1, 0, 1, 0, 0), (5, 10, 3, 2, 3), (0, 0, 0, 0, 0), (7, 0, 0, 0, 0)] = some 131 := by decide +kernel
theorem bkMo_styled_192 : zBk mMo_styled 192 [(1, 5, 0, 0, 0)] = some 194 := by decide +kernel
theorem bkMo_styled_202 : zBk mMo_styled 202 [(1, 5, 0, 0, 0), (0, 0, 0, 0, 1)] = some 205 := by decide +kernel
theorem bkMo_styled_213 : zBk mMo_styled 213 [(1, 8, 0, 0, 0)] = some 215 := by decide +kernel
theorem bkMo_styled_208 : zBk mMo_styled 208 [(1, 7, 0, 0, 0), (22, 215, 0, 0, 0)] = some 215 := by decide +kernel
theorem bkMo_styled_197 : zBk mMo_styled 197 [(1, 6, 0, 0, 0), (22, 215, 0, 0, 0)] = some 215 := by decide +kernel
theorem bkMo_styled_134 : zBk mMo_styled 134 [(1, 0, 1, 0, 0), (1, 9, 0, 0, 0), (1, 2, 0, 0, 0), (1, 3, 0, 0, 0), (1, 4, 0, 0, 0)] = some 141 := by decide +kernel
theorem bkMo_styled_144 : zBk mMo_styled 144 [(2, 10, 0, 0, 0), (1, 7, 0, 0, 0), (1, 10, 0, 0, 0)] = some 150 := by decide +kernel
theorem bkMo_styled_167 : zBk mMo_styled 167 [(0, 0, 0, 0, 0), (4, 0, 0, 0, 0), (2, 7, 0, 0, 0), (1, 8, 0, 0, 0), (1, 10, 0, 0, 0)] = some 175 := by decide +kernel
theorem bkMo_styled_182 : zBk mMo_styled 182 [(0, 0, 0, 0, 0), (4, 0, 0, 0, 0), (2, 8, 0, 0, 0), (3, 9, 0, 0, 1), (22, 123, 0, 0, 0)] = some 123 := by decide +kernel
theorem bkMo_styled_178 : zBk mMo_styled 178 [(0, 0, 0, 0, 1), (22, 183, 0, 0, 0), (4, 0, 0, 0, 0), (2, 8, 0, 0, 0), (3, 9, 0, 0, 1), (22, 123, 0, 0, 0)] = some 123 := by decide +kernel
theorem bkMo_styled_153 : zBk mMo_styled 153 [(1, 7, 0, 0, 0), (1, 9, 0, 0, 0), (1, 6, 0, 0, 0), (4, 1, 0, 0, 0)] = some 160 := by decide +kernel
theorem bkMo_styled_163 : zBk mMo_styled 163 [(0, 0, 0, 0, 1), (22, 168, 0, 0, 0), (4, 0, 0, 0, 0), (2, 7, 0, 0, 0), (1, 8, 0, 0, 0), (1, 10, 0, 0, 0)] = some 175 := by decide +kernel
theorem bkMo_styled_94 : zBk mMo_styled 94 [(3, 6, 0, 0, 1), (22, 70, 0, 0, 0)] = some 70 := by decide +kernel
theorem bkMo_styled_0 : zBk mMo_styled 0 [(1, 0, 1, 0, 0), (0, 0, 0, 0, 0), (6, 10, 0, 0, 0)] = some 5 := by decide +kernel
theorem bdMo_styled_7 : decode mMo_styled.2.2.1 7 = .ok (.invokevirtual 258, 3) := by decide +kernel
theorem bdMo_styled_10 : decode mMo_styled.2.2.1 10 = .ok (.ifCond .eq 55, 3) := by decide +kernel
theorem bdMo_styled_19 : decode mMo_styled.2.2.1 19 = .ok (.invokestatic 87, 3) := by decide +kernel
theorem bdMo_styled_22 : decode mMo_styled.2.2.1 22 = .ok (.ifCond .eq 43, 3) := by decide +kernel
theorem bdMo_styled_31 : decode mMo_styled.2.2.1 31 = .ok (.invokestatic 87, 3) := by decide +kernel
theorem bdMo_styled_34 : decode mMo_styled.2.2.1 34 = .ok (.ifCond .eq 31, 3) := by decide +kernel
theorem bdMo_styled_46 : decode mMo_styled.2.2.1 46 = .ok (.invokestatic 87, 3) := by decide +kernel
theorem bdMo_styled_49 : decode mMo_styled.2.2.1 49 = .ok (.ifCond .eq 16, 3) := by decide +kernel
theorem bdMo_styled_59 : decode mMo_styled.2.2.1 59 = .ok (.invokestatic 87, 3) := by decide +kernel
theorem bdMo_styled_62 : decode mMo_styled.2.2.1 62 = .ok (.ifCond .ne 5, 3) := by decide +kernel
theorem bdMo_styled_66 : decode mMo_styled.2.2.1 66 = .ok (.ireturn, 1) := by decide +kernel
theorem bdMo_styled_78 : decode mMo_styled.2.2.1 78 = .ok (.if_icmp .ge 22, 3) := by decide +kernel
theorem bdMo_styled_88 : decode mMo_styled.2.2.1 88 = .ok (.invokevirtual 291, 3) := by decide +kernel
theorem bdMo_styled_91 : decode mMo_styled.2.2.1 91 = .ok (.ifCond .ne 9, 3) := by decide +kernel
theorem bdMo_styled_108 : decode mMo_styled.2.2.1 108 = .ok (.if_icmp .ne 5, 3) := by decide +kernel
theorem bdMo_styled_112 : decode mMo_styled.2.2.1 112 = .ok (.ireturn, 1) := by decide +kernel
theorem bdMo_styled_131 : decode mMo_styled.2.2.1 131 = .ok (.if_icmp .ge 61, 3) := by decide +kernel
theorem bdMo_styled_141 : decode mMo_styled.2.2.1 141 = .ok (.invokevirtual 291, 3) := by decide +kernel
theorem bdMo_styled_150 : decode mMo_styled.2.2.1 150 = .ok (.ifCond .eq 17, 3) := by decide +kernel
theorem bdMo_styled_160 : decode mMo_styled.2.2.1 160 = .ok (.if_icmp .ne 7, 3) := by decide +kernel
theorem bdMo_styled_175 : decode mMo_styled.2.2.1 175 = .ok (.ifCond .eq 7, 3) := by decide +kernel
theorem bdMo_styled_194 : decode mMo_styled.2.2.1 194 = .ok (.ifCond .ne 8, 3) := by decide +kernel
theorem bdMo_styled_205 : decode mMo_styled.2.2.1 205 = .ok (.if_icmp .ne 8, 3) := by decide +kernel
theorem bdMo_styled_215 : decode mMo_styled.2.2.1 215 = .ok (.ireturn, 1) := by decide +kernel
theorem lMo_styled {sg : zSig} {f m g c w : Int32} (n0 : 0 ≤ sg 395 0) (n2 : sg 395 0 ≤ 200) (g0 : 0 ≤ sg 395 1) (g1 : sg 395 1 ≤ 16) (hp : okP sg) {Q : Option Value → zHp → Prop} (hq : ∀ rr h', (∃ v sg', rr = some (.int v) ∧ h' = zN sg' ∧ mQ sg sg' ∧ ((¬ (((0 ≤ f ∧ f < sg 395 0) ∧ ((0 ≤ m ∧ m ≤ 15) ∧ (0 ≤ g ∧ g ≤ 15) ∧ (-1 ≤ c ∧ c ≤ 7))) ∧ 0 ≤ w ∧ w ≤ 2) ∧ v = -1) ∨ ((((0 ≤ f ∧ f < sg 395 0) ∧ ((0 ≤ m ∧ m ≤ 15) ∧ (0 ≤ g ∧ g ≤ 15) ∧ (-1 ≤ c ∧ c ≤ 7))) ∧ 0 ≤ w ∧ w ≤ 2) ∧ mYd (mSo sg m g c) f (sg 395 0) w v))) → Q rr h') : zG mMo_styled 411 Q 5 [(0, .ref 393), (1, .int f), (2, .int m), (3, .int g), (4, .int c), (5, .int w)] [] (zN sg) := by
  refine zG_run bkMo_styled_5 (lv' := [(0, .ref 393), (1, .int f), (2, .int m), (3, .int g), (4, .int c), (5, .int w)]) (st' := [.int f, .ref 393]) (h' := zN sg) (Ps := []) rfl trivial ?_
  refine zG_callv (a := 393) (c := 10) (As := [.int f]) (rest := []) (N2 := 411) bdMo_styled_7 okMo_isLetter lk10_258 (And.intro (by decide) (by decide)) (by decide) rfl rfl rfl (Nat.le_of_ble_eq_true rfl) (Nat.le_of_ble_eq_true rfl) (Nat.le_refl 411) (Nat.le_refl 411) zob_393 cMo_isLetter ?_
  rintro rr h' ⟨rfl, rfl⟩ -
  refine zb_ifeq (tgt := 65) bkMo_styled_10 bdMo_styled_10 (by decide) (lv' := [(0, .ref 393), (1, .int f), (2, .int m), (3, .int g), (4, .int c), (5, .int w)]) (st' := []) (h' := zN sg) (x := if 0 ≤ f ∧ f < sg 395 0 then 1 else 0) (Ps := []) rfl trivial (fun c1 => ?_) (fun c1 => ?_)
  · skip
    refine zb_iret bkMo_styled_65 bdMo_styled_66 rfl (x := (-1)) (h' := zN sg) (Ps := []) rfl trivial rfl ?_
    refine hq _ _ ?_
    exact ⟨_, _, rfl, rfl, mQ_refl, Or.inl ⟨by clear hq hp; grind, rfl⟩⟩
  · skip
    refine zG_run bkMo_styled_13 (lv' := [(0, .ref 393), (1, .int f), (2, .int m), (3, .int g), (4, .int c), (5, .int w)]) (st' := [.long ((15 : Int32).toInt64), .long ((0 : Int32).toInt64), .long m.toInt64]) (h' := zN sg) (Ps := []) rfl trivial ?_
    refine zG_calls (As := [.long m.toInt64, .long ((0 : Int32).toInt64), .long ((15 : Int32).toInt64)]) (rest := []) (N2 := 411) bdMo_styled_19 okMo_in lk10_87 (And.intro (by decide) (by decide)) rfl rfl (Nat.le_of_ble_eq_true rfl) (Nat.le_of_ble_eq_true rfl) (Nat.le_refl 411) (Nat.le_refl 411) cMo_inA ?_
    rintro rr h' ⟨rfl, rfl⟩ -
    refine zb_ifeq (tgt := 65) bkMo_styled_22 bdMo_styled_22 (by decide) (lv' := [(0, .ref 393), (1, .int f), (2, .int m), (3, .int g), (4, .int c), (5, .int w)]) (st' := []) (h' := zN sg) (x := if 0 ≤ m ∧ m ≤ 15 then 1 else 0) (Ps := []) rfl trivial (fun c2 => ?_) (fun c2 => ?_)
    · skip
      refine zb_iret bkMo_styled_65 bdMo_styled_66 rfl (x := (-1)) (h' := zN sg) (Ps := []) rfl trivial rfl ?_
      refine hq _ _ ?_
      exact ⟨_, _, rfl, rfl, mQ_refl, Or.inl ⟨by clear hq hp; grind, rfl⟩⟩
    · skip
      refine zG_run bkMo_styled_25 (lv' := [(0, .ref 393), (1, .int f), (2, .int m), (3, .int g), (4, .int c), (5, .int w)]) (st' := [.long ((15 : Int32).toInt64), .long ((0 : Int32).toInt64), .long g.toInt64]) (h' := zN sg) (Ps := []) rfl trivial ?_
      refine zG_calls (As := [.long g.toInt64, .long ((0 : Int32).toInt64), .long ((15 : Int32).toInt64)]) (rest := []) (N2 := 411) bdMo_styled_31 okMo_in lk10_87 (And.intro (by decide) (by decide)) rfl rfl (Nat.le_of_ble_eq_true rfl) (Nat.le_of_ble_eq_true rfl) (Nat.le_refl 411) (Nat.le_refl 411) cMo_inA ?_
      rintro rr h' ⟨rfl, rfl⟩ -
      refine zb_ifeq (tgt := 65) bkMo_styled_34 bdMo_styled_34 (by decide) (lv' := [(0, .ref 393), (1, .int f), (2, .int m), (3, .int g), (4, .int c), (5, .int w)]) (st' := []) (h' := zN sg) (x := if 0 ≤ g ∧ g ≤ 15 then 1 else 0) (Ps := []) rfl trivial (fun c3 => ?_) (fun c3 => ?_)
      · skip
        refine zb_iret bkMo_styled_65 bdMo_styled_66 rfl (x := (-1)) (h' := zN sg) (Ps := []) rfl trivial rfl ?_
        refine hq _ _ ?_
        exact ⟨_, _, rfl, rfl, mQ_refl, Or.inl ⟨by clear hq hp; grind, rfl⟩⟩
      · skip
        refine zG_run bkMo_styled_37 (lv' := [(0, .ref 393), (1, .int f), (2, .int m), (3, .int g), (4, .int c), (5, .int w)]) (st' := [.long ((7 : Int32).toInt64), .long ((-1 : Int32).toInt64), .long c.toInt64]) (h' := zN sg) (Ps := []) rfl trivial ?_
        refine zG_calls (As := [.long c.toInt64, .long ((-1 : Int32).toInt64), .long ((7 : Int32).toInt64)]) (rest := []) (N2 := 411) bdMo_styled_46 okMo_in lk10_87 (And.intro (by decide) (by decide)) rfl rfl (Nat.le_of_ble_eq_true rfl) (Nat.le_of_ble_eq_true rfl) (Nat.le_refl 411) (Nat.le_refl 411) cMo_inA ?_
        rintro rr h' ⟨rfl, rfl⟩ -
        refine zb_ifeq (tgt := 65) bkMo_styled_49 bdMo_styled_49 (by decide) (lv' := [(0, .ref 393), (1, .int f), (2, .int m), (3, .int g), (4, .int c), (5, .int w)]) (st' := []) (h' := zN sg) (x := if (-1) ≤ c ∧ c ≤ 7 then 1 else 0) (Ps := []) rfl trivial (fun c4 => ?_) (fun c4 => ?_)
        · skip
          refine zb_iret bkMo_styled_65 bdMo_styled_66 rfl (x := (-1)) (h' := zN sg) (Ps := []) rfl trivial rfl ?_
          refine hq _ _ ?_
          exact ⟨_, _, rfl, rfl, mQ_refl, Or.inl ⟨by clear hq hp; grind, rfl⟩⟩
        · skip
          refine zG_run bkMo_styled_52 (lv' := [(0, .ref 393), (1, .int f), (2, .int m), (3, .int g), (4, .int c), (5, .int w)]) (st' := [.long ((2 : Int32).toInt64), .long ((0 : Int32).toInt64), .long w.toInt64]) (h' := zN sg) (Ps := []) rfl trivial ?_
          refine zG_calls (As := [.long w.toInt64, .long ((0 : Int32).toInt64), .long ((2 : Int32).toInt64)]) (rest := []) (N2 := 411) bdMo_styled_59 okMo_in lk10_87 (And.intro (by decide) (by decide)) rfl rfl (Nat.le_of_ble_eq_true rfl) (Nat.le_of_ble_eq_true rfl) (Nat.le_refl 411) (Nat.le_refl 411) cMo_inA ?_
          rintro rr h' ⟨rfl, rfl⟩ -
          refine zb_ifne (tgt := 67) bkMo_styled_62 bdMo_styled_62 (by decide) (lv' := [(0, .ref 393), (1, .int f), (2, .int m), (3, .int g), (4, .int c), (5, .int w)]) (st' := []) (h' := zN sg) (x := if 0 ≤ w ∧ w ≤ 2 then 1 else 0) (Ps := []) rfl trivial (fun c5 => ?_) (fun c5 => ?_)
          · skip
            have hc : ((0 ≤ f ∧ f < sg 395 0) ∧ ((0 ≤ m ∧ m ≤ 15) ∧ (0 ≤ g ∧ g ≤ 15) ∧ (-1 ≤ c ∧ c ≤ 7))) ∧ 0 ≤ w ∧ w ≤ 2 := by clear hq hp; grind (splits := 40)
            refine zG_run bkMo_styled_67 (lv' := [(6, .int f), (0, .ref 393), (1, .int f), (2, .int m), (3, .int g), (4, .int c), (5, .int w)]) (st' := []) (h' := zN sg) (Ps := []) rfl trivial ?_
            refine zG_pick (lv' := [(0, .ref 393), (1, .int f), (2, .int m), (3, .int g), (4, .int c), (5, .int w), (6, .int f)]) [1, 2, 3, 4, 5, 6, 0] rfl ?_
            refine zlp2 (fun (a : Int32) (sg1 : zSig) => zG mMo_styled 411 Q 70 [(0, .ref 393), (1, .int f), (2, .int m), (3, .int g), (4, .int c), (5, .int w), (6, .int a)] [] (zN sg1)) (fun (a : Int32) (sg1 : zSig) => (f ≤ a) ∧ (a ≤ sg 395 0) ∧ (mQ sg sg1) ∧ (∀ q, f ≤ q → q < a → ¬ mSo sg m g c q)) (fun (a : Int32) (sg1 : zSig) => zmu (sg 395 0) a) ?_ f sg ?_
            · intro a sg1 ho iho
              obtain ⟨p0, p1, kf, pz⟩ := ho
              have kr := mQ_row kf
              have ke0 : sg1 395 0 = sg 395 0 := congrFun kr 0
              have ke1 : sg1 395 1 = sg 395 1 := congrFun kr 1
              have ket : sg1 393 11 = sg 393 11 := kf 393 11 (by decide) (by decide) (by decide) (by decide) (by decide) (by decide)
              refine zb_icge (tgt := 100) bkMo_styled_70 bdMo_styled_78 (by decide) (lv' := [(0, .ref 393), (1, .int f), (2, .int m), (3, .int g), (4, .int c), (5, .int w), (6, .int a)]) (st' := []) (h' := zN sg1) (x := a) (y := sg1 395 0) (Ps := [zOb (zN sg1) 393 10 ∧ (zN sg1).2.2 393 3 = true, zInL (zN sg1) 395 0]) rfl (zA ⟨zob_393, rfl⟩ (zA (zinL_395 (i := 0) (by decide) (by decide)) trivial)) (fun c6 => ?_) (fun c6 => ?_)
              · skip
                have e2 : sg1 395 0 = sg 395 0 := ke0
                have hf2 : mQ sg sg1 := kf
                have ha : a = sg 395 0 := by lia
                refine zb_icne (tgt := 113) bkMo_styled_100 bdMo_styled_108 (by decide) (lv' := [(0, .ref 393), (1, .int f), (2, .int m), (3, .int g), (4, .int c), (5, .int w), (6, .int a)]) (st' := []) (h' := zN sg1) (x := a) (y := sg1 395 0) (Ps := [zOb (zN sg1) 393 10 ∧ (zN sg1).2.2 393 3 = true, zInL (zN sg1) 395 0]) rfl (zA ⟨zob_393, rfl⟩ (zA (zinL_395 (i := 0) (by decide) (by decide)) trivial)) (fun c7 => ?_) (fun c7 => ?_)
                · skip
                  exfalso; lia
                · skip
                  refine zb_iret bkMo_styled_111 bdMo_styled_112 rfl (x := (-1)) (h' := zN sg1) (Ps := []) rfl trivial rfl ?_
                  refine hq _ _ ?_
                  exact ⟨_, _, rfl, rfl, hf2, Or.inr ⟨hc, Or.inl ⟨rfl, fun q q0 q1 => pz q q0 (by lia)⟩⟩⟩
              · skip
                refine zG_run bkMo_styled_81 (lv' := [(0, .ref 393), (1, .int f), (2, .int m), (3, .int g), (4, .int c), (5, .int w), (6, .int a)]) (st' := [.int c, .int g, .int m, .int a, .ref 393]) (h' := zN sg1) (Ps := []) rfl trivial ?_
                refine zG_callv (a := 393) (c := 10) (As := [.int a, .int m, .int g, .int c]) (rest := []) (N2 := 411) bdMo_styled_88 okMo_isSo lk10_291 (And.intro (by decide) (by decide)) (by decide) rfl rfl rfl (Nat.le_of_ble_eq_true rfl) (Nat.le_of_ble_eq_true rfl) (Nat.le_refl 411) (Nat.le_refl 411) zob_393 (cMo_isSo (i := a) (m := m) (g := g) (c := c) (by lia) (by lia) (by lia) (by lia)) ?_
                rintro rr h' ⟨vo, sg8, rfl, rfl, hfo, hto, hvo⟩ -
                rw [mS_row kr] at hto hvo
                have e18 : sg8 393 18 = (mS sg (-1) a).2.2 := by rw [← hto]; rfl
                have hQo : mQ sg sg8 := mQ_trans kf (mFr_Q hfo)
                refine zb_ifne (tgt := 100) bkMo_styled_91 bdMo_styled_91 (by decide) (lv' := [(0, .ref 393), (1, .int f), (2, .int m), (3, .int g), (4, .int c), (5, .int w), (6, .int a)]) (st' := []) (h' := zN sg8) (x := vo) (Ps := []) rfl trivial (fun c9 => ?_) (fun c9 => ?_)
                · skip
                  have e2 : sg8 395 0 = sg 395 0 := congrFun (mQ_row hQo) 0
                  have ha : mSo sg m g c a := hvo.elim (fun h => h.2) (fun h => absurd h.1 (by lia))
                  clear hvo hto e18
                  refine zb_icne (tgt := 113) bkMo_styled_100 bdMo_styled_108 (by decide) (lv' := [(0, .ref 393), (1, .int f), (2, .int m), (3, .int g), (4, .int c), (5, .int w), (6, .int a)]) (st' := []) (h' := zN sg8) (x := a) (y := sg8 395 0) (Ps := [zOb (zN sg8) 393 10 ∧ (zN sg8).2.2 393 3 = true, zInL (zN sg8) 395 0]) rfl (zA ⟨zob_393, rfl⟩ (zA (zinL_395 (i := 0) (by decide) (by decide)) trivial)) (fun c10 => ?_) (fun c10 => ?_)
                  · skip
                    refine zG_run bkMo_styled_113 (lv' := [(9, .int a), (8, .int 0), (7, .int 0), (0, .ref 393), (1, .int f), (2, .int m), (3, .int g), (4, .int c), (5, .int w), (6, .int a)]) (st' := []) (h' := zN sg8) (Ps := []) rfl trivial ?_
                    refine zG_pick (lv' := [(0, .ref 393), (1, .int f), (2, .int m), (3, .int g), (4, .int c), (5, .int w), (6, .int a), (7, .int 0), (8, .int 0), (9, .int a)]) [3, 4, 5, 6, 7, 8, 9, 2, 1, 0] rfl ?_
                    refine zlp4 (fun (s : Int32) (n : Int32) (i : Int32) (sg1 : zSig) => zG mMo_styled 411 Q 123 [(0, .ref 393), (1, .int f), (2, .int m), (3, .int g), (4, .int c), (5, .int w), (6, .int a), (7, .int s), (8, .int n), (9, .int i)] [] (zN sg1)) (fun (s : Int32) (n : Int32) (i : Int32) (sg1 : zSig) => (a ≤ i) ∧ (i ≤ sg 395 0) ∧ (mQ sg sg1) ∧ (0 ≤ s ∧ s ≤ i - a ∧ (∀ j, a ≤ j → j < a + s → mSo sg m g c j) ∧ (s = i - a ∨ ¬ mSo sg m g c (a + s))) ∧ (∃ F, iNu (mSo sg m g c) a i n F)) (fun (s : Int32) (n : Int32) (i : Int32) (sg1 : zSig) => zmu (sg 395 0) i) ?_ 0 0 a sg8 ?_
                    · intro s n i sg1 hk ihk
                      obtain ⟨i0, i1, kf, ks, kn⟩ := hk
                      have kr := mQ_row kf
                      have ke0 : sg1 395 0 = sg 395 0 := congrFun kr 0
                      have ke1 : sg1 395 1 = sg 395 1 := congrFun kr 1
                      have ket : sg1 393 11 = sg 393 11 := kf 393 11 (by decide) (by decide) (by decide) (by decide) (by decide) (by decide)
                      refine zb_icge (tgt := 192) bkMo_styled_123 bdMo_styled_131 (by decide) (lv' := [(0, .ref 393), (1, .int f), (2, .int m), (3, .int g), (4, .int c), (5, .int w), (6, .int a), (7, .int s), (8, .int n), (9, .int i)]) (st' := []) (h' := zN sg1) (x := i) (y := sg1 395 0) (Ps := [zOb (zN sg1) 393 10 ∧ (zN sg1).2.2 393 3 = true, zInL (zN sg1) 395 0]) rfl (zA ⟨zob_393, rfl⟩ (zA (zinL_395 (i := 0) (by decide) (by decide)) trivial)) (fun c11 => ?_) (fun c11 => ?_)
                      · skip
                        refine zb_ifne (tgt := 202) bkMo_styled_192 bdMo_styled_194 (by decide) (lv' := [(0, .ref 393), (1, .int f), (2, .int m), (3, .int g), (4, .int c), (5, .int w), (6, .int a), (7, .int s), (8, .int n), (9, .int i)]) (st' := []) (h' := zN sg1) (x := w) (Ps := []) rfl trivial (fun c12 => ?_) (fun c12 => ?_)
                        · skip
                          refine zb_icne (tgt := 213) bkMo_styled_202 bdMo_styled_205 (by decide) (lv' := [(0, .ref 393), (1, .int f), (2, .int m), (3, .int g), (4, .int c), (5, .int w), (6, .int a), (7, .int s), (8, .int n), (9, .int i)]) (st' := []) (h' := zN sg1) (x := w) (y := 1) (Ps := []) rfl trivial (fun c13 => ?_) (fun c13 => ?_)
                          · skip
                            refine zb_iret bkMo_styled_213 bdMo_styled_215 rfl (x := n) (h' := zN sg1) (Ps := []) rfl trivial rfl ?_
                            refine hq _ _ ?_
                            have ei : i = sg 395 0 := by lia
                            subst ei
                            refine ⟨_, _, rfl, rfl, kf, Or.inr ⟨hc, Or.inr ⟨a, ⟨p0, by lia, ha, pz⟩, fun hw => ?_, fun hw => ?_, fun hw => ?_⟩⟩⟩
                            · first | (exfalso; lia; done) | rfl
                            · first | (exfalso; lia; done) | exact ⟨sy_pos (T := mSo sg m g c) ha ks.1 ks.2.2.2 (by lia) (by lia) (by lia), by lia, ks.2.2.1, ks.2.2.2.elim (fun h => Or.inl (by lia)) Or.inr⟩
                            · first | (exfalso; lia; done) | exact kn
                          · skip
                            refine zb_iret bkMo_styled_208 bdMo_styled_215 rfl (x := s) (h' := zN sg1) (Ps := []) rfl trivial rfl ?_
                            refine hq _ _ ?_
                            have ei : i = sg 395 0 := by lia
                            subst ei
                            refine ⟨_, _, rfl, rfl, kf, Or.inr ⟨hc, Or.inr ⟨a, ⟨p0, by lia, ha, pz⟩, fun hw => ?_, fun hw => ?_, fun hw => ?_⟩⟩⟩
                            · first | (exfalso; lia; done) | rfl
                            · first | (exfalso; lia; done) | exact ⟨sy_pos (T := mSo sg m g c) ha ks.1 ks.2.2.2 (by lia) (by lia) (by lia), by lia, ks.2.2.1, ks.2.2.2.elim (fun h => Or.inl (by lia)) Or.inr⟩
                            · first | (exfalso; lia; done) | exact kn
                        · skip
                          refine zb_iret bkMo_styled_197 bdMo_styled_215 rfl (x := a) (h' := zN sg1) (Ps := []) rfl trivial rfl ?_
                          refine hq _ _ ?_
                          have ei : i = sg 395 0 := by lia
                          subst ei
                          refine ⟨_, _, rfl, rfl, kf, Or.inr ⟨hc, Or.inr ⟨a, ⟨p0, by lia, ha, pz⟩, fun hw => ?_, fun hw => ?_, fun hw => ?_⟩⟩⟩
                          · first | (exfalso; lia; done) | rfl
                          · first | (exfalso; lia; done) | exact ⟨sy_pos (T := mSo sg m g c) ha ks.1 ks.2.2.2 (by lia) (by lia) (by lia), by lia, ks.2.2.1, ks.2.2.2.elim (fun h => Or.inl (by lia)) Or.inr⟩
                          · first | (exfalso; lia; done) | exact kn
                      · skip
                        refine zG_run bkMo_styled_134 (lv' := [(0, .ref 393), (1, .int f), (2, .int m), (3, .int g), (4, .int c), (5, .int w), (6, .int a), (7, .int s), (8, .int n), (9, .int i)]) (st' := [.int c, .int g, .int m, .int i, .ref 393]) (h' := zN sg1) (Ps := []) rfl trivial ?_
                        refine zG_callv (a := 393) (c := 10) (As := [.int i, .int m, .int g, .int c]) (rest := []) (N2 := 411) bdMo_styled_141 okMo_isSo lk10_291 (And.intro (by decide) (by decide)) (by decide) rfl rfl rfl (Nat.le_of_ble_eq_true rfl) (Nat.le_of_ble_eq_true rfl) (Nat.le_refl 411) (Nat.le_refl 411) zob_393 (cMo_isSo (i := i) (m := m) (g := g) (c := c) (by lia) (by lia) (by lia) (by lia)) ?_
                        rintro rr h' ⟨vo, sg14, rfl, rfl, hfo, hto, hvo⟩ -
                        rw [mS_row kr] at hto hvo
                        have e18 : sg14 393 18 = (mS sg (-1) i).2.2 := by rw [← hto]; rfl
                        have hQo : mQ sg sg14 := mQ_trans kf (mFr_Q hfo)
                        refine zb_ifeq (tgt := 167) bkMo_styled_144 bdMo_styled_150 (by decide) (lv' := [(10, .int vo), (0, .ref 393), (1, .int f), (2, .int m), (3, .int g), (4, .int c), (5, .int w), (6, .int a), (7, .int s), (8, .int n), (9, .int i)]) (st' := [.int s]) (h' := zN sg14) (x := vo) (Ps := []) rfl trivial (fun c15 => ?_) (fun c15 => ?_)
                        · skip
                          refine zb_ifeq (tgt := 182) bkMo_styled_167 bdMo_styled_175 (by decide) (lv' := [(7, .int (s + 0)), (10, .int vo), (0, .ref 393), (1, .int f), (2, .int m), (3, .int g), (4, .int c), (5, .int w), (6, .int a), (8, .int n), (9, .int i)]) (st' := [.int n]) (h' := zN sg14) (x := vo) (Ps := []) rfl trivial (fun c16 => ?_) (fun c16 => ?_)
                          · skip
                            refine zG_run bkMo_styled_182 (lv' := [(9, .int (i + 1)), (8, .int (n + 0)), (7, .int (s + 0)), (10, .int vo), (0, .ref 393), (1, .int f), (2, .int m), (3, .int g), (4, .int c), (5, .int w), (6, .int a)]) (st' := []) (h' := zN sg14) (Ps := []) rfl trivial ?_
                            refine zG_pick (lv' := [(0, .ref 393), (1, .int f), (2, .int m), (3, .int g), (4, .int c), (5, .int w), (6, .int a), (7, .int (s + 0)), (8, .int (n + 0)), (9, .int (i + 1))]) [4, 5, 6, 7, 8, 9, 10, 2, 1, 0] rfl ?_
                            refine ihk (s + 0) (n + 0) (i + 1) sg14 ?_ ?_
                            · refine ⟨?_, ?_, ?_, ?_, ?_⟩
                              · lia
                              · lia
                              · exact hQo
                              · have hT : ¬ mSo sg m g c i := hvo.elim (fun h => absurd h.1 (by lia)) (fun h => h.2)
                                rw [z0p]
                                refine ⟨ks.1, by lia, ks.2.2.1, ?_⟩
                                rcases ks.2.2.2 with h | h
                                · right; rw [show a + s = i by lia]; exact hT
                                · exact Or.inr h
                              · have hT : ¬ mSo sg m g c i := hvo.elim (fun h => absurd h.1 (by lia)) (fun h => h.2)
                                obtain ⟨F, k1n, k2n⟩ := kn
                                exact ⟨fun j => if j = i then 0 else F j, iNu_s (by lia) (by lia) (by lia : i < sg 395 0) ⟨k1n, k2n⟩ (Or.inr ⟨rfl, hT⟩)⟩
                            · exact zmu_up (by lia)
                          · skip
                            refine zG_run bkMo_styled_178 (lv' := [(9, .int (i + 1)), (8, .int (n + 1)), (7, .int (s + 0)), (10, .int vo), (0, .ref 393), (1, .int f), (2, .int m), (3, .int g), (4, .int c), (5, .int w), (6, .int a)]) (st' := []) (h' := zN sg14) (Ps := []) rfl trivial ?_
                            refine zG_pick (lv' := [(0, .ref 393), (1, .int f), (2, .int m), (3, .int g), (4, .int c), (5, .int w), (6, .int a), (7, .int (s + 0)), (8, .int (n + 1)), (9, .int (i + 1))]) [4, 5, 6, 7, 8, 9, 10, 2, 1, 0] rfl ?_
                            refine ihk (s + 0) (n + 1) (i + 1) sg14 ?_ ?_
                            · refine ⟨?_, ?_, ?_, ?_, ?_⟩
                              · lia
                              · lia
                              · exact hQo
                              · have hT : mSo sg m g c i := hvo.elim (fun h => h.2) (fun h => absurd h.1 (by lia))
                                rw [z0p]
                                refine ⟨ks.1, by lia, ks.2.2.1, Or.inr ?_⟩
                                rcases ks.2.2.2 with h | h
                                · exfalso; lia
                                · exact h
                              · have hT : mSo sg m g c i := hvo.elim (fun h => h.2) (fun h => absurd h.1 (by lia))
                                obtain ⟨F, k1n, k2n⟩ := kn
                                exact ⟨fun j => if j = i then 1 else F j, iNu_s (by lia) (by lia) (by lia : i < sg 395 0) ⟨k1n, k2n⟩ (Or.inl ⟨rfl, hT⟩)⟩
                            · exact zmu_up (by lia)
                        · skip
                          refine zb_icne (tgt := 167) bkMo_styled_153 bdMo_styled_160 (by decide) (lv' := [(10, .int vo), (0, .ref 393), (1, .int f), (2, .int m), (3, .int g), (4, .int c), (5, .int w), (6, .int a), (7, .int s), (8, .int n), (9, .int i)]) (st' := [.int s]) (h' := zN sg14) (x := s) (y := i - a) (Ps := []) rfl trivial (fun c17 => ?_) (fun c17 => ?_)
                          · skip
                            refine zb_ifeq (tgt := 182) bkMo_styled_167 bdMo_styled_175 (by decide) (lv' := [(7, .int (s + 0)), (10, .int vo), (0, .ref 393), (1, .int f), (2, .int m), (3, .int g), (4, .int c), (5, .int w), (6, .int a), (8, .int n), (9, .int i)]) (st' := [.int n]) (h' := zN sg14) (x := vo) (Ps := []) rfl trivial (fun c18 => ?_) (fun c18 => ?_)
                            · skip
                              refine zG_run bkMo_styled_182 (lv' := [(9, .int (i + 1)), (8, .int (n + 0)), (7, .int (s + 0)), (10, .int vo), (0, .ref 393), (1, .int f), (2, .int m), (3, .int g), (4, .int c), (5, .int w), (6, .int a)]) (st' := []) (h' := zN sg14) (Ps := []) rfl trivial ?_
                              refine zG_pick (lv' := [(0, .ref 393), (1, .int f), (2, .int m), (3, .int g), (4, .int c), (5, .int w), (6, .int a), (7, .int (s + 0)), (8, .int (n + 0)), (9, .int (i + 1))]) [4, 5, 6, 7, 8, 9, 10, 2, 1, 0] rfl ?_
                              refine ihk (s + 0) (n + 0) (i + 1) sg14 ?_ ?_
                              · refine ⟨?_, ?_, ?_, ?_, ?_⟩
                                · lia
                                · lia
                                · exact hQo
                                · have hT : ¬ mSo sg m g c i := hvo.elim (fun h => absurd h.1 (by lia)) (fun h => h.2)
                                  rw [z0p]
                                  refine ⟨ks.1, by lia, ks.2.2.1, ?_⟩
                                  rcases ks.2.2.2 with h | h
                                  · right; rw [show a + s = i by lia]; exact hT
                                  · exact Or.inr h
                                · have hT : ¬ mSo sg m g c i := hvo.elim (fun h => absurd h.1 (by lia)) (fun h => h.2)
                                  obtain ⟨F, k1n, k2n⟩ := kn
                                  exact ⟨fun j => if j = i then 0 else F j, iNu_s (by lia) (by lia) (by lia : i < sg 395 0) ⟨k1n, k2n⟩ (Or.inr ⟨rfl, hT⟩)⟩
                              · exact zmu_up (by lia)
                            · skip
                              refine zG_run bkMo_styled_178 (lv' := [(9, .int (i + 1)), (8, .int (n + 1)), (7, .int (s + 0)), (10, .int vo), (0, .ref 393), (1, .int f), (2, .int m), (3, .int g), (4, .int c), (5, .int w), (6, .int a)]) (st' := []) (h' := zN sg14) (Ps := []) rfl trivial ?_
                              refine zG_pick (lv' := [(0, .ref 393), (1, .int f), (2, .int m), (3, .int g), (4, .int c), (5, .int w), (6, .int a), (7, .int (s + 0)), (8, .int (n + 1)), (9, .int (i + 1))]) [4, 5, 6, 7, 8, 9, 10, 2, 1, 0] rfl ?_
                              refine ihk (s + 0) (n + 1) (i + 1) sg14 ?_ ?_
                              · refine ⟨?_, ?_, ?_, ?_, ?_⟩
                                · lia
                                · lia
                                · exact hQo
                                · have hT : mSo sg m g c i := hvo.elim (fun h => h.2) (fun h => absurd h.1 (by lia))
                                  rw [z0p]
                                  refine ⟨ks.1, by lia, ks.2.2.1, Or.inr ?_⟩
                                  rcases ks.2.2.2 with h | h
                                  · exfalso; lia
                                  · exact h
                                · have hT : mSo sg m g c i := hvo.elim (fun h => h.2) (fun h => absurd h.1 (by lia))
                                  obtain ⟨F, k1n, k2n⟩ := kn
                                  exact ⟨fun j => if j = i then 1 else F j, iNu_s (by lia) (by lia) (by lia : i < sg 395 0) ⟨k1n, k2n⟩ (Or.inl ⟨rfl, hT⟩)⟩
                              · exact zmu_up (by lia)
                          · skip
                            refine zb_ifeq (tgt := 182) bkMo_styled_163 bdMo_styled_175 (by decide) (lv' := [(7, .int (s + 1)), (10, .int vo), (0, .ref 393), (1, .int f), (2, .int m), (3, .int g), (4, .int c), (5, .int w), (6, .int a), (8, .int n), (9, .int i)]) (st' := [.int n]) (h' := zN sg14) (x := vo) (Ps := []) rfl trivial (fun c19 => ?_) (fun c19 => ?_)
                            · skip
                              refine zG_run bkMo_styled_182 (lv' := [(9, .int (i + 1)), (8, .int (n + 0)), (7, .int (s + 1)), (10, .int vo), (0, .ref 393), (1, .int f), (2, .int m), (3, .int g), (4, .int c), (5, .int w), (6, .int a)]) (st' := []) (h' := zN sg14) (Ps := []) rfl trivial ?_
                              refine zG_pick (lv' := [(0, .ref 393), (1, .int f), (2, .int m), (3, .int g), (4, .int c), (5, .int w), (6, .int a), (7, .int (s + 1)), (8, .int (n + 0)), (9, .int (i + 1))]) [4, 5, 6, 7, 8, 9, 10, 2, 1, 0] rfl ?_
                              refine ihk (s + 1) (n + 0) (i + 1) sg14 ?_ ?_
                              · refine ⟨?_, ?_, ?_, ?_, ?_⟩
                                · lia
                                · lia
                                · exact hQo
                                · exfalso; lia
                                · have hT : ¬ mSo sg m g c i := hvo.elim (fun h => absurd h.1 (by lia)) (fun h => h.2)
                                  obtain ⟨F, k1n, k2n⟩ := kn
                                  exact ⟨fun j => if j = i then 0 else F j, iNu_s (by lia) (by lia) (by lia : i < sg 395 0) ⟨k1n, k2n⟩ (Or.inr ⟨rfl, hT⟩)⟩
                              · exact zmu_up (by lia)
                            · skip
                              refine zG_run bkMo_styled_178 (lv' := [(9, .int (i + 1)), (8, .int (n + 1)), (7, .int (s + 1)), (10, .int vo), (0, .ref 393), (1, .int f), (2, .int m), (3, .int g), (4, .int c), (5, .int w), (6, .int a)]) (st' := []) (h' := zN sg14) (Ps := []) rfl trivial ?_
                              refine zG_pick (lv' := [(0, .ref 393), (1, .int f), (2, .int m), (3, .int g), (4, .int c), (5, .int w), (6, .int a), (7, .int (s + 1)), (8, .int (n + 1)), (9, .int (i + 1))]) [4, 5, 6, 7, 8, 9, 10, 2, 1, 0] rfl ?_
                              refine ihk (s + 1) (n + 1) (i + 1) sg14 ?_ ?_
                              · refine ⟨?_, ?_, ?_, ?_, ?_⟩
                                · lia
                                · lia
                                · exact hQo
                                · have hT : mSo sg m g c i := hvo.elim (fun h => h.2) (fun h => absurd h.1 (by lia))
                                  refine ⟨by lia, by lia, fun j j0 j1 => ?_, Or.inl (by lia)⟩
                                  by_cases hj : j = i
                                  · rw [hj]; exact hT
                                  · exact ks.2.2.1 j j0 (by lia)
                                · have hT : mSo sg m g c i := hvo.elim (fun h => h.2) (fun h => absurd h.1 (by lia))
                                  obtain ⟨F, k1n, k2n⟩ := kn
                                  exact ⟨fun j => if j = i then 1 else F j, iNu_s (by lia) (by lia) (by lia : i < sg 395 0) ⟨k1n, k2n⟩ (Or.inl ⟨rfl, hT⟩)⟩
                              · exact zmu_up (by lia)
                    · refine ⟨?_, ?_, ?_, ?_, ?_⟩
                      · lia
                      · lia
                      · exact hQo
                      · exact ⟨by lia, by lia, fun j j0 j1 => by exfalso; lia, Or.inl (by lia)⟩
                      · exact ⟨fun _ => 0, (zit_id (by lia) (fun j x j0 j1 => if_neg (by lia))).symm, fun j j0 j1 => by exfalso; lia⟩
                  · skip
                    refine zb_iret bkMo_styled_111 bdMo_styled_112 rfl (x := (-1)) (h' := zN sg8) (Ps := []) rfl trivial rfl ?_
                    refine hq _ _ ?_
                    exfalso; lia
                · skip
                  refine zG_run bkMo_styled_94 (lv' := [(6, .int (a + 1)), (0, .ref 393), (1, .int f), (2, .int m), (3, .int g), (4, .int c), (5, .int w)]) (st' := []) (h' := zN sg8) (Ps := []) rfl trivial ?_
                  refine zG_pick (lv' := [(0, .ref 393), (1, .int f), (2, .int m), (3, .int g), (4, .int c), (5, .int w), (6, .int (a + 1))]) [1, 2, 3, 4, 5, 6, 0] rfl ?_
                  refine iho (a + 1) sg8 ?_ ?_
                  · refine ⟨?_, ?_, ?_, ?_⟩
                    · lia
                    · lia
                    · exact hQo
                    · intro q q0 q1; by_cases hq2 : q = a
                      · rw [hq2]; exact hvo.elim (fun h => absurd h.1 (by lia)) (fun h => h.2)
                      · exact pz q q0 (by lia)
                  · exact zmu_up (by lia)
            · refine ⟨?_, ?_, ?_, ?_⟩
              · lia
              · lia
              · exact mQ_refl
              · intro q q0 q1; exfalso; lia
          · skip
            refine zb_iret bkMo_styled_65 bdMo_styled_66 rfl (x := (-1)) (h' := zN sg) (Ps := []) rfl trivial rfl ?_
            refine hq _ _ ?_
            exact ⟨_, _, rfl, rfl, mQ_refl, Or.inl ⟨by clear hq hp; grind, rfl⟩⟩
theorem bMo_styled {sg : zSig} {f m g c w : Int32} (n0 : 0 ≤ sg 395 0) (n2 : sg 395 0 ≤ 200) (g0 : 0 ≤ sg 395 1) (g1 : sg 395 1 ≤ 16) (hp : okP sg) : zG mMo_styled 411 (fun rr h' => ∃ v sg', rr = some (.int v) ∧ h' = zN sg' ∧ mQ sg sg' ∧ ((¬ (((0 ≤ f ∧ f < sg 395 0) ∧ ((0 ≤ m ∧ m ≤ 15) ∧ (0 ≤ g ∧ g ≤ 15) ∧ (-1 ≤ c ∧ c ≤ 7))) ∧ 0 ≤ w ∧ w ≤ 2) ∧ v = -1) ∨ ((((0 ≤ f ∧ f < sg 395 0) ∧ ((0 ≤ m ∧ m ≤ 15) ∧ (0 ≤ g ∧ g ≤ 15) ∧ (-1 ≤ c ∧ c ≤ 7))) ∧ 0 ≤ w ∧ w ≤ 2) ∧ mYd (mSo sg m g c) f (sg 395 0) w v))) 5 [(0, .ref 393), (1, .int f), (2, .int m), (3, .int g), (4, .int c), (5, .int w)] [] (zN sg) := lMo_styled n0 n2 g0 g1 hp (fun _ _ q => q)
theorem tMo_styled {sg : zSig} {f m g c w : Int32} {Q : Option Value → zHp → Prop} (gz : zG mMo_styled 411 Q 5 [(0, .ref 393), (1, .int f), (2, .int m), (3, .int g), (4, .int c), (5, .int w)] [] (zN (zup sg 393 0 0))) : zG mMo_styled 411 Q 0 [(0, .ref 393), (1, .int f), (2, .int m), (3, .int g), (4, .int c), (5, .int w)] [] (zN sg) :=
  zG_run bkMo_styled_0 (lv' := [(0, .ref 393), (1, .int f), (2, .int m), (3, .int g), (4, .int c), (5, .int w)]) (st' := []) (h' := zN (zup sg 393 0 0)) (Ps := [zOb (zN sg) 393 10]) rfl (zA zob_393 trivial) gz
