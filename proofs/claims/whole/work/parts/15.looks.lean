/-! the tape and the looks: printed by wip/whole/p15.py -/
def isL (v : Int32) : Prop := (32 ≤ v ∧ v ≤ 126) ∧ v ≠ 91 ∧ v ≠ 93
theorem isL_iff (v : Int32) : isL v ↔ (32 ≤ v ∧ v ≤ 126) ∧ v ≠ 91 ∧ v ≠ 93 := Iff.rfl
/-- a run begins at i -/
def bg (S : Int32 → Int32) (i : Int32) : Int32 := if i = 0 ∨ S i ≠ S (i - 1) then 1 else 0
def rN (S : Int32 → Int32) (i a : Int32) : Int32 := if bg S i = 0 then a else a + 1
/-- longest run so far, length of the run at hand -/
def rL (S : Int32 → Int32) (i : Int32) (a : Int32 × Int32) : Int32 × Int32 := (fMax a.1 (if bg S i = 0 then a.2 + 1 else 1), if bg S i = 0 then a.2 + 1 else 1)
theorem bkTap_at_0 : zBk mTap_at 0 [(1, 1, 0, 0, 0)] = some 1 := by decide +kernel
theorem bkTap_at_21 : zBk mTap_at 21 [(0, 0, 0, 0, -1)] = some 22 := by decide +kernel
theorem bkTap_at_4 : zBk mTap_at 4 [(1, 1, 0, 0, 0), (1, 0, 1, 0, 0), (5, 7, 1, 0, 1)] = some 9 := by decide +kernel
theorem bkTap_at_12 : zBk mTap_at 12 [(1, 0, 1, 0, 0), (5, 7, 0, 1, 0), (1, 1, 0, 0, 0), (7, 0, 0, 0, 0), (22, 22, 0, 0, 0)] = some 22 := by decide +kernel
theorem bdTap_at_1 : decode mTap_at.2.2.1 1 = .ok (.ifCond .lt 20, 3) := by decide +kernel
theorem bdTap_at_9 : decode mTap_at.2.2.1 9 = .ok (.if_icmp .ge 12, 3) := by decide +kernel
theorem bdTap_at_22 : decode mTap_at.2.2.1 22 = .ok (.ireturn, 1) := by decide +kernel
theorem cTap_at {sg : zSig} {i : Int32} (hn : sg 34 1 ≤ 400) : zG mTap_at 411 (fun rr h' => rr = some (.int (if 0 ≤ i ∧ i < sg 34 1 then sg 35 i else -1)) ∧ h' = zN sg) 0 [(0, .ref 34), (1, .int i)] [] (zN sg) := by
  refine zb_iflt (tgt := 21) bkTap_at_0 bdTap_at_1 (by decide) (lv' := [(0, .ref 34), (1, .int i)]) (st' := []) (h' := zN sg) (x := i) (Ps := []) rfl trivial (fun c1 => ?_) (fun c1 => ?_)
  · skip
    refine zb_iret bkTap_at_21 bdTap_at_22 rfl (x := (-1)) (h' := zN sg) (Ps := []) rfl trivial rfl ?_
    exact ⟨by grind, rfl⟩
  · skip
    refine zb_icge (tgt := 21) bkTap_at_4 bdTap_at_9 (by decide) (lv' := [(0, .ref 34), (1, .int i)]) (st' := []) (h' := zN sg) (x := i) (y := sg 34 1) (Ps := [zOb (zN sg) 34 7]) rfl (zA zob_34 trivial) (fun c2 => ?_) (fun c2 => ?_)
    · skip
      refine zb_iret bkTap_at_21 bdTap_at_22 rfl (x := (-1)) (h' := zN sg) (Ps := []) rfl trivial rfl ?_
      exact ⟨by grind, rfl⟩
    · skip
      refine zb_iret bkTap_at_12 bdTap_at_22 rfl (x := sg 35 i) (h' := zN sg) (Ps := [zOb (zN sg) 34 7 ∧ (zN sg).2.2 34 0 = true, zInL (zN sg) 35 i]) rfl (zA ⟨zob_34, rfl⟩ (zA (zinL_35 (i := i) (by grind) (by grind)) trivial)) rfl ?_
      exact ⟨by grind, rfl⟩
theorem bkTap_isLetter_0 : zBk mTap_isLetter 0 [(1, 0, 0, 0, 0), (0, 0, 0, 0, 32)] = some 3 := by decide +kernel
theorem bkTap_isLetter_28 : zBk mTap_isLetter 28 [(0, 0, 0, 0, 0)] = some 29 := by decide +kernel
theorem bkTap_isLetter_6 : zBk mTap_isLetter 6 [(1, 0, 0, 0, 0), (0, 0, 0, 0, 126)] = some 9 := by decide +kernel
theorem bkTap_isLetter_12 : zBk mTap_isLetter 12 [(1, 0, 0, 0, 0), (0, 0, 0, 0, 91)] = some 15 := by decide +kernel
theorem bkTap_isLetter_18 : zBk mTap_isLetter 18 [(1, 0, 0, 0, 0), (0, 0, 0, 0, 93)] = some 21 := by decide +kernel
theorem bkTap_isLetter_24 : zBk mTap_isLetter 24 [(0, 0, 0, 0, 1), (22, 29, 0, 0, 0)] = some 29 := by decide +kernel
theorem bdTap_isLetter_3 : decode mTap_isLetter.2.2.1 3 = .ok (.if_icmp .lt 25, 3) := by decide +kernel
theorem bdTap_isLetter_9 : decode mTap_isLetter.2.2.1 9 = .ok (.if_icmp .gt 19, 3) := by decide +kernel
theorem bdTap_isLetter_15 : decode mTap_isLetter.2.2.1 15 = .ok (.if_icmp .eq 13, 3) := by decide +kernel
theorem bdTap_isLetter_21 : decode mTap_isLetter.2.2.1 21 = .ok (.if_icmp .eq 7, 3) := by decide +kernel
theorem bdTap_isLetter_29 : decode mTap_isLetter.2.2.1 29 = .ok (.ireturn, 1) := by decide +kernel
theorem cTap_isLetter {sg : zSig} {v : Int32}  : zG mTap_isLetter 411 (fun rr h' => rr = some (.int (if (32 ≤ v ∧ v ≤ 126) ∧ v ≠ 91 ∧ v ≠ 93 then 1 else 0)) ∧ h' = zN sg) 0 [(0, .int v)] [] (zN sg) := by
  refine zb_iclt (tgt := 28) bkTap_isLetter_0 bdTap_isLetter_3 (by decide) (lv' := [(0, .int v)]) (st' := []) (h' := zN sg) (x := v) (y := 32) (Ps := []) rfl trivial (fun c1 => ?_) (fun c1 => ?_)
  · skip
    refine zb_zret bkTap_isLetter_28 bdTap_isLetter_29 rfl (x := 0) (h' := zN sg) (Ps := []) rfl trivial rfl (Or.inl rfl) ?_
    exact ⟨by grind, rfl⟩
  · skip
    refine zb_icgt (tgt := 28) bkTap_isLetter_6 bdTap_isLetter_9 (by decide) (lv' := [(0, .int v)]) (st' := []) (h' := zN sg) (x := v) (y := 126) (Ps := []) rfl trivial (fun c2 => ?_) (fun c2 => ?_)
    · skip
      refine zb_zret bkTap_isLetter_28 bdTap_isLetter_29 rfl (x := 0) (h' := zN sg) (Ps := []) rfl trivial rfl (Or.inl rfl) ?_
      exact ⟨by grind, rfl⟩
    · skip
      refine zb_iceq (tgt := 28) bkTap_isLetter_12 bdTap_isLetter_15 (by decide) (lv' := [(0, .int v)]) (st' := []) (h' := zN sg) (x := v) (y := 91) (Ps := []) rfl trivial (fun c3 => ?_) (fun c3 => ?_)
      · skip
        refine zb_zret bkTap_isLetter_28 bdTap_isLetter_29 rfl (x := 0) (h' := zN sg) (Ps := []) rfl trivial rfl (Or.inl rfl) ?_
        exact ⟨by grind, rfl⟩
      · skip
        refine zb_iceq (tgt := 28) bkTap_isLetter_18 bdTap_isLetter_21 (by decide) (lv' := [(0, .int v)]) (st' := []) (h' := zN sg) (x := v) (y := 93) (Ps := []) rfl trivial (fun c4 => ?_) (fun c4 => ?_)
        · skip
          refine zb_zret bkTap_isLetter_28 bdTap_isLetter_29 rfl (x := 0) (h' := zN sg) (Ps := []) rfl trivial rfl (Or.inl rfl) ?_
          exact ⟨by grind, rfl⟩
        · skip
          refine zb_zret bkTap_isLetter_24 bdTap_isLetter_29 rfl (x := 1) (h' := zN sg) (Ps := []) rfl trivial rfl (Or.inr rfl) ?_
          exact ⟨by grind, rfl⟩
theorem bkTap_areLetters_0 : zBk mTap_areLetters 0 [(0, 0, 0, 0, 0), (2, 1, 0, 0, 0)] = some 2 := by decide +kernel
theorem bkTap_areLetters_2 : zBk mTap_areLetters 2 [(1, 1, 0, 0, 0), (1, 0, 1, 0, 0), (5, 7, 1, 0, 1)] = some 7 := by decide +kernel
theorem bkTap_areLetters_30 : zBk mTap_areLetters 30 [(0, 0, 0, 0, 1)] = some 31 := by decide +kernel
theorem bkTap_areLetters_10 : zBk mTap_areLetters 10 [(1, 0, 1, 0, 0), (5, 7, 0, 1, 0), (1, 1, 0, 0, 0), (7, 0, 0, 0, 0)] = some 16 := by decide +kernel
theorem bkTap_areLetters_19 : zBk mTap_areLetters 19 [] = some 19 := by decide +kernel
theorem bkTap_areLetters_24 : zBk mTap_areLetters 24 [(3, 1, 0, 0, 1), (22, 2, 0, 0, 0)] = some 2 := by decide +kernel
theorem bkTap_areLetters_22 : zBk mTap_areLetters 22 [(0, 0, 0, 0, 0)] = some 23 := by decide +kernel
theorem bdTap_areLetters_7 : decode mTap_areLetters.2.2.1 7 = .ok (.if_icmp .ge 23, 3) := by decide +kernel
theorem bdTap_areLetters_16 : decode mTap_areLetters.2.2.1 16 = .ok (.invokestatic 31, 3) := by decide +kernel
theorem bdTap_areLetters_19 : decode mTap_areLetters.2.2.1 19 = .ok (.ifCond .ne 5, 3) := by decide +kernel
theorem bdTap_areLetters_23 : decode mTap_areLetters.2.2.1 23 = .ok (.ireturn, 1) := by decide +kernel
theorem bdTap_areLetters_31 : decode mTap_areLetters.2.2.1 31 = .ok (.ireturn, 1) := by decide +kernel
theorem lTap_areLetters {sg : zSig}  (hn0 : 0 ≤ sg 34 1) (hn : sg 34 1 ≤ 400) {Q : Option Value → zHp → Prop} (hq : ∀ rr h', (∃ v, rr = some (.int v) ∧ h' = zN sg ∧ ((v = 1 ∧ ∀ j, 0 ≤ j → j < sg 34 1 → isL (sg 35 j)) ∨ (v = 0 ∧ ∃ j, 0 ≤ j ∧ j < sg 34 1 ∧ ¬ isL (sg 35 j)))) → Q rr h') : zG mTap_areLetters 411 Q 0 [(0, .ref 34)] [] (zN sg) := by
  refine zG_run bkTap_areLetters_0 (lv' := [(1, .int 0), (0, .ref 34)]) (st' := []) (h' := zN sg) (Ps := []) rfl trivial ?_
  refine zG_pick (lv' := [(0, .ref 34), (1, .int 0)]) [1, 0] rfl ?_
  refine zlp1 (fun (k : Int32) => zG mTap_areLetters 411 Q 2 [(0, .ref 34), (1, .int k)] [] (zN sg)) (fun (k : Int32) => (0 ≤ k) ∧ (k ≤ sg 34 1) ∧ (∀ j, 0 ≤ j → j < k → isL (sg 35 j))) (fun (k : Int32) => zmu (sg 34 1) k) ?_ 0 ?_
  · intro k hI ih
    obtain ⟨h0, h1, h2⟩ := hI
    refine zb_icge (tgt := 30) bkTap_areLetters_2 bdTap_areLetters_7 (by decide) (lv' := [(0, .ref 34), (1, .int k)]) (st' := []) (h' := zN sg) (x := k) (y := sg 34 1) (Ps := [zOb (zN sg) 34 7]) rfl (zA zob_34 trivial) (fun c1 => ?_) (fun c1 => ?_)
    · skip
      refine zb_zret bkTap_areLetters_30 bdTap_areLetters_31 rfl (x := 1) (h' := zN sg) (Ps := []) rfl trivial rfl (Or.inr rfl) ?_
      refine hq _ _ ?_
      exact ⟨_, rfl, rfl, Or.inl ⟨rfl, fun j h3 h4 => h2 j h3 (by grind)⟩⟩
    · skip
      refine zG_run bkTap_areLetters_10 (lv' := [(0, .ref 34), (1, .int k)]) (st' := [.int (sg 35 k)]) (h' := zN sg) (Ps := [zOb (zN sg) 34 7 ∧ (zN sg).2.2 34 0 = true, zInL (zN sg) 35 k]) rfl (zA ⟨zob_34, rfl⟩ (zA (zinL_35 (i := k) (by grind) (by grind)) trivial)) ?_
      refine zG_calls (As := [.int (sg 35 k)]) (rest := []) (N2 := 411) bdTap_areLetters_16 okTap_isLetter lk7_31 (And.intro (by decide) (by decide)) rfl rfl (Nat.le_of_ble_eq_true rfl) (Nat.le_of_ble_eq_true rfl) (Nat.le_refl 411) (Nat.le_refl 411) cTap_isLetter ?_
      rintro rr h' ⟨rfl, rfl⟩ -
      refine zb_ifne (tgt := 24) bkTap_areLetters_19 bdTap_areLetters_19 (by decide) (lv' := [(0, .ref 34), (1, .int k)]) (st' := []) (h' := zN sg) (x := if (32 ≤ sg 35 k ∧ sg 35 k ≤ 126) ∧ sg 35 k ≠ 91 ∧ sg 35 k ≠ 93 then 1 else 0) (Ps := []) rfl trivial (fun c2 => ?_) (fun c2 => ?_)
      · skip
        refine zG_run bkTap_areLetters_24 (lv' := [(1, .int (k + 1)), (0, .ref 34)]) (st' := []) (h' := zN sg) (Ps := []) rfl trivial ?_
        refine zG_pick (lv' := [(0, .ref 34), (1, .int (k + 1))]) [1, 0] rfl ?_
        refine ih (k + 1) ?_ ?_
        · refine ⟨?_, ?_, ?_⟩
          · grind
          · grind
          · intro j hj0 hj1; by_cases hj : j = k; · subst hj; rw [isL_iff]; grind
            exact h2 j hj0 (by grind)
        · exact zmu_up (by grind)
      · skip
        refine zb_zret bkTap_areLetters_22 bdTap_areLetters_23 rfl (x := 0) (h' := zN sg) (Ps := []) rfl trivial rfl (Or.inl rfl) ?_
        refine hq _ _ ?_
        exact ⟨_, rfl, rfl, Or.inr ⟨rfl, k, h0, by grind, by rw [isL_iff]; grind⟩⟩
  · refine ⟨?_, ?_, ?_⟩
    · grind
    · grind
    · grind
theorem cTap_areLetters {sg : zSig}  (hn0 : 0 ≤ sg 34 1) (hn : sg 34 1 ≤ 400) : zG mTap_areLetters 411 (fun rr h' => ∃ v, rr = some (.int v) ∧ h' = zN sg ∧ ((v = 1 ∧ ∀ j, 0 ≤ j → j < sg 34 1 → isL (sg 35 j)) ∨ (v = 0 ∧ ∃ j, 0 ≤ j ∧ j < sg 34 1 ∧ ¬ isL (sg 35 j)))) 0 [(0, .ref 34)] [] (zN sg) := lTap_areLetters hn0 hn (fun _ _ q => q)
def hAF (sg : zSig) (v : Int32) : zSig := fun a j => if a = 34 ∧ j = 1 then sg 34 1 + 4 else if a = 35 ∧ j = sg 34 1 + 3 then v &&& 255 else if a = 35 ∧ j = sg 34 1 + 2 then ((v.toUInt32 >>> ((8 : Int32).toUInt32 &&& Int32.toUInt32 31)).toInt32) &&& 255 else if a = 35 ∧ j = sg 34 1 + 1 then ((v.toUInt32 >>> ((16 : Int32).toUInt32 &&& Int32.toUInt32 31)).toInt32) &&& 255 else if a = 35 ∧ j = sg 34 1 then (v.toUInt32 >>> ((24 : Int32).toUInt32 &&& Int32.toUInt32 31)).toInt32 else sg a j
theorem bkTap_addFour_0 : zBk mTap_addFour 0 [(1, 0, 1, 0, 0), (5, 7, 1, 0, 1), (0, 0, 0, 0, 4), (4, 0, 0, 0, 0), (0, 0, 0, 0, 400)] = some 9 := by decide +kernel
theorem bkTap_addFour_13 : zBk mTap_addFour 13 [(1, 0, 1, 0, 0), (5, 7, 0, 1, 0), (1, 0, 1, 0, 0), (5, 7, 1, 0, 1), (1, 1, 0, 0, 0), (0, 0, 0, 0, 24), (4, 8, 0, 0, 0), (8, 0, 0, 0, 0), (1, 0, 1, 0, 0), (5, 7, 0, 1, 0), (1, 0, 1, 0, 0), (5, 7, 1, 0, 1), (0, 0, 0, 0, 1), (4, 0, 0, 0, 0), (1, 1, 0, 0, 0), (0, 0, 0, 0, 16), (4, 8, 0, 0, 0), (0, 0, 0, 0, 255), (4, 3, 0, 0, 0), (8, 0, 0, 0, 0), (1, 0, 1, 0, 0), (5, 7, 0, 1, 0), (1, 0, 1, 0, 0), (5, 7, 1, 0, 1), (0, 0, 0, 0, 2), (4, 0, 0, 0, 0), (1, 1, 0, 0, 0), (0, 0, 0, 0, 8), (4, 8, 0, 0, 0), (0, 0, 0, 0, 255), (4, 3, 0, 0, 0), (8, 0, 0, 0, 0), (1, 0, 1, 0, 0), (5, 7, 0, 1, 0), (1, 0, 1, 0, 0), (5, 7, 1, 0, 1), (0, 0, 0, 0, 3), (4, 0, 0, 0, 0), (1, 1, 0, 0, 0), (0, 0, 0, 0, 255), (4, 3, 0, 0, 0), (8, 0, 0, 0, 0), (1, 0, 1, 0, 0), (18, 0, 0, 0, 0), (5, 7, 1, 0, 1), (0, 0, 0, 0, 4), (4, 0, 0, 0, 0), (6, 7, 1, 0, 1)] = some 90 := by decide +kernel
theorem bkTap_addFour_12 : zBk mTap_addFour 12 [] = some 12 := by decide +kernel
theorem bdTap_addFour_9 : decode mTap_addFour.2.2.1 9 = .ok (.if_icmp .le 4, 3) := by decide +kernel
theorem bdTap_addFour_12 : decode mTap_addFour.2.2.1 12 = .ok (.return_, 1) := by decide +kernel
theorem bdTap_addFour_90 : decode mTap_addFour.2.2.1 90 = .ok (.return_, 1) := by decide +kernel
theorem cTap_addFour {sg : zSig} {v : Int32} (h1 : 0 ≤ sg 34 1) (h2 : sg 34 1 ≤ 396) : zG mTap_addFour 411 (fun rr h' => rr = none ∧ h' = zN (hAF sg v)) 0 [(0, .ref 34), (1, .int v)] [] (zN sg) := by
  refine zb_icle (tgt := 13) bkTap_addFour_0 bdTap_addFour_9 (by decide) (lv' := [(0, .ref 34), (1, .int v)]) (st' := []) (h' := zN sg) (x := (sg 34 1) + 4) (y := 400) (Ps := [zOb (zN sg) 34 7]) rfl (zA zob_34 trivial) (fun c1 => ?_) (fun c1 => ?_)
  · skip
    refine zb_vret bkTap_addFour_13 bdTap_addFour_90 rfl (h' := zN (zup (zup (zup (zup (zup sg 35 (sg 34 1) ((v.toUInt32 >>> ((24 : Int32).toUInt32 &&& Int32.toUInt32 31)).toInt32)) 35 (((zup sg 35 (sg 34 1) ((v.toUInt32 >>> ((24 : Int32).toUInt32 &&& Int32.toUInt32 31)).toInt32)) 34 1) + 1) (((v.toUInt32 >>> ((16 : Int32).toUInt32 &&& Int32.toUInt32 31)).toInt32) &&& 255)) 35 (((zup (zup sg 35 (sg 34 1) ((v.toUInt32 >>> ((24 : Int32).toUInt32 &&& Int32.toUInt32 31)).toInt32)) 35 (((zup sg 35 (sg 34 1) ((v.toUInt32 >>> ((24 : Int32).toUInt32 &&& Int32.toUInt32 31)).toInt32)) 34 1) + 1) (((v.toUInt32 >>> ((16 : Int32).toUInt32 &&& Int32.toUInt32 31)).toInt32) &&& 255)) 34 1) + 2) (((v.toUInt32 >>> ((8 : Int32).toUInt32 &&& Int32.toUInt32 31)).toInt32) &&& 255)) 35 (((zup (zup (zup sg 35 (sg 34 1) ((v.toUInt32 >>> ((24 : Int32).toUInt32 &&& Int32.toUInt32 31)).toInt32)) 35 (((zup sg 35 (sg 34 1) ((v.toUInt32 >>> ((24 : Int32).toUInt32 &&& Int32.toUInt32 31)).toInt32)) 34 1) + 1) (((v.toUInt32 >>> ((16 : Int32).toUInt32 &&& Int32.toUInt32 31)).toInt32) &&& 255)) 35 (((zup (zup sg 35 (sg 34 1) ((v.toUInt32 >>> ((24 : Int32).toUInt32 &&& Int32.toUInt32 31)).toInt32)) 35 (((zup sg 35 (sg 34 1) ((v.toUInt32 >>> ((24 : Int32).toUInt32 &&& Int32.toUInt32 31)).toInt32)) 34 1) + 1) (((v.toUInt32 >>> ((16 : Int32).toUInt32 &&& Int32.toUInt32 31)).toInt32) &&& 255)) 34 1) + 2) (((v.toUInt32 >>> ((8 : Int32).toUInt32 &&& Int32.toUInt32 31)).toInt32) &&& 255)) 34 1) + 3) (v &&& 255)) 34 1 (((zup (zup (zup (zup sg 35 (sg 34 1) ((v.toUInt32 >>> ((24 : Int32).toUInt32 &&& Int32.toUInt32 31)).toInt32)) 35 (((zup sg 35 (sg 34 1) ((v.toUInt32 >>> ((24 : Int32).toUInt32 &&& Int32.toUInt32 31)).toInt32)) 34 1) + 1) (((v.toUInt32 >>> ((16 : Int32).toUInt32 &&& Int32.toUInt32 31)).toInt32) &&& 255)) 35 (((zup (zup sg 35 (sg 34 1) ((v.toUInt32 >>> ((24 : Int32).toUInt32 &&& Int32.toUInt32 31)).toInt32)) 35 (((zup sg 35 (sg 34 1) ((v.toUInt32 >>> ((24 : Int32).toUInt32 &&& Int32.toUInt32 31)).toInt32)) 34 1) + 1) (((v.toUInt32 >>> ((16 : Int32).toUInt32 &&& Int32.toUInt32 31)).toInt32) &&& 255)) 34 1) + 2) (((v.toUInt32 >>> ((8 : Int32).toUInt32 &&& Int32.toUInt32 31)).toInt32) &&& 255)) 35 (((zup (zup (zup sg 35 (sg 34 1) ((v.toUInt32 >>> ((24 : Int32).toUInt32 &&& Int32.toUInt32 31)).toInt32)) 35 (((zup sg 35 (sg 34 1) ((v.toUInt32 >>> ((24 : Int32).toUInt32 &&& Int32.toUInt32 31)).toInt32)) 34 1) + 1) (((v.toUInt32 >>> ((16 : Int32).toUInt32 &&& Int32.toUInt32 31)).toInt32) &&& 255)) 35 (((zup (zup sg 35 (sg 34 1) ((v.toUInt32 >>> ((24 : Int32).toUInt32 &&& Int32.toUInt32 31)).toInt32)) 35 (((zup sg 35 (sg 34 1) ((v.toUInt32 >>> ((24 : Int32).toUInt32 &&& Int32.toUInt32 31)).toInt32)) 34 1) + 1) (((v.toUInt32 >>> ((16 : Int32).toUInt32 &&& Int32.toUInt32 31)).toInt32) &&& 255)) 34 1) + 2) (((v.toUInt32 >>> ((8 : Int32).toUInt32 &&& Int32.toUInt32 31)).toInt32) &&& 255)) 34 1) + 3) (v &&& 255)) 34 1) + 4))) (Ps := [zOb (zN sg) 34 7 ∧ (zN sg).2.2 34 0 = true, zOb (zN sg) 34 7, zIn (zN sg) 35 0 (sg 34 1), zOb (zN (zup sg 35 (sg 34 1) ((v.toUInt32 >>> ((24 : Int32).toUInt32 &&& Int32.toUInt32 31)).toInt32))) 34 7 ∧ (zN (zup sg 35 (sg 34 1) ((v.toUInt32 >>> ((24 : Int32).toUInt32 &&& Int32.toUInt32 31)).toInt32))).2.2 34 0 = true, zOb (zN (zup sg 35 (sg 34 1) ((v.toUInt32 >>> ((24 : Int32).toUInt32 &&& Int32.toUInt32 31)).toInt32))) 34 7, zIn (zN (zup sg 35 (sg 34 1) ((v.toUInt32 >>> ((24 : Int32).toUInt32 &&& Int32.toUInt32 31)).toInt32))) 35 0 (((zup sg 35 (sg 34 1) ((v.toUInt32 >>> ((24 : Int32).toUInt32 &&& Int32.toUInt32 31)).toInt32)) 34 1) + 1), zOb (zN (zup (zup sg 35 (sg 34 1) ((v.toUInt32 >>> ((24 : Int32).toUInt32 &&& Int32.toUInt32 31)).toInt32)) 35 (((zup sg 35 (sg 34 1) ((v.toUInt32 >>> ((24 : Int32).toUInt32 &&& Int32.toUInt32 31)).toInt32)) 34 1) + 1) (((v.toUInt32 >>> ((16 : Int32).toUInt32 &&& Int32.toUInt32 31)).toInt32) &&& 255))) 34 7 ∧ (zN (zup (zup sg 35 (sg 34 1) ((v.toUInt32 >>> ((24 : Int32).toUInt32 &&& Int32.toUInt32 31)).toInt32)) 35 (((zup sg 35 (sg 34 1) ((v.toUInt32 >>> ((24 : Int32).toUInt32 &&& Int32.toUInt32 31)).toInt32)) 34 1) + 1) (((v.toUInt32 >>> ((16 : Int32).toUInt32 &&& Int32.toUInt32 31)).toInt32) &&& 255))).2.2 34 0 = true, zOb (zN (zup (zup sg 35 (sg 34 1) ((v.toUInt32 >>> ((24 : Int32).toUInt32 &&& Int32.toUInt32 31)).toInt32)) 35 (((zup sg 35 (sg 34 1) ((v.toUInt32 >>> ((24 : Int32).toUInt32 &&& Int32.toUInt32 31)).toInt32)) 34 1) + 1) (((v.toUInt32 >>> ((16 : Int32).toUInt32 &&& Int32.toUInt32 31)).toInt32) &&& 255))) 34 7, zIn (zN (zup (zup sg 35 (sg 34 1) ((v.toUInt32 >>> ((24 : Int32).toUInt32 &&& Int32.toUInt32 31)).toInt32)) 35 (((zup sg 35 (sg 34 1) ((v.toUInt32 >>> ((24 : Int32).toUInt32 &&& Int32.toUInt32 31)).toInt32)) 34 1) + 1) (((v.toUInt32 >>> ((16 : Int32).toUInt32 &&& Int32.toUInt32 31)).toInt32) &&& 255))) 35 0 (((zup (zup sg 35 (sg 34 1) ((v.toUInt32 >>> ((24 : Int32).toUInt32 &&& Int32.toUInt32 31)).toInt32)) 35 (((zup sg 35 (sg 34 1) ((v.toUInt32 >>> ((24 : Int32).toUInt32 &&& Int32.toUInt32 31)).toInt32)) 34 1) + 1) (((v.toUInt32 >>> ((16 : Int32).toUInt32 &&& Int32.toUInt32 31)).toInt32) &&& 255)) 34 1) + 2), zOb (zN (zup (zup (zup sg 35 (sg 34 1) ((v.toUInt32 >>> ((24 : Int32).toUInt32 &&& Int32.toUInt32 31)).toInt32)) 35 (((zup sg 35 (sg 34 1) ((v.toUInt32 >>> ((24 : Int32).toUInt32 &&& Int32.toUInt32 31)).toInt32)) 34 1) + 1) (((v.toUInt32 >>> ((16 : Int32).toUInt32 &&& Int32.toUInt32 31)).toInt32) &&& 255)) 35 (((zup (zup sg 35 (sg 34 1) ((v.toUInt32 >>> ((24 : Int32).toUInt32 &&& Int32.toUInt32 31)).toInt32)) 35 (((zup sg 35 (sg 34 1) ((v.toUInt32 >>> ((24 : Int32).toUInt32 &&& Int32.toUInt32 31)).toInt32)) 34 1) + 1) (((v.toUInt32 >>> ((16 : Int32).toUInt32 &&& Int32.toUInt32 31)).toInt32) &&& 255)) 34 1) + 2) (((v.toUInt32 >>> ((8 : Int32).toUInt32 &&& Int32.toUInt32 31)).toInt32) &&& 255))) 34 7 ∧ (zN (zup (zup (zup sg 35 (sg 34 1) ((v.toUInt32 >>> ((24 : Int32).toUInt32 &&& Int32.toUInt32 31)).toInt32)) 35 (((zup sg 35 (sg 34 1) ((v.toUInt32 >>> ((24 : Int32).toUInt32 &&& Int32.toUInt32 31)).toInt32)) 34 1) + 1) (((v.toUInt32 >>> ((16 : Int32).toUInt32 &&& Int32.toUInt32 31)).toInt32) &&& 255)) 35 (((zup (zup sg 35 (sg 34 1) ((v.toUInt32 >>> ((24 : Int32).toUInt32 &&& Int32.toUInt32 31)).toInt32)) 35 (((zup sg 35 (sg 34 1) ((v.toUInt32 >>> ((24 : Int32).toUInt32 &&& Int32.toUInt32 31)).toInt32)) 34 1) + 1) (((v.toUInt32 >>> ((16 : Int32).toUInt32 &&& Int32.toUInt32 31)).toInt32) &&& 255)) 34 1) + 2) (((v.toUInt32 >>> ((8 : Int32).toUInt32 &&& Int32.toUInt32 31)).toInt32) &&& 255))).2.2 34 0 = true, zOb (zN (zup (zup (zup sg 35 (sg 34 1) ((v.toUInt32 >>> ((24 : Int32).toUInt32 &&& Int32.toUInt32 31)).toInt32)) 35 (((zup sg 35 (sg 34 1) ((v.toUInt32 >>> ((24 : Int32).toUInt32 &&& Int32.toUInt32 31)).toInt32)) 34 1) + 1) (((v.toUInt32 >>> ((16 : Int32).toUInt32 &&& Int32.toUInt32 31)).toInt32) &&& 255)) 35 (((zup (zup sg 35 (sg 34 1) ((v.toUInt32 >>> ((24 : Int32).toUInt32 &&& Int32.toUInt32 31)).toInt32)) 35 (((zup sg 35 (sg 34 1) ((v.toUInt32 >>> ((24 : Int32).toUInt32 &&& Int32.toUInt32 31)).toInt32)) 34 1) + 1) (((v.toUInt32 >>> ((16 : Int32).toUInt32 &&& Int32.toUInt32 31)).toInt32) &&& 255)) 34 1) + 2) (((v.toUInt32 >>> ((8 : Int32).toUInt32 &&& Int32.toUInt32 31)).toInt32) &&& 255))) 34 7, zIn (zN (zup (zup (zup sg 35 (sg 34 1) ((v.toUInt32 >>> ((24 : Int32).toUInt32 &&& Int32.toUInt32 31)).toInt32)) 35 (((zup sg 35 (sg 34 1) ((v.toUInt32 >>> ((24 : Int32).toUInt32 &&& Int32.toUInt32 31)).toInt32)) 34 1) + 1) (((v.toUInt32 >>> ((16 : Int32).toUInt32 &&& Int32.toUInt32 31)).toInt32) &&& 255)) 35 (((zup (zup sg 35 (sg 34 1) ((v.toUInt32 >>> ((24 : Int32).toUInt32 &&& Int32.toUInt32 31)).toInt32)) 35 (((zup sg 35 (sg 34 1) ((v.toUInt32 >>> ((24 : Int32).toUInt32 &&& Int32.toUInt32 31)).toInt32)) 34 1) + 1) (((v.toUInt32 >>> ((16 : Int32).toUInt32 &&& Int32.toUInt32 31)).toInt32) &&& 255)) 34 1) + 2) (((v.toUInt32 >>> ((8 : Int32).toUInt32 &&& Int32.toUInt32 31)).toInt32) &&& 255))) 35 0 (((zup (zup (zup sg 35 (sg 34 1) ((v.toUInt32 >>> ((24 : Int32).toUInt32 &&& Int32.toUInt32 31)).toInt32)) 35 (((zup sg 35 (sg 34 1) ((v.toUInt32 >>> ((24 : Int32).toUInt32 &&& Int32.toUInt32 31)).toInt32)) 34 1) + 1) (((v.toUInt32 >>> ((16 : Int32).toUInt32 &&& Int32.toUInt32 31)).toInt32) &&& 255)) 35 (((zup (zup sg 35 (sg 34 1) ((v.toUInt32 >>> ((24 : Int32).toUInt32 &&& Int32.toUInt32 31)).toInt32)) 35 (((zup sg 35 (sg 34 1) ((v.toUInt32 >>> ((24 : Int32).toUInt32 &&& Int32.toUInt32 31)).toInt32)) 34 1) + 1) (((v.toUInt32 >>> ((16 : Int32).toUInt32 &&& Int32.toUInt32 31)).toInt32) &&& 255)) 34 1) + 2) (((v.toUInt32 >>> ((8 : Int32).toUInt32 &&& Int32.toUInt32 31)).toInt32) &&& 255)) 34 1) + 3), zOb (zN (zup (zup (zup (zup sg 35 (sg 34 1) ((v.toUInt32 >>> ((24 : Int32).toUInt32 &&& Int32.toUInt32 31)).toInt32)) 35 (((zup sg 35 (sg 34 1) ((v.toUInt32 >>> ((24 : Int32).toUInt32 &&& Int32.toUInt32 31)).toInt32)) 34 1) + 1) (((v.toUInt32 >>> ((16 : Int32).toUInt32 &&& Int32.toUInt32 31)).toInt32) &&& 255)) 35 (((zup (zup sg 35 (sg 34 1) ((v.toUInt32 >>> ((24 : Int32).toUInt32 &&& Int32.toUInt32 31)).toInt32)) 35 (((zup sg 35 (sg 34 1) ((v.toUInt32 >>> ((24 : Int32).toUInt32 &&& Int32.toUInt32 31)).toInt32)) 34 1) + 1) (((v.toUInt32 >>> ((16 : Int32).toUInt32 &&& Int32.toUInt32 31)).toInt32) &&& 255)) 34 1) + 2) (((v.toUInt32 >>> ((8 : Int32).toUInt32 &&& Int32.toUInt32 31)).toInt32) &&& 255)) 35 (((zup (zup (zup sg 35 (sg 34 1) ((v.toUInt32 >>> ((24 : Int32).toUInt32 &&& Int32.toUInt32 31)).toInt32)) 35 (((zup sg 35 (sg 34 1) ((v.toUInt32 >>> ((24 : Int32).toUInt32 &&& Int32.toUInt32 31)).toInt32)) 34 1) + 1) (((v.toUInt32 >>> ((16 : Int32).toUInt32 &&& Int32.toUInt32 31)).toInt32) &&& 255)) 35 (((zup (zup sg 35 (sg 34 1) ((v.toUInt32 >>> ((24 : Int32).toUInt32 &&& Int32.toUInt32 31)).toInt32)) 35 (((zup sg 35 (sg 34 1) ((v.toUInt32 >>> ((24 : Int32).toUInt32 &&& Int32.toUInt32 31)).toInt32)) 34 1) + 1) (((v.toUInt32 >>> ((16 : Int32).toUInt32 &&& Int32.toUInt32 31)).toInt32) &&& 255)) 34 1) + 2) (((v.toUInt32 >>> ((8 : Int32).toUInt32 &&& Int32.toUInt32 31)).toInt32) &&& 255)) 34 1) + 3) (v &&& 255))) 34 7, zOb (zN (zup (zup (zup (zup sg 35 (sg 34 1) ((v.toUInt32 >>> ((24 : Int32).toUInt32 &&& Int32.toUInt32 31)).toInt32)) 35 (((zup sg 35 (sg 34 1) ((v.toUInt32 >>> ((24 : Int32).toUInt32 &&& Int32.toUInt32 31)).toInt32)) 34 1) + 1) (((v.toUInt32 >>> ((16 : Int32).toUInt32 &&& Int32.toUInt32 31)).toInt32) &&& 255)) 35 (((zup (zup sg 35 (sg 34 1) ((v.toUInt32 >>> ((24 : Int32).toUInt32 &&& Int32.toUInt32 31)).toInt32)) 35 (((zup sg 35 (sg 34 1) ((v.toUInt32 >>> ((24 : Int32).toUInt32 &&& Int32.toUInt32 31)).toInt32)) 34 1) + 1) (((v.toUInt32 >>> ((16 : Int32).toUInt32 &&& Int32.toUInt32 31)).toInt32) &&& 255)) 34 1) + 2) (((v.toUInt32 >>> ((8 : Int32).toUInt32 &&& Int32.toUInt32 31)).toInt32) &&& 255)) 35 (((zup (zup (zup sg 35 (sg 34 1) ((v.toUInt32 >>> ((24 : Int32).toUInt32 &&& Int32.toUInt32 31)).toInt32)) 35 (((zup sg 35 (sg 34 1) ((v.toUInt32 >>> ((24 : Int32).toUInt32 &&& Int32.toUInt32 31)).toInt32)) 34 1) + 1) (((v.toUInt32 >>> ((16 : Int32).toUInt32 &&& Int32.toUInt32 31)).toInt32) &&& 255)) 35 (((zup (zup sg 35 (sg 34 1) ((v.toUInt32 >>> ((24 : Int32).toUInt32 &&& Int32.toUInt32 31)).toInt32)) 35 (((zup sg 35 (sg 34 1) ((v.toUInt32 >>> ((24 : Int32).toUInt32 &&& Int32.toUInt32 31)).toInt32)) 34 1) + 1) (((v.toUInt32 >>> ((16 : Int32).toUInt32 &&& Int32.toUInt32 31)).toInt32) &&& 255)) 34 1) + 2) (((v.toUInt32 >>> ((8 : Int32).toUInt32 &&& Int32.toUInt32 31)).toInt32) &&& 255)) 34 1) + 3) (v &&& 255))) 34 7]) rfl (zA ⟨zob_34, rfl⟩ (zA zob_34 (zA (zin_35 (i := sg 34 1) (by (try simp only [zup_e]); grind) (by (try simp only [zup_e]); grind)) (zA ⟨zob_34, rfl⟩ (zA zob_34 (zA (zin_35 (i := ((zup sg 35 (sg 34 1) ((v.toUInt32 >>> ((24 : Int32).toUInt32 &&& Int32.toUInt32 31)).toInt32)) 34 1) + 1) (by (try simp only [zup_e]); grind) (by (try simp only [zup_e]); grind)) (zA ⟨zob_34, rfl⟩ (zA zob_34 (zA (zin_35 (i := ((zup (zup sg 35 (sg 34 1) ((v.toUInt32 >>> ((24 : Int32).toUInt32 &&& Int32.toUInt32 31)).toInt32)) 35 (((zup sg 35 (sg 34 1) ((v.toUInt32 >>> ((24 : Int32).toUInt32 &&& Int32.toUInt32 31)).toInt32)) 34 1) + 1) (((v.toUInt32 >>> ((16 : Int32).toUInt32 &&& Int32.toUInt32 31)).toInt32) &&& 255)) 34 1) + 2) (by (try simp only [zup_e]); grind) (by (try simp only [zup_e]); grind)) (zA ⟨zob_34, rfl⟩ (zA zob_34 (zA (zin_35 (i := ((zup (zup (zup sg 35 (sg 34 1) ((v.toUInt32 >>> ((24 : Int32).toUInt32 &&& Int32.toUInt32 31)).toInt32)) 35 (((zup sg 35 (sg 34 1) ((v.toUInt32 >>> ((24 : Int32).toUInt32 &&& Int32.toUInt32 31)).toInt32)) 34 1) + 1) (((v.toUInt32 >>> ((16 : Int32).toUInt32 &&& Int32.toUInt32 31)).toInt32) &&& 255)) 35 (((zup (zup sg 35 (sg 34 1) ((v.toUInt32 >>> ((24 : Int32).toUInt32 &&& Int32.toUInt32 31)).toInt32)) 35 (((zup sg 35 (sg 34 1) ((v.toUInt32 >>> ((24 : Int32).toUInt32 &&& Int32.toUInt32 31)).toInt32)) 34 1) + 1) (((v.toUInt32 >>> ((16 : Int32).toUInt32 &&& Int32.toUInt32 31)).toInt32) &&& 255)) 34 1) + 2) (((v.toUInt32 >>> ((8 : Int32).toUInt32 &&& Int32.toUInt32 31)).toInt32) &&& 255)) 34 1) + 3) (by (try simp only [zup_e]); grind) (by (try simp only [zup_e]); grind)) (zA zob_34 (zA zob_34 trivial)))))))))))))) rfl ?_
    first | (exfalso; grind; done) | (refine ⟨rfl, ?_⟩; congr 1; funext a j; simp only [hAF, zup_e]; grind (splits := 40))
  · skip
    refine zb_vret bkTap_addFour_12 bdTap_addFour_12 rfl (h' := zN sg) (Ps := []) rfl trivial rfl ?_
    first | (exfalso; grind; done) | (refine ⟨rfl, ?_⟩; congr 1; funext a j; simp only [hAF, zup_e]; grind (splits := 40))
theorem bkLoo_beginsRun_0 : zBk mLoo_beginsRun 0 [(1, 1, 0, 0, 0)] = some 1 := by decide +kernel
theorem bkLoo_beginsRun_21 : zBk mLoo_beginsRun 21 [(0, 0, 0, 0, 1), (22, 26, 0, 0, 0)] = some 26 := by decide +kernel
theorem bkLoo_beginsRun_4 : zBk mLoo_beginsRun 4 [(1, 0, 1, 0, 0), (5, 3, 0, 1, 0), (1, 1, 0, 0, 0), (7, 0, 0, 0, 0), (1, 0, 1, 0, 0), (5, 3, 0, 1, 0), (1, 1, 0, 0, 0), (0, 0, 0, 0, 1), (4, 1, 0, 0, 0), (7, 0, 0, 0, 0)] = some 18 := by decide +kernel
theorem bkLoo_beginsRun_25 : zBk mLoo_beginsRun 25 [(0, 0, 0, 0, 0)] = some 26 := by decide +kernel
theorem bdLoo_beginsRun_1 : decode mLoo_beginsRun.2.2.1 1 = .ok (.ifCond .eq 20, 3) := by decide +kernel
theorem bdLoo_beginsRun_18 : decode mLoo_beginsRun.2.2.1 18 = .ok (.if_icmp .eq 7, 3) := by decide +kernel
theorem bdLoo_beginsRun_26 : decode mLoo_beginsRun.2.2.1 26 = .ok (.ireturn, 1) := by decide +kernel
theorem cLoo_beginsRun_313 {sg : zSig} {i : Int32} (h0 : 0 ≤ i) (h1 : i < 200) : zG mLoo_beginsRun 411 (fun rr h' => rr = some (.int (bg (sg 314) i)) ∧ h' = zN sg) 0 [(0, .ref 313), (1, .int i)] [] (zN sg) := by
  refine zb_ifeq (tgt := 21) bkLoo_beginsRun_0 bdLoo_beginsRun_1 (by decide) (lv' := [(0, .ref 313), (1, .int i)]) (st' := []) (h' := zN sg) (x := i) (Ps := []) rfl trivial (fun c1 => ?_) (fun c1 => ?_)
  · skip
    refine zb_zret bkLoo_beginsRun_21 bdLoo_beginsRun_26 rfl (x := 1) (h' := zN sg) (Ps := []) rfl trivial rfl (Or.inr rfl) ?_
    exact ⟨by grind [bg], rfl⟩
  · skip
    refine zb_iceq (tgt := 25) bkLoo_beginsRun_4 bdLoo_beginsRun_18 (by decide) (lv' := [(0, .ref 313), (1, .int i)]) (st' := []) (h' := zN sg) (x := sg 314 i) (y := sg 314 (i - 1)) (Ps := [zOb (zN sg) 313 3 ∧ (zN sg).2.2 313 0 = true, zInL (zN sg) 314 i, zOb (zN sg) 313 3 ∧ (zN sg).2.2 313 0 = true, zInL (zN sg) 314 (i - 1)]) rfl (zA ⟨zob_313, rfl⟩ (zA (zinL_314 (i := i) (by grind) (by grind)) (zA ⟨zob_313, rfl⟩ (zA (zinL_314 (i := i - 1) (by grind) (by grind)) trivial)))) (fun c2 => ?_) (fun c2 => ?_)
    · skip
      refine zb_zret bkLoo_beginsRun_25 bdLoo_beginsRun_26 rfl (x := 0) (h' := zN sg) (Ps := []) rfl trivial rfl (Or.inl rfl) ?_
      exact ⟨by grind [bg], rfl⟩
    · skip
      refine zb_zret bkLoo_beginsRun_21 bdLoo_beginsRun_26 rfl (x := 1) (h' := zN sg) (Ps := []) rfl trivial rfl (Or.inr rfl) ?_
      exact ⟨by grind [bg], rfl⟩
theorem bkLoo_howManyRuns_0 : zBk mLoo_howManyRuns 0 [(0, 0, 0, 0, 0), (2, 1, 0, 0, 0), (0, 0, 0, 0, 0), (2, 2, 0, 0, 0)] = some 4 := by decide +kernel
theorem bkLoo_howManyRuns_4 : zBk mLoo_howManyRuns 4 [(1, 2, 0, 0, 0), (1, 0, 1, 0, 0), (5, 3, 1, 0, 1)] = some 9 := by decide +kernel
theorem bkLoo_howManyRuns_29 : zBk mLoo_howManyRuns 29 [(1, 1, 0, 0, 0)] = some 30 := by decide +kernel
theorem bkLoo_howManyRuns_12 : zBk mLoo_howManyRuns 12 [(1, 0, 1, 0, 0), (1, 2, 0, 0, 0)] = some 14 := by decide +kernel
theorem bkLoo_howManyRuns_17 : zBk mLoo_howManyRuns 17 [] = some 17 := by decide +kernel
theorem bkLoo_howManyRuns_23 : zBk mLoo_howManyRuns 23 [(3, 2, 0, 0, 1), (22, 4, 0, 0, 0)] = some 4 := by decide +kernel
theorem bkLoo_howManyRuns_20 : zBk mLoo_howManyRuns 20 [(3, 1, 0, 0, 1), (3, 2, 0, 0, 1), (22, 4, 0, 0, 0)] = some 4 := by decide +kernel
theorem bdLoo_howManyRuns_9 : decode mLoo_howManyRuns.2.2.1 9 = .ok (.if_icmp .ge 20, 3) := by decide +kernel
theorem bdLoo_howManyRuns_14 : decode mLoo_howManyRuns.2.2.1 14 = .ok (.invokevirtual 84, 3) := by decide +kernel
theorem bdLoo_howManyRuns_17 : decode mLoo_howManyRuns.2.2.1 17 = .ok (.ifCond .eq 6, 3) := by decide +kernel
theorem bdLoo_howManyRuns_30 : decode mLoo_howManyRuns.2.2.1 30 = .ok (.ireturn, 1) := by decide +kernel
theorem lLoo_howManyRuns_313 {sg : zSig}  (hn0 : 0 ≤ sg 313 1) (hn : sg 313 1 ≤ 200) {Q : Option Value → zHp → Prop} (hq : ∀ rr h', (rr = some (.int (zit (rN (sg 314)) 0 (sg 313 1))) ∧ h' = zN sg) → Q rr h') : zG mLoo_howManyRuns 411 Q 0 [(0, .ref 313)] [] (zN sg) := by
  refine zG_run bkLoo_howManyRuns_0 (lv' := [(2, .int 0), (1, .int 0), (0, .ref 313)]) (st' := []) (h' := zN sg) (Ps := []) rfl trivial ?_
  refine zG_pick (lv' := [(0, .ref 313), (1, .int 0), (2, .int 0)]) [2, 1, 0] rfl ?_
  refine zlp2 (fun (n : Int32) (i : Int32) => zG mLoo_howManyRuns 411 Q 4 [(0, .ref 313), (1, .int n), (2, .int i)] [] (zN sg)) (fun (n : Int32) (i : Int32) => (0 ≤ i) ∧ (i ≤ sg 313 1) ∧ (n = zit (rN (sg 314)) 0 i)) (fun (n : Int32) (i : Int32) => zmu (sg 313 1) i) ?_ 0 0 ?_
  · intro n i hI ih
    obtain ⟨h0, h1, h2⟩ := hI
    refine zb_icge (tgt := 29) bkLoo_howManyRuns_4 bdLoo_howManyRuns_9 (by decide) (lv' := [(0, .ref 313), (1, .int n), (2, .int i)]) (st' := []) (h' := zN sg) (x := i) (y := sg 313 1) (Ps := [zOb (zN sg) 313 3]) rfl (zA zob_313 trivial) (fun c1 => ?_) (fun c1 => ?_)
    · skip
      refine zb_iret bkLoo_howManyRuns_29 bdLoo_howManyRuns_30 rfl (x := n) (h' := zN sg) (Ps := []) rfl trivial rfl ?_
      refine hq _ _ ?_
      exact ⟨by grind, rfl⟩
    · skip
      refine zG_run bkLoo_howManyRuns_12 (lv' := [(0, .ref 313), (1, .int n), (2, .int i)]) (st' := [.int i, .ref 313]) (h' := zN sg) (Ps := []) rfl trivial ?_
      refine zG_callv (a := 313) (c := 3) (As := [.int i]) (rest := []) (N2 := 411) bdLoo_howManyRuns_14 okLoo_beginsRun lk3_84 (And.intro (by decide) (by decide)) (by decide) rfl rfl rfl (Nat.le_of_ble_eq_true rfl) (Nat.le_of_ble_eq_true rfl) (Nat.le_refl 411) (Nat.le_refl 411) zob_313 (cLoo_beginsRun_313 (by grind) (by grind)) ?_
      rintro rr h' ⟨rfl, rfl⟩ -
      refine zb_ifeq (tgt := 23) bkLoo_howManyRuns_17 bdLoo_howManyRuns_17 (by decide) (lv' := [(0, .ref 313), (1, .int n), (2, .int i)]) (st' := []) (h' := zN sg) (x := bg (sg 314) i) (Ps := []) rfl trivial (fun c2 => ?_) (fun c2 => ?_)
      · skip
        refine zG_run bkLoo_howManyRuns_23 (lv' := [(2, .int (i + 1)), (0, .ref 313), (1, .int n)]) (st' := []) (h' := zN sg) (Ps := []) rfl trivial ?_
        refine zG_pick (lv' := [(0, .ref 313), (1, .int n), (2, .int (i + 1))]) [1, 2, 0] rfl ?_
        refine ih n (i + 1) ?_ ?_
        · refine ⟨?_, ?_, ?_⟩
          · grind
          · grind
          · rw [zit_s _ _ h0 (by grind : i < sg 313 1)]; grind [rN]
        · exact zmu_up (by grind)
      · skip
        refine zG_run bkLoo_howManyRuns_20 (lv' := [(2, .int (i + 1)), (1, .int (n + 1)), (0, .ref 313)]) (st' := []) (h' := zN sg) (Ps := []) rfl trivial ?_
        refine zG_pick (lv' := [(0, .ref 313), (1, .int (n + 1)), (2, .int (i + 1))]) [2, 1, 0] rfl ?_
        refine ih (n + 1) (i + 1) ?_ ?_
        · refine ⟨?_, ?_, ?_⟩
          · grind
          · grind
          · rw [zit_s _ _ h0 (by grind : i < sg 313 1)]; grind [rN]
        · exact zmu_up (by grind)
  · refine ⟨?_, ?_, ?_⟩
    · grind
    · grind
    · rfl
theorem cLoo_howManyRuns_313 {sg : zSig}  (hn0 : 0 ≤ sg 313 1) (hn : sg 313 1 ≤ 200) : zG mLoo_howManyRuns 411 (fun rr h' => rr = some (.int (zit (rN (sg 314)) 0 (sg 313 1))) ∧ h' = zN sg) 0 [(0, .ref 313)] [] (zN sg) := lLoo_howManyRuns_313 hn0 hn (fun _ _ q => q)
theorem bkLoo_firstOfRun_0 : zBk mLoo_firstOfRun 0 [(0, 0, 0, 0, 0), (2, 2, 0, 0, 0), (0, 0, 0, 0, 0), (2, 3, 0, 0, 0)] = some 4 := by decide +kernel
theorem bkLoo_firstOfRun_4 : zBk mLoo_firstOfRun 4 [(1, 3, 0, 0, 0), (1, 0, 1, 0, 0), (5, 3, 1, 0, 1)] = some 9 := by decide +kernel
theorem bkLoo_firstOfRun_36 : zBk mLoo_firstOfRun 36 [(0, 0, 0, 0, -1)] = some 37 := by decide +kernel
theorem bkLoo_firstOfRun_12 : zBk mLoo_firstOfRun 12 [(1, 0, 1, 0, 0), (1, 3, 0, 0, 0)] = some 14 := by decide +kernel
theorem bkLoo_firstOfRun_17 : zBk mLoo_firstOfRun 17 [] = some 17 := by decide +kernel
theorem bkLoo_firstOfRun_30 : zBk mLoo_firstOfRun 30 [(3, 3, 0, 0, 1), (22, 4, 0, 0, 0)] = some 4 := by decide +kernel
theorem bkLoo_firstOfRun_20 : zBk mLoo_firstOfRun 20 [(1, 2, 0, 0, 0), (1, 1, 0, 0, 0)] = some 22 := by decide +kernel
theorem bkLoo_firstOfRun_27 : zBk mLoo_firstOfRun 27 [(3, 2, 0, 0, 1), (3, 3, 0, 0, 1), (22, 4, 0, 0, 0)] = some 4 := by decide +kernel
theorem bkLoo_firstOfRun_25 : zBk mLoo_firstOfRun 25 [(1, 3, 0, 0, 0)] = some 26 := by decide +kernel
theorem bdLoo_firstOfRun_9 : decode mLoo_firstOfRun.2.2.1 9 = .ok (.if_icmp .ge 27, 3) := by decide +kernel
theorem bdLoo_firstOfRun_14 : decode mLoo_firstOfRun.2.2.1 14 = .ok (.invokevirtual 84, 3) := by decide +kernel
theorem bdLoo_firstOfRun_17 : decode mLoo_firstOfRun.2.2.1 17 = .ok (.ifCond .eq 13, 3) := by decide +kernel
theorem bdLoo_firstOfRun_22 : decode mLoo_firstOfRun.2.2.1 22 = .ok (.if_icmp .ne 5, 3) := by decide +kernel
theorem bdLoo_firstOfRun_26 : decode mLoo_firstOfRun.2.2.1 26 = .ok (.ireturn, 1) := by decide +kernel
theorem bdLoo_firstOfRun_37 : decode mLoo_firstOfRun.2.2.1 37 = .ok (.ireturn, 1) := by decide +kernel
theorem lLoo_firstOfRun_313 {sg : zSig} {q : Int32} (hn0 : 0 ≤ sg 313 1) (hn : sg 313 1 ≤ 200) {Q : Option Value → zHp → Prop} (hq : ∀ rr h', (∃ v, rr = some (.int v) ∧ h' = zN sg ∧ ((0 ≤ v ∧ v < sg 313 1 ∧ bg (sg 314) v ≠ 0 ∧ zit (rN (sg 314)) 0 v = q) ∨ (v = -1 ∧ ∀ j, 0 ≤ j → j < sg 313 1 → bg (sg 314) j = 0 ∨ zit (rN (sg 314)) 0 j ≠ q))) → Q rr h') : zG mLoo_firstOfRun 411 Q 0 [(0, .ref 313), (1, .int q)] [] (zN sg) := by
  refine zG_run bkLoo_firstOfRun_0 (lv' := [(3, .int 0), (2, .int 0), (0, .ref 313), (1, .int q)]) (st' := []) (h' := zN sg) (Ps := []) rfl trivial ?_
  refine zG_pick (lv' := [(0, .ref 313), (1, .int q), (2, .int 0), (3, .int 0)]) [2, 3, 1, 0] rfl ?_
  refine zlp2 (fun (n : Int32) (i : Int32) => zG mLoo_firstOfRun 411 Q 4 [(0, .ref 313), (1, .int q), (2, .int n), (3, .int i)] [] (zN sg)) (fun (n : Int32) (i : Int32) => (0 ≤ i) ∧ (i ≤ sg 313 1) ∧ (n = zit (rN (sg 314)) 0 i) ∧ (∀ j, 0 ≤ j → j < i → bg (sg 314) j = 0 ∨ zit (rN (sg 314)) 0 j ≠ q)) (fun (n : Int32) (i : Int32) => zmu (sg 313 1) i) ?_ 0 0 ?_
  · intro n i hI ih
    obtain ⟨h0, h1, h2, h3⟩ := hI
    refine zb_icge (tgt := 36) bkLoo_firstOfRun_4 bdLoo_firstOfRun_9 (by decide) (lv' := [(0, .ref 313), (1, .int q), (2, .int n), (3, .int i)]) (st' := []) (h' := zN sg) (x := i) (y := sg 313 1) (Ps := [zOb (zN sg) 313 3]) rfl (zA zob_313 trivial) (fun c1 => ?_) (fun c1 => ?_)
    · skip
      refine zb_iret bkLoo_firstOfRun_36 bdLoo_firstOfRun_37 rfl (x := (-1)) (h' := zN sg) (Ps := []) rfl trivial rfl ?_
      refine hq _ _ ?_
      exact ⟨_, rfl, rfl, Or.inr ⟨rfl, fun j h5 h6 => h3 j h5 (by grind)⟩⟩
    · skip
      refine zG_run bkLoo_firstOfRun_12 (lv' := [(0, .ref 313), (1, .int q), (2, .int n), (3, .int i)]) (st' := [.int i, .ref 313]) (h' := zN sg) (Ps := []) rfl trivial ?_
      refine zG_callv (a := 313) (c := 3) (As := [.int i]) (rest := []) (N2 := 411) bdLoo_firstOfRun_14 okLoo_beginsRun lk3_84 (And.intro (by decide) (by decide)) (by decide) rfl rfl rfl (Nat.le_of_ble_eq_true rfl) (Nat.le_of_ble_eq_true rfl) (Nat.le_refl 411) (Nat.le_refl 411) zob_313 (cLoo_beginsRun_313 (by grind) (by grind)) ?_
      rintro rr h' ⟨rfl, rfl⟩ -
      refine zb_ifeq (tgt := 30) bkLoo_firstOfRun_17 bdLoo_firstOfRun_17 (by decide) (lv' := [(0, .ref 313), (1, .int q), (2, .int n), (3, .int i)]) (st' := []) (h' := zN sg) (x := bg (sg 314) i) (Ps := []) rfl trivial (fun c2 => ?_) (fun c2 => ?_)
      · skip
        refine zG_run bkLoo_firstOfRun_30 (lv' := [(3, .int (i + 1)), (0, .ref 313), (1, .int q), (2, .int n)]) (st' := []) (h' := zN sg) (Ps := []) rfl trivial ?_
        refine zG_pick (lv' := [(0, .ref 313), (1, .int q), (2, .int n), (3, .int (i + 1))]) [1, 2, 3, 0] rfl ?_
        refine ih n (i + 1) ?_ ?_
        · refine ⟨?_, ?_, ?_, ?_⟩
          · grind
          · grind
          · rw [zit_s _ _ h0 (by grind : i < sg 313 1)]; grind [rN]
          · intro j hj0 hj1; by_cases hj : j = i; · subst hj; grind
            exact h3 j hj0 (by grind)
        · exact zmu_up (by grind)
      · skip
        refine zb_icne (tgt := 27) bkLoo_firstOfRun_20 bdLoo_firstOfRun_22 (by decide) (lv' := [(0, .ref 313), (1, .int q), (2, .int n), (3, .int i)]) (st' := []) (h' := zN sg) (x := n) (y := q) (Ps := []) rfl trivial (fun c3 => ?_) (fun c3 => ?_)
        · skip
          refine zG_run bkLoo_firstOfRun_27 (lv' := [(3, .int (i + 1)), (2, .int (n + 1)), (0, .ref 313), (1, .int q)]) (st' := []) (h' := zN sg) (Ps := []) rfl trivial ?_
          refine zG_pick (lv' := [(0, .ref 313), (1, .int q), (2, .int (n + 1)), (3, .int (i + 1))]) [2, 3, 1, 0] rfl ?_
          refine ih (n + 1) (i + 1) ?_ ?_
          · refine ⟨?_, ?_, ?_, ?_⟩
            · grind
            · grind
            · rw [zit_s _ _ h0 (by grind : i < sg 313 1)]; grind [rN]
            · intro j hj0 hj1; by_cases hj : j = i; · subst hj; grind
              exact h3 j hj0 (by grind)
          · exact zmu_up (by grind)
        · skip
          refine zb_iret bkLoo_firstOfRun_25 bdLoo_firstOfRun_26 rfl (x := i) (h' := zN sg) (Ps := []) rfl trivial rfl ?_
          refine hq _ _ ?_
          exact ⟨_, rfl, rfl, Or.inl ⟨h0, by grind, by grind, by grind⟩⟩
  · refine ⟨?_, ?_, ?_, ?_⟩
    · grind
    · grind
    · rfl
    · grind
theorem cLoo_firstOfRun_313 {sg : zSig} {q : Int32} (hn0 : 0 ≤ sg 313 1) (hn : sg 313 1 ≤ 200) : zG mLoo_firstOfRun 411 (fun rr h' => ∃ v, rr = some (.int v) ∧ h' = zN sg ∧ ((0 ≤ v ∧ v < sg 313 1 ∧ bg (sg 314) v ≠ 0 ∧ zit (rN (sg 314)) 0 v = q) ∨ (v = -1 ∧ ∀ j, 0 ≤ j → j < sg 313 1 → bg (sg 314) j = 0 ∨ zit (rN (sg 314)) 0 j ≠ q))) 0 [(0, .ref 313), (1, .int q)] [] (zN sg) := lLoo_firstOfRun_313 hn0 hn (fun _ _ q => q)
theorem bkLoo_endOfRun_0 : zBk mLoo_endOfRun 0 [(1, 1, 0, 0, 0), (0, 0, 0, 0, 1), (4, 0, 0, 0, 0), (2, 2, 0, 0, 0)] = some 4 := by decide +kernel
theorem bkLoo_endOfRun_4 : zBk mLoo_endOfRun 4 [(1, 2, 0, 0, 0), (1, 0, 1, 0, 0), (5, 3, 1, 0, 1)] = some 9 := by decide +kernel
theorem bkLoo_endOfRun_26 : zBk mLoo_endOfRun 26 [(1, 2, 0, 0, 0)] = some 27 := by decide +kernel
theorem bkLoo_endOfRun_12 : zBk mLoo_endOfRun 12 [(1, 0, 1, 0, 0), (1, 2, 0, 0, 0)] = some 14 := by decide +kernel
theorem bkLoo_endOfRun_17 : zBk mLoo_endOfRun 17 [] = some 17 := by decide +kernel
theorem bkLoo_endOfRun_20 : zBk mLoo_endOfRun 20 [(3, 2, 0, 0, 1), (22, 4, 0, 0, 0)] = some 4 := by decide +kernel
theorem bdLoo_endOfRun_9 : decode mLoo_endOfRun.2.2.1 9 = .ok (.if_icmp .ge 17, 3) := by decide +kernel
theorem bdLoo_endOfRun_14 : decode mLoo_endOfRun.2.2.1 14 = .ok (.invokevirtual 84, 3) := by decide +kernel
theorem bdLoo_endOfRun_17 : decode mLoo_endOfRun.2.2.1 17 = .ok (.ifCond .ne 9, 3) := by decide +kernel
theorem bdLoo_endOfRun_27 : decode mLoo_endOfRun.2.2.1 27 = .ok (.ireturn, 1) := by decide +kernel
theorem lLoo_endOfRun_313 {sg : zSig} {f : Int32} (hn0 : 0 ≤ sg 313 1) (hn : sg 313 1 ≤ 200) (hf0 : 0 ≤ f) (hf : f < sg 313 1) {Q : Option Value → zHp → Prop} (hq : ∀ rr h', (∃ v, rr = some (.int v) ∧ h' = zN sg ∧ f < v ∧ v ≤ sg 313 1 ∧ (∀ j, f < j → j < v → bg (sg 314) j = 0) ∧ (v = sg 313 1 ∨ bg (sg 314) v ≠ 0)) → Q rr h') : zG mLoo_endOfRun 411 Q 0 [(0, .ref 313), (1, .int f)] [] (zN sg) := by
  refine zG_run bkLoo_endOfRun_0 (lv' := [(2, .int (f + 1)), (0, .ref 313), (1, .int f)]) (st' := []) (h' := zN sg) (Ps := []) rfl trivial ?_
  refine zG_pick (lv' := [(0, .ref 313), (1, .int f), (2, .int (f + 1))]) [1, 2, 0] rfl ?_
  refine zlp1 (fun (i : Int32) => zG mLoo_endOfRun 411 Q 4 [(0, .ref 313), (1, .int f), (2, .int i)] [] (zN sg)) (fun (i : Int32) => (f < i) ∧ (i ≤ sg 313 1) ∧ (∀ j, f < j → j < i → bg (sg 314) j = 0)) (fun (i : Int32) => zmu (sg 313 1) i) ?_ (f + 1) ?_
  · intro i hI ih
    obtain ⟨h0, h1, h2⟩ := hI
    refine zb_icge (tgt := 26) bkLoo_endOfRun_4 bdLoo_endOfRun_9 (by decide) (lv' := [(0, .ref 313), (1, .int f), (2, .int i)]) (st' := []) (h' := zN sg) (x := i) (y := sg 313 1) (Ps := [zOb (zN sg) 313 3]) rfl (zA zob_313 trivial) (fun c1 => ?_) (fun c1 => ?_)
    · skip
      refine zb_iret bkLoo_endOfRun_26 bdLoo_endOfRun_27 rfl (x := i) (h' := zN sg) (Ps := []) rfl trivial rfl ?_
      refine hq _ _ ?_
      exact ⟨_, rfl, rfl, h0, h1, h2, by grind⟩
    · skip
      refine zG_run bkLoo_endOfRun_12 (lv' := [(0, .ref 313), (1, .int f), (2, .int i)]) (st' := [.int i, .ref 313]) (h' := zN sg) (Ps := []) rfl trivial ?_
      refine zG_callv (a := 313) (c := 3) (As := [.int i]) (rest := []) (N2 := 411) bdLoo_endOfRun_14 okLoo_beginsRun lk3_84 (And.intro (by decide) (by decide)) (by decide) rfl rfl rfl (Nat.le_of_ble_eq_true rfl) (Nat.le_of_ble_eq_true rfl) (Nat.le_refl 411) (Nat.le_refl 411) zob_313 (cLoo_beginsRun_313 (by grind) (by grind)) ?_
      rintro rr h' ⟨rfl, rfl⟩ -
      refine zb_ifne (tgt := 26) bkLoo_endOfRun_17 bdLoo_endOfRun_17 (by decide) (lv' := [(0, .ref 313), (1, .int f), (2, .int i)]) (st' := []) (h' := zN sg) (x := bg (sg 314) i) (Ps := []) rfl trivial (fun c2 => ?_) (fun c2 => ?_)
      · skip
        refine zb_iret bkLoo_endOfRun_26 bdLoo_endOfRun_27 rfl (x := i) (h' := zN sg) (Ps := []) rfl trivial rfl ?_
        refine hq _ _ ?_
        exact ⟨_, rfl, rfl, h0, h1, h2, by grind⟩
      · skip
        refine zG_run bkLoo_endOfRun_20 (lv' := [(2, .int (i + 1)), (0, .ref 313), (1, .int f)]) (st' := []) (h' := zN sg) (Ps := []) rfl trivial ?_
        refine zG_pick (lv' := [(0, .ref 313), (1, .int f), (2, .int (i + 1))]) [1, 2, 0] rfl ?_
        refine ih (i + 1) ?_ ?_
        · refine ⟨?_, ?_, ?_⟩
          · grind
          · grind
          · intro j hj0 hj1; by_cases hj : j = i; · subst hj; grind
            exact h2 j hj0 (by grind)
        · exact zmu_up (by grind)
  · refine ⟨?_, ?_, ?_⟩
    · grind
    · grind
    · grind
theorem cLoo_endOfRun_313 {sg : zSig} {f : Int32} (hn0 : 0 ≤ sg 313 1) (hn : sg 313 1 ≤ 200) (hf0 : 0 ≤ f) (hf : f < sg 313 1) : zG mLoo_endOfRun 411 (fun rr h' => ∃ v, rr = some (.int v) ∧ h' = zN sg ∧ f < v ∧ v ≤ sg 313 1 ∧ (∀ j, f < j → j < v → bg (sg 314) j = 0) ∧ (v = sg 313 1 ∨ bg (sg 314) v ≠ 0)) 0 [(0, .ref 313), (1, .int f)] [] (zN sg) := lLoo_endOfRun_313 hn0 hn hf0 hf (fun _ _ q => q)
theorem bkLoo_longestLength_0 : zBk mLoo_longestLength 0 [(0, 0, 0, 0, 0), (2, 1, 0, 0, 0), (0, 0, 0, 0, 0), (2, 2, 0, 0, 0), (0, 0, 0, 0, 0), (2, 3, 0, 0, 0)] = some 6 := by decide +kernel
theorem bkLoo_longestLength_6 : zBk mLoo_longestLength 6 [(1, 3, 0, 0, 0), (1, 0, 1, 0, 0), (5, 3, 1, 0, 1)] = some 11 := by decide +kernel
theorem bkLoo_longestLength_42 : zBk mLoo_longestLength 42 [(1, 1, 0, 0, 0)] = some 43 := by decide +kernel
theorem bkLoo_longestLength_14 : zBk mLoo_longestLength 14 [(1, 0, 1, 0, 0), (1, 3, 0, 0, 0)] = some 16 := by decide +kernel
theorem bkLoo_longestLength_19 : zBk mLoo_longestLength 19 [] = some 19 := by decide +kernel
theorem bkLoo_longestLength_26 : zBk mLoo_longestLength 26 [(1, 2, 0, 0, 0), (0, 0, 0, 0, 1), (4, 0, 0, 0, 0), (2, 2, 0, 0, 0), (1, 1, 0, 0, 0), (1, 2, 0, 0, 0)] = some 32 := by decide +kernel
theorem bkLoo_longestLength_35 : zBk mLoo_longestLength 35 [(2, 1, 0, 0, 0), (3, 3, 0, 0, 1), (22, 6, 0, 0, 0)] = some 6 := by decide +kernel
theorem bkLoo_longestLength_22 : zBk mLoo_longestLength 22 [(0, 0, 0, 0, 1), (22, 29, 0, 0, 0), (2, 2, 0, 0, 0), (1, 1, 0, 0, 0), (1, 2, 0, 0, 0)] = some 32 := by decide +kernel
theorem bdLoo_longestLength_11 : decode mLoo_longestLength.2.2.1 11 = .ok (.if_icmp .ge 31, 3) := by decide +kernel
theorem bdLoo_longestLength_16 : decode mLoo_longestLength.2.2.1 16 = .ok (.invokevirtual 84, 3) := by decide +kernel
theorem bdLoo_longestLength_19 : decode mLoo_longestLength.2.2.1 19 = .ok (.ifCond .eq 7, 3) := by decide +kernel
theorem bdLoo_longestLength_32 : decode mLoo_longestLength.2.2.1 32 = .ok (.invokestatic 63, 3) := by decide +kernel
theorem bdLoo_longestLength_43 : decode mLoo_longestLength.2.2.1 43 = .ok (.ireturn, 1) := by decide +kernel
theorem lLoo_longestLength_313 {sg : zSig}  (hn0 : 0 ≤ sg 313 1) (hn : sg 313 1 ≤ 200) {Q : Option Value → zHp → Prop} (hq : ∀ rr h', (rr = some (.int (zit (rL (sg 314)) (0, 0) (sg 313 1)).1) ∧ h' = zN sg) → Q rr h') : zG mLoo_longestLength 411 Q 0 [(0, .ref 313)] [] (zN sg) := by
  refine zG_run bkLoo_longestLength_0 (lv' := [(3, .int 0), (2, .int 0), (1, .int 0), (0, .ref 313)]) (st' := []) (h' := zN sg) (Ps := []) rfl trivial ?_
  refine zG_pick (lv' := [(0, .ref 313), (1, .int 0), (2, .int 0), (3, .int 0)]) [3, 2, 1, 0] rfl ?_
  refine zlp3 (fun (lo : Int32) (le : Int32) (i : Int32) => zG mLoo_longestLength 411 Q 6 [(0, .ref 313), (1, .int lo), (2, .int le), (3, .int i)] [] (zN sg)) (fun (lo : Int32) (le : Int32) (i : Int32) => (0 ≤ i) ∧ (i ≤ sg 313 1) ∧ ((lo, le) = zit (rL (sg 314)) (0, 0) i)) (fun (lo : Int32) (le : Int32) (i : Int32) => zmu (sg 313 1) i) ?_ 0 0 0 ?_
  · intro lo le i hI ih
    obtain ⟨h0, h1, h2⟩ := hI
    refine zb_icge (tgt := 42) bkLoo_longestLength_6 bdLoo_longestLength_11 (by decide) (lv' := [(0, .ref 313), (1, .int lo), (2, .int le), (3, .int i)]) (st' := []) (h' := zN sg) (x := i) (y := sg 313 1) (Ps := [zOb (zN sg) 313 3]) rfl (zA zob_313 trivial) (fun c1 => ?_) (fun c1 => ?_)
    · skip
      refine zb_iret bkLoo_longestLength_42 bdLoo_longestLength_43 rfl (x := lo) (h' := zN sg) (Ps := []) rfl trivial rfl ?_
      refine hq _ _ ?_
      have e : i = sg 313 1 := by grind
      rw [← e, ← h2]; exact ⟨rfl, rfl⟩
    · skip
      refine zG_run bkLoo_longestLength_14 (lv' := [(0, .ref 313), (1, .int lo), (2, .int le), (3, .int i)]) (st' := [.int i, .ref 313]) (h' := zN sg) (Ps := []) rfl trivial ?_
      refine zG_callv (a := 313) (c := 3) (As := [.int i]) (rest := []) (N2 := 411) bdLoo_longestLength_16 okLoo_beginsRun lk3_84 (And.intro (by decide) (by decide)) (by decide) rfl rfl rfl (Nat.le_of_ble_eq_true rfl) (Nat.le_of_ble_eq_true rfl) (Nat.le_refl 411) (Nat.le_refl 411) zob_313 (cLoo_beginsRun_313 (by grind) (by grind)) ?_
      rintro rr h' ⟨rfl, rfl⟩ -
      refine zb_ifeq (tgt := 26) bkLoo_longestLength_19 bdLoo_longestLength_19 (by decide) (lv' := [(0, .ref 313), (1, .int lo), (2, .int le), (3, .int i)]) (st' := []) (h' := zN sg) (x := bg (sg 314) i) (Ps := []) rfl trivial (fun c2 => ?_) (fun c2 => ?_)
      · skip
        refine zG_run bkLoo_longestLength_26 (lv' := [(2, .int (le + 1)), (0, .ref 313), (1, .int lo), (3, .int i)]) (st' := [.int (le + 1), .int lo]) (h' := zN sg) (Ps := []) rfl trivial ?_
        refine zG_calls (As := [.int lo, .int (le + 1)]) (rest := []) (N2 := 411) bdLoo_longestLength_32 okMa_max lk3_63 (And.intro (by decide) (by decide)) rfl rfl (Nat.le_of_ble_eq_true rfl) (Nat.le_of_ble_eq_true rfl) (Nat.le_refl 411) (Nat.le_refl 411) cMa_max ?_
        rintro rr h' ⟨rfl, rfl⟩ -
        refine zG_run bkLoo_longestLength_35 (lv' := [(3, .int (i + 1)), (1, .int (fMax lo (le + 1))), (2, .int (le + 1)), (0, .ref 313)]) (st' := []) (h' := zN sg) (Ps := []) rfl trivial ?_
        refine zG_pick (lv' := [(0, .ref 313), (1, .int (fMax lo (le + 1))), (2, .int (le + 1)), (3, .int (i + 1))]) [3, 1, 2, 0] rfl ?_
        refine ih (fMax lo (le + 1)) (le + 1) (i + 1) ?_ ?_
        · refine ⟨?_, ?_, ?_⟩
          · grind
          · grind
          · rw [zit_s _ _ h0 (by grind : i < sg 313 1), ← h2]; simp [rL, *]
        · exact zmu_up (by grind)
      · skip
        refine zG_run bkLoo_longestLength_22 (lv' := [(2, .int 1), (0, .ref 313), (1, .int lo), (3, .int i)]) (st' := [.int 1, .int lo]) (h' := zN sg) (Ps := []) rfl trivial ?_
        refine zG_calls (As := [.int lo, .int 1]) (rest := []) (N2 := 411) bdLoo_longestLength_32 okMa_max lk3_63 (And.intro (by decide) (by decide)) rfl rfl (Nat.le_of_ble_eq_true rfl) (Nat.le_of_ble_eq_true rfl) (Nat.le_refl 411) (Nat.le_refl 411) cMa_max ?_
        rintro rr h' ⟨rfl, rfl⟩ -
        refine zG_run bkLoo_longestLength_35 (lv' := [(3, .int (i + 1)), (1, .int (fMax lo 1)), (2, .int 1), (0, .ref 313)]) (st' := []) (h' := zN sg) (Ps := []) rfl trivial ?_
        refine zG_pick (lv' := [(0, .ref 313), (1, .int (fMax lo 1)), (2, .int 1), (3, .int (i + 1))]) [3, 1, 2, 0] rfl ?_
        refine ih (fMax lo 1) 1 (i + 1) ?_ ?_
        · refine ⟨?_, ?_, ?_⟩
          · grind
          · grind
          · rw [zit_s _ _ h0 (by grind : i < sg 313 1), ← h2]; simp [rL, *]
        · exact zmu_up (by grind)
  · refine ⟨?_, ?_, ?_⟩
    · grind
    · grind
    · rfl
theorem cLoo_longestLength_313 {sg : zSig}  (hn0 : 0 ≤ sg 313 1) (hn : sg 313 1 ≤ 200) : zG mLoo_longestLength 411 (fun rr h' => rr = some (.int (zit (rL (sg 314)) (0, 0) (sg 313 1)).1) ∧ h' = zN sg) 0 [(0, .ref 313)] [] (zN sg) := lLoo_longestLength_313 hn0 hn (fun _ _ q => q)
theorem bkLoo_standsAhead_0 : zBk mLoo_standsAhead 0 [(0, 0, 0, 0, 0), (2, 3, 0, 0, 0)] = some 2 := by decide +kernel
theorem bkLoo_standsAhead_2 : zBk mLoo_standsAhead 2 [(1, 3, 0, 0, 0), (1, 2, 0, 0, 0)] = some 4 := by decide +kernel
theorem bkLoo_standsAhead_25 : zBk mLoo_standsAhead 25 [(0, 0, 0, 0, 0)] = some 26 := by decide +kernel
theorem bkLoo_standsAhead_7 : zBk mLoo_standsAhead 7 [(1, 0, 1, 0, 0), (5, 3, 0, 1, 0), (1, 3, 0, 0, 0), (7, 0, 0, 0, 0), (1, 1, 0, 0, 0)] = some 14 := by decide +kernel
theorem bkLoo_standsAhead_19 : zBk mLoo_standsAhead 19 [(3, 3, 0, 0, 1), (22, 2, 0, 0, 0)] = some 2 := by decide +kernel
theorem bkLoo_standsAhead_17 : zBk mLoo_standsAhead 17 [(0, 0, 0, 0, 1)] = some 18 := by decide +kernel
theorem bdLoo_standsAhead_4 : decode mLoo_standsAhead.2.2.1 4 = .ok (.if_icmp .ge 21, 3) := by decide +kernel
theorem bdLoo_standsAhead_14 : decode mLoo_standsAhead.2.2.1 14 = .ok (.if_icmp .ne 5, 3) := by decide +kernel
theorem bdLoo_standsAhead_18 : decode mLoo_standsAhead.2.2.1 18 = .ok (.ireturn, 1) := by decide +kernel
theorem bdLoo_standsAhead_26 : decode mLoo_standsAhead.2.2.1 26 = .ok (.ireturn, 1) := by decide +kernel
theorem lLoo_standsAhead_313 {sg : zSig} {y q : Int32} (hq0 : 0 ≤ q) (hq1 : q ≤ 200) {Q : Option Value → zHp → Prop} (hq : ∀ rr h', (∃ v, rr = some (.int v) ∧ h' = zN sg ∧ ((v = 1 ∧ ∃ j, 0 ≤ j ∧ j < q ∧ sg 314 j = y) ∨ (v = 0 ∧ ∀ j, 0 ≤ j → j < q → sg 314 j ≠ y))) → Q rr h') : zG mLoo_standsAhead 411 Q 0 [(0, .ref 313), (1, .int y), (2, .int q)] [] (zN sg) := by
  refine zG_run bkLoo_standsAhead_0 (lv' := [(3, .int 0), (0, .ref 313), (1, .int y), (2, .int q)]) (st' := []) (h' := zN sg) (Ps := []) rfl trivial ?_
  refine zG_pick (lv' := [(0, .ref 313), (1, .int y), (2, .int q), (3, .int 0)]) [1, 2, 3, 0] rfl ?_
  refine zlp1 (fun (i : Int32) => zG mLoo_standsAhead 411 Q 2 [(0, .ref 313), (1, .int y), (2, .int q), (3, .int i)] [] (zN sg)) (fun (i : Int32) => (0 ≤ i) ∧ (i ≤ q) ∧ (∀ j, 0 ≤ j → j < i → sg 314 j ≠ y)) (fun (i : Int32) => zmu q i) ?_ 0 ?_
  · intro i hI ih
    obtain ⟨h0, h1, h2⟩ := hI
    refine zb_icge (tgt := 25) bkLoo_standsAhead_2 bdLoo_standsAhead_4 (by decide) (lv' := [(0, .ref 313), (1, .int y), (2, .int q), (3, .int i)]) (st' := []) (h' := zN sg) (x := i) (y := q) (Ps := []) rfl trivial (fun c1 => ?_) (fun c1 => ?_)
    · skip
      refine zb_zret bkLoo_standsAhead_25 bdLoo_standsAhead_26 rfl (x := 0) (h' := zN sg) (Ps := []) rfl trivial rfl (Or.inl rfl) ?_
      refine hq _ _ ?_
      exact ⟨_, rfl, rfl, Or.inr ⟨rfl, fun j h5 h6 => h2 j h5 (by grind)⟩⟩
    · skip
      refine zb_icne (tgt := 19) bkLoo_standsAhead_7 bdLoo_standsAhead_14 (by decide) (lv' := [(0, .ref 313), (1, .int y), (2, .int q), (3, .int i)]) (st' := []) (h' := zN sg) (x := sg 314 i) (y := y) (Ps := [zOb (zN sg) 313 3 ∧ (zN sg).2.2 313 0 = true, zInL (zN sg) 314 i]) rfl (zA ⟨zob_313, rfl⟩ (zA (zinL_314 (i := i) (by grind) (by grind)) trivial)) (fun c2 => ?_) (fun c2 => ?_)
      · skip
        refine zG_run bkLoo_standsAhead_19 (lv' := [(3, .int (i + 1)), (0, .ref 313), (1, .int y), (2, .int q)]) (st' := []) (h' := zN sg) (Ps := []) rfl trivial ?_
        refine zG_pick (lv' := [(0, .ref 313), (1, .int y), (2, .int q), (3, .int (i + 1))]) [1, 2, 3, 0] rfl ?_
        refine ih (i + 1) ?_ ?_
        · refine ⟨?_, ?_, ?_⟩
          · grind
          · grind
          · intro j hj0 hj1; by_cases hj : j = i; · subst hj; grind
            exact h2 j hj0 (by grind)
        · exact zmu_up (by grind)
      · skip
        refine zb_zret bkLoo_standsAhead_17 bdLoo_standsAhead_18 rfl (x := 1) (h' := zN sg) (Ps := []) rfl trivial rfl (Or.inr rfl) ?_
        refine hq _ _ ?_
        exact ⟨_, rfl, rfl, Or.inl ⟨rfl, i, h0, by grind, by grind⟩⟩
  · refine ⟨?_, ?_, ?_⟩
    · grind
    · grind
    · grind
theorem cLoo_standsAhead_313 {sg : zSig} {y q : Int32} (hq0 : 0 ≤ q) (hq1 : q ≤ 200) : zG mLoo_standsAhead 411 (fun rr h' => ∃ v, rr = some (.int v) ∧ h' = zN sg ∧ ((v = 1 ∧ ∃ j, 0 ≤ j ∧ j < q ∧ sg 314 j = y) ∨ (v = 0 ∧ ∀ j, 0 ≤ j → j < q → sg 314 j ≠ y))) 0 [(0, .ref 313), (1, .int y), (2, .int q)] [] (zN sg) := lLoo_standsAhead_313 hq0 hq1 (fun _ _ q => q)
theorem cLoo_beginsRun_315 {sg : zSig} {i : Int32} (h0 : 0 ≤ i) (h1 : i < 200) : zG mLoo_beginsRun 411 (fun rr h' => rr = some (.int (bg (sg 316) i)) ∧ h' = zN sg) 0 [(0, .ref 315), (1, .int i)] [] (zN sg) := by
  refine zb_ifeq (tgt := 21) bkLoo_beginsRun_0 bdLoo_beginsRun_1 (by decide) (lv' := [(0, .ref 315), (1, .int i)]) (st' := []) (h' := zN sg) (x := i) (Ps := []) rfl trivial (fun c1 => ?_) (fun c1 => ?_)
  · skip
    refine zb_zret bkLoo_beginsRun_21 bdLoo_beginsRun_26 rfl (x := 1) (h' := zN sg) (Ps := []) rfl trivial rfl (Or.inr rfl) ?_
    exact ⟨by grind [bg], rfl⟩
  · skip
    refine zb_iceq (tgt := 25) bkLoo_beginsRun_4 bdLoo_beginsRun_18 (by decide) (lv' := [(0, .ref 315), (1, .int i)]) (st' := []) (h' := zN sg) (x := sg 316 i) (y := sg 316 (i - 1)) (Ps := [zOb (zN sg) 315 3 ∧ (zN sg).2.2 315 0 = true, zInL (zN sg) 316 i, zOb (zN sg) 315 3 ∧ (zN sg).2.2 315 0 = true, zInL (zN sg) 316 (i - 1)]) rfl (zA ⟨zob_315, rfl⟩ (zA (zinL_316 (i := i) (by grind) (by grind)) (zA ⟨zob_315, rfl⟩ (zA (zinL_316 (i := i - 1) (by grind) (by grind)) trivial)))) (fun c2 => ?_) (fun c2 => ?_)
    · skip
      refine zb_zret bkLoo_beginsRun_25 bdLoo_beginsRun_26 rfl (x := 0) (h' := zN sg) (Ps := []) rfl trivial rfl (Or.inl rfl) ?_
      exact ⟨by grind [bg], rfl⟩
    · skip
      refine zb_zret bkLoo_beginsRun_21 bdLoo_beginsRun_26 rfl (x := 1) (h' := zN sg) (Ps := []) rfl trivial rfl (Or.inr rfl) ?_
      exact ⟨by grind [bg], rfl⟩
theorem lLoo_howManyRuns_315 {sg : zSig}  (hn0 : 0 ≤ sg 315 1) (hn : sg 315 1 ≤ 200) {Q : Option Value → zHp → Prop} (hq : ∀ rr h', (rr = some (.int (zit (rN (sg 316)) 0 (sg 315 1))) ∧ h' = zN sg) → Q rr h') : zG mLoo_howManyRuns 411 Q 0 [(0, .ref 315)] [] (zN sg) := by
  refine zG_run bkLoo_howManyRuns_0 (lv' := [(2, .int 0), (1, .int 0), (0, .ref 315)]) (st' := []) (h' := zN sg) (Ps := []) rfl trivial ?_
  refine zG_pick (lv' := [(0, .ref 315), (1, .int 0), (2, .int 0)]) [2, 1, 0] rfl ?_
  refine zlp2 (fun (n : Int32) (i : Int32) => zG mLoo_howManyRuns 411 Q 4 [(0, .ref 315), (1, .int n), (2, .int i)] [] (zN sg)) (fun (n : Int32) (i : Int32) => (0 ≤ i) ∧ (i ≤ sg 315 1) ∧ (n = zit (rN (sg 316)) 0 i)) (fun (n : Int32) (i : Int32) => zmu (sg 315 1) i) ?_ 0 0 ?_
  · intro n i hI ih
    obtain ⟨h0, h1, h2⟩ := hI
    refine zb_icge (tgt := 29) bkLoo_howManyRuns_4 bdLoo_howManyRuns_9 (by decide) (lv' := [(0, .ref 315), (1, .int n), (2, .int i)]) (st' := []) (h' := zN sg) (x := i) (y := sg 315 1) (Ps := [zOb (zN sg) 315 3]) rfl (zA zob_315 trivial) (fun c1 => ?_) (fun c1 => ?_)
    · skip
      refine zb_iret bkLoo_howManyRuns_29 bdLoo_howManyRuns_30 rfl (x := n) (h' := zN sg) (Ps := []) rfl trivial rfl ?_
      refine hq _ _ ?_
      exact ⟨by grind, rfl⟩
    · skip
      refine zG_run bkLoo_howManyRuns_12 (lv' := [(0, .ref 315), (1, .int n), (2, .int i)]) (st' := [.int i, .ref 315]) (h' := zN sg) (Ps := []) rfl trivial ?_
      refine zG_callv (a := 315) (c := 3) (As := [.int i]) (rest := []) (N2 := 411) bdLoo_howManyRuns_14 okLoo_beginsRun lk3_84 (And.intro (by decide) (by decide)) (by decide) rfl rfl rfl (Nat.le_of_ble_eq_true rfl) (Nat.le_of_ble_eq_true rfl) (Nat.le_refl 411) (Nat.le_refl 411) zob_315 (cLoo_beginsRun_315 (by grind) (by grind)) ?_
      rintro rr h' ⟨rfl, rfl⟩ -
      refine zb_ifeq (tgt := 23) bkLoo_howManyRuns_17 bdLoo_howManyRuns_17 (by decide) (lv' := [(0, .ref 315), (1, .int n), (2, .int i)]) (st' := []) (h' := zN sg) (x := bg (sg 316) i) (Ps := []) rfl trivial (fun c2 => ?_) (fun c2 => ?_)
      · skip
        refine zG_run bkLoo_howManyRuns_23 (lv' := [(2, .int (i + 1)), (0, .ref 315), (1, .int n)]) (st' := []) (h' := zN sg) (Ps := []) rfl trivial ?_
        refine zG_pick (lv' := [(0, .ref 315), (1, .int n), (2, .int (i + 1))]) [1, 2, 0] rfl ?_
        refine ih n (i + 1) ?_ ?_
        · refine ⟨?_, ?_, ?_⟩
          · grind
          · grind
          · rw [zit_s _ _ h0 (by grind : i < sg 315 1)]; grind [rN]
        · exact zmu_up (by grind)
      · skip
        refine zG_run bkLoo_howManyRuns_20 (lv' := [(2, .int (i + 1)), (1, .int (n + 1)), (0, .ref 315)]) (st' := []) (h' := zN sg) (Ps := []) rfl trivial ?_
        refine zG_pick (lv' := [(0, .ref 315), (1, .int (n + 1)), (2, .int (i + 1))]) [2, 1, 0] rfl ?_
        refine ih (n + 1) (i + 1) ?_ ?_
        · refine ⟨?_, ?_, ?_⟩
          · grind
          · grind
          · rw [zit_s _ _ h0 (by grind : i < sg 315 1)]; grind [rN]
        · exact zmu_up (by grind)
  · refine ⟨?_, ?_, ?_⟩
    · grind
    · grind
    · rfl
theorem cLoo_howManyRuns_315 {sg : zSig}  (hn0 : 0 ≤ sg 315 1) (hn : sg 315 1 ≤ 200) : zG mLoo_howManyRuns 411 (fun rr h' => rr = some (.int (zit (rN (sg 316)) 0 (sg 315 1))) ∧ h' = zN sg) 0 [(0, .ref 315)] [] (zN sg) := lLoo_howManyRuns_315 hn0 hn (fun _ _ q => q)
theorem lLoo_firstOfRun_315 {sg : zSig} {q : Int32} (hn0 : 0 ≤ sg 315 1) (hn : sg 315 1 ≤ 200) {Q : Option Value → zHp → Prop} (hq : ∀ rr h', (∃ v, rr = some (.int v) ∧ h' = zN sg ∧ ((0 ≤ v ∧ v < sg 315 1 ∧ bg (sg 316) v ≠ 0 ∧ zit (rN (sg 316)) 0 v = q) ∨ (v = -1 ∧ ∀ j, 0 ≤ j → j < sg 315 1 → bg (sg 316) j = 0 ∨ zit (rN (sg 316)) 0 j ≠ q))) → Q rr h') : zG mLoo_firstOfRun 411 Q 0 [(0, .ref 315), (1, .int q)] [] (zN sg) := by
  refine zG_run bkLoo_firstOfRun_0 (lv' := [(3, .int 0), (2, .int 0), (0, .ref 315), (1, .int q)]) (st' := []) (h' := zN sg) (Ps := []) rfl trivial ?_
  refine zG_pick (lv' := [(0, .ref 315), (1, .int q), (2, .int 0), (3, .int 0)]) [2, 3, 1, 0] rfl ?_
  refine zlp2 (fun (n : Int32) (i : Int32) => zG mLoo_firstOfRun 411 Q 4 [(0, .ref 315), (1, .int q), (2, .int n), (3, .int i)] [] (zN sg)) (fun (n : Int32) (i : Int32) => (0 ≤ i) ∧ (i ≤ sg 315 1) ∧ (n = zit (rN (sg 316)) 0 i) ∧ (∀ j, 0 ≤ j → j < i → bg (sg 316) j = 0 ∨ zit (rN (sg 316)) 0 j ≠ q)) (fun (n : Int32) (i : Int32) => zmu (sg 315 1) i) ?_ 0 0 ?_
  · intro n i hI ih
    obtain ⟨h0, h1, h2, h3⟩ := hI
    refine zb_icge (tgt := 36) bkLoo_firstOfRun_4 bdLoo_firstOfRun_9 (by decide) (lv' := [(0, .ref 315), (1, .int q), (2, .int n), (3, .int i)]) (st' := []) (h' := zN sg) (x := i) (y := sg 315 1) (Ps := [zOb (zN sg) 315 3]) rfl (zA zob_315 trivial) (fun c1 => ?_) (fun c1 => ?_)
    · skip
      refine zb_iret bkLoo_firstOfRun_36 bdLoo_firstOfRun_37 rfl (x := (-1)) (h' := zN sg) (Ps := []) rfl trivial rfl ?_
      refine hq _ _ ?_
      exact ⟨_, rfl, rfl, Or.inr ⟨rfl, fun j h5 h6 => h3 j h5 (by grind)⟩⟩
    · skip
      refine zG_run bkLoo_firstOfRun_12 (lv' := [(0, .ref 315), (1, .int q), (2, .int n), (3, .int i)]) (st' := [.int i, .ref 315]) (h' := zN sg) (Ps := []) rfl trivial ?_
      refine zG_callv (a := 315) (c := 3) (As := [.int i]) (rest := []) (N2 := 411) bdLoo_firstOfRun_14 okLoo_beginsRun lk3_84 (And.intro (by decide) (by decide)) (by decide) rfl rfl rfl (Nat.le_of_ble_eq_true rfl) (Nat.le_of_ble_eq_true rfl) (Nat.le_refl 411) (Nat.le_refl 411) zob_315 (cLoo_beginsRun_315 (by grind) (by grind)) ?_
      rintro rr h' ⟨rfl, rfl⟩ -
      refine zb_ifeq (tgt := 30) bkLoo_firstOfRun_17 bdLoo_firstOfRun_17 (by decide) (lv' := [(0, .ref 315), (1, .int q), (2, .int n), (3, .int i)]) (st' := []) (h' := zN sg) (x := bg (sg 316) i) (Ps := []) rfl trivial (fun c2 => ?_) (fun c2 => ?_)
      · skip
        refine zG_run bkLoo_firstOfRun_30 (lv' := [(3, .int (i + 1)), (0, .ref 315), (1, .int q), (2, .int n)]) (st' := []) (h' := zN sg) (Ps := []) rfl trivial ?_
        refine zG_pick (lv' := [(0, .ref 315), (1, .int q), (2, .int n), (3, .int (i + 1))]) [1, 2, 3, 0] rfl ?_
        refine ih n (i + 1) ?_ ?_
        · refine ⟨?_, ?_, ?_, ?_⟩
          · grind
          · grind
          · rw [zit_s _ _ h0 (by grind : i < sg 315 1)]; grind [rN]
          · intro j hj0 hj1; by_cases hj : j = i; · subst hj; grind
            exact h3 j hj0 (by grind)
        · exact zmu_up (by grind)
      · skip
        refine zb_icne (tgt := 27) bkLoo_firstOfRun_20 bdLoo_firstOfRun_22 (by decide) (lv' := [(0, .ref 315), (1, .int q), (2, .int n), (3, .int i)]) (st' := []) (h' := zN sg) (x := n) (y := q) (Ps := []) rfl trivial (fun c3 => ?_) (fun c3 => ?_)
        · skip
          refine zG_run bkLoo_firstOfRun_27 (lv' := [(3, .int (i + 1)), (2, .int (n + 1)), (0, .ref 315), (1, .int q)]) (st' := []) (h' := zN sg) (Ps := []) rfl trivial ?_
          refine zG_pick (lv' := [(0, .ref 315), (1, .int q), (2, .int (n + 1)), (3, .int (i + 1))]) [2, 3, 1, 0] rfl ?_
          refine ih (n + 1) (i + 1) ?_ ?_
          · refine ⟨?_, ?_, ?_, ?_⟩
            · grind
            · grind
            · rw [zit_s _ _ h0 (by grind : i < sg 315 1)]; grind [rN]
            · intro j hj0 hj1; by_cases hj : j = i; · subst hj; grind
              exact h3 j hj0 (by grind)
          · exact zmu_up (by grind)
        · skip
          refine zb_iret bkLoo_firstOfRun_25 bdLoo_firstOfRun_26 rfl (x := i) (h' := zN sg) (Ps := []) rfl trivial rfl ?_
          refine hq _ _ ?_
          exact ⟨_, rfl, rfl, Or.inl ⟨h0, by grind, by grind, by grind⟩⟩
  · refine ⟨?_, ?_, ?_, ?_⟩
    · grind
    · grind
    · rfl
    · grind
theorem cLoo_firstOfRun_315 {sg : zSig} {q : Int32} (hn0 : 0 ≤ sg 315 1) (hn : sg 315 1 ≤ 200) : zG mLoo_firstOfRun 411 (fun rr h' => ∃ v, rr = some (.int v) ∧ h' = zN sg ∧ ((0 ≤ v ∧ v < sg 315 1 ∧ bg (sg 316) v ≠ 0 ∧ zit (rN (sg 316)) 0 v = q) ∨ (v = -1 ∧ ∀ j, 0 ≤ j → j < sg 315 1 → bg (sg 316) j = 0 ∨ zit (rN (sg 316)) 0 j ≠ q))) 0 [(0, .ref 315), (1, .int q)] [] (zN sg) := lLoo_firstOfRun_315 hn0 hn (fun _ _ q => q)
theorem lLoo_endOfRun_315 {sg : zSig} {f : Int32} (hn0 : 0 ≤ sg 315 1) (hn : sg 315 1 ≤ 200) (hf0 : 0 ≤ f) (hf : f < sg 315 1) {Q : Option Value → zHp → Prop} (hq : ∀ rr h', (∃ v, rr = some (.int v) ∧ h' = zN sg ∧ f < v ∧ v ≤ sg 315 1 ∧ (∀ j, f < j → j < v → bg (sg 316) j = 0) ∧ (v = sg 315 1 ∨ bg (sg 316) v ≠ 0)) → Q rr h') : zG mLoo_endOfRun 411 Q 0 [(0, .ref 315), (1, .int f)] [] (zN sg) := by
  refine zG_run bkLoo_endOfRun_0 (lv' := [(2, .int (f + 1)), (0, .ref 315), (1, .int f)]) (st' := []) (h' := zN sg) (Ps := []) rfl trivial ?_
  refine zG_pick (lv' := [(0, .ref 315), (1, .int f), (2, .int (f + 1))]) [1, 2, 0] rfl ?_
  refine zlp1 (fun (i : Int32) => zG mLoo_endOfRun 411 Q 4 [(0, .ref 315), (1, .int f), (2, .int i)] [] (zN sg)) (fun (i : Int32) => (f < i) ∧ (i ≤ sg 315 1) ∧ (∀ j, f < j → j < i → bg (sg 316) j = 0)) (fun (i : Int32) => zmu (sg 315 1) i) ?_ (f + 1) ?_
  · intro i hI ih
    obtain ⟨h0, h1, h2⟩ := hI
    refine zb_icge (tgt := 26) bkLoo_endOfRun_4 bdLoo_endOfRun_9 (by decide) (lv' := [(0, .ref 315), (1, .int f), (2, .int i)]) (st' := []) (h' := zN sg) (x := i) (y := sg 315 1) (Ps := [zOb (zN sg) 315 3]) rfl (zA zob_315 trivial) (fun c1 => ?_) (fun c1 => ?_)
    · skip
      refine zb_iret bkLoo_endOfRun_26 bdLoo_endOfRun_27 rfl (x := i) (h' := zN sg) (Ps := []) rfl trivial rfl ?_
      refine hq _ _ ?_
      exact ⟨_, rfl, rfl, h0, h1, h2, by grind⟩
    · skip
      refine zG_run bkLoo_endOfRun_12 (lv' := [(0, .ref 315), (1, .int f), (2, .int i)]) (st' := [.int i, .ref 315]) (h' := zN sg) (Ps := []) rfl trivial ?_
      refine zG_callv (a := 315) (c := 3) (As := [.int i]) (rest := []) (N2 := 411) bdLoo_endOfRun_14 okLoo_beginsRun lk3_84 (And.intro (by decide) (by decide)) (by decide) rfl rfl rfl (Nat.le_of_ble_eq_true rfl) (Nat.le_of_ble_eq_true rfl) (Nat.le_refl 411) (Nat.le_refl 411) zob_315 (cLoo_beginsRun_315 (by grind) (by grind)) ?_
      rintro rr h' ⟨rfl, rfl⟩ -
      refine zb_ifne (tgt := 26) bkLoo_endOfRun_17 bdLoo_endOfRun_17 (by decide) (lv' := [(0, .ref 315), (1, .int f), (2, .int i)]) (st' := []) (h' := zN sg) (x := bg (sg 316) i) (Ps := []) rfl trivial (fun c2 => ?_) (fun c2 => ?_)
      · skip
        refine zb_iret bkLoo_endOfRun_26 bdLoo_endOfRun_27 rfl (x := i) (h' := zN sg) (Ps := []) rfl trivial rfl ?_
        refine hq _ _ ?_
        exact ⟨_, rfl, rfl, h0, h1, h2, by grind⟩
      · skip
        refine zG_run bkLoo_endOfRun_20 (lv' := [(2, .int (i + 1)), (0, .ref 315), (1, .int f)]) (st' := []) (h' := zN sg) (Ps := []) rfl trivial ?_
        refine zG_pick (lv' := [(0, .ref 315), (1, .int f), (2, .int (i + 1))]) [1, 2, 0] rfl ?_
        refine ih (i + 1) ?_ ?_
        · refine ⟨?_, ?_, ?_⟩
          · grind
          · grind
          · intro j hj0 hj1; by_cases hj : j = i; · subst hj; grind
            exact h2 j hj0 (by grind)
        · exact zmu_up (by grind)
  · refine ⟨?_, ?_, ?_⟩
    · grind
    · grind
    · grind
theorem cLoo_endOfRun_315 {sg : zSig} {f : Int32} (hn0 : 0 ≤ sg 315 1) (hn : sg 315 1 ≤ 200) (hf0 : 0 ≤ f) (hf : f < sg 315 1) : zG mLoo_endOfRun 411 (fun rr h' => ∃ v, rr = some (.int v) ∧ h' = zN sg ∧ f < v ∧ v ≤ sg 315 1 ∧ (∀ j, f < j → j < v → bg (sg 316) j = 0) ∧ (v = sg 315 1 ∨ bg (sg 316) v ≠ 0)) 0 [(0, .ref 315), (1, .int f)] [] (zN sg) := lLoo_endOfRun_315 hn0 hn hf0 hf (fun _ _ q => q)
theorem lLoo_longestLength_315 {sg : zSig}  (hn0 : 0 ≤ sg 315 1) (hn : sg 315 1 ≤ 200) {Q : Option Value → zHp → Prop} (hq : ∀ rr h', (rr = some (.int (zit (rL (sg 316)) (0, 0) (sg 315 1)).1) ∧ h' = zN sg) → Q rr h') : zG mLoo_longestLength 411 Q 0 [(0, .ref 315)] [] (zN sg) := by
  refine zG_run bkLoo_longestLength_0 (lv' := [(3, .int 0), (2, .int 0), (1, .int 0), (0, .ref 315)]) (st' := []) (h' := zN sg) (Ps := []) rfl trivial ?_
  refine zG_pick (lv' := [(0, .ref 315), (1, .int 0), (2, .int 0), (3, .int 0)]) [3, 2, 1, 0] rfl ?_
  refine zlp3 (fun (lo : Int32) (le : Int32) (i : Int32) => zG mLoo_longestLength 411 Q 6 [(0, .ref 315), (1, .int lo), (2, .int le), (3, .int i)] [] (zN sg)) (fun (lo : Int32) (le : Int32) (i : Int32) => (0 ≤ i) ∧ (i ≤ sg 315 1) ∧ ((lo, le) = zit (rL (sg 316)) (0, 0) i)) (fun (lo : Int32) (le : Int32) (i : Int32) => zmu (sg 315 1) i) ?_ 0 0 0 ?_
  · intro lo le i hI ih
    obtain ⟨h0, h1, h2⟩ := hI
    refine zb_icge (tgt := 42) bkLoo_longestLength_6 bdLoo_longestLength_11 (by decide) (lv' := [(0, .ref 315), (1, .int lo), (2, .int le), (3, .int i)]) (st' := []) (h' := zN sg) (x := i) (y := sg 315 1) (Ps := [zOb (zN sg) 315 3]) rfl (zA zob_315 trivial) (fun c1 => ?_) (fun c1 => ?_)
    · skip
      refine zb_iret bkLoo_longestLength_42 bdLoo_longestLength_43 rfl (x := lo) (h' := zN sg) (Ps := []) rfl trivial rfl ?_
      refine hq _ _ ?_
      have e : i = sg 315 1 := by grind
      rw [← e, ← h2]; exact ⟨rfl, rfl⟩
    · skip
      refine zG_run bkLoo_longestLength_14 (lv' := [(0, .ref 315), (1, .int lo), (2, .int le), (3, .int i)]) (st' := [.int i, .ref 315]) (h' := zN sg) (Ps := []) rfl trivial ?_
      refine zG_callv (a := 315) (c := 3) (As := [.int i]) (rest := []) (N2 := 411) bdLoo_longestLength_16 okLoo_beginsRun lk3_84 (And.intro (by decide) (by decide)) (by decide) rfl rfl rfl (Nat.le_of_ble_eq_true rfl) (Nat.le_of_ble_eq_true rfl) (Nat.le_refl 411) (Nat.le_refl 411) zob_315 (cLoo_beginsRun_315 (by grind) (by grind)) ?_
      rintro rr h' ⟨rfl, rfl⟩ -
      refine zb_ifeq (tgt := 26) bkLoo_longestLength_19 bdLoo_longestLength_19 (by decide) (lv' := [(0, .ref 315), (1, .int lo), (2, .int le), (3, .int i)]) (st' := []) (h' := zN sg) (x := bg (sg 316) i) (Ps := []) rfl trivial (fun c2 => ?_) (fun c2 => ?_)
      · skip
        refine zG_run bkLoo_longestLength_26 (lv' := [(2, .int (le + 1)), (0, .ref 315), (1, .int lo), (3, .int i)]) (st' := [.int (le + 1), .int lo]) (h' := zN sg) (Ps := []) rfl trivial ?_
        refine zG_calls (As := [.int lo, .int (le + 1)]) (rest := []) (N2 := 411) bdLoo_longestLength_32 okMa_max lk3_63 (And.intro (by decide) (by decide)) rfl rfl (Nat.le_of_ble_eq_true rfl) (Nat.le_of_ble_eq_true rfl) (Nat.le_refl 411) (Nat.le_refl 411) cMa_max ?_
        rintro rr h' ⟨rfl, rfl⟩ -
        refine zG_run bkLoo_longestLength_35 (lv' := [(3, .int (i + 1)), (1, .int (fMax lo (le + 1))), (2, .int (le + 1)), (0, .ref 315)]) (st' := []) (h' := zN sg) (Ps := []) rfl trivial ?_
        refine zG_pick (lv' := [(0, .ref 315), (1, .int (fMax lo (le + 1))), (2, .int (le + 1)), (3, .int (i + 1))]) [3, 1, 2, 0] rfl ?_
        refine ih (fMax lo (le + 1)) (le + 1) (i + 1) ?_ ?_
        · refine ⟨?_, ?_, ?_⟩
          · grind
          · grind
          · rw [zit_s _ _ h0 (by grind : i < sg 315 1), ← h2]; simp [rL, *]
        · exact zmu_up (by grind)
      · skip
        refine zG_run bkLoo_longestLength_22 (lv' := [(2, .int 1), (0, .ref 315), (1, .int lo), (3, .int i)]) (st' := [.int 1, .int lo]) (h' := zN sg) (Ps := []) rfl trivial ?_
        refine zG_calls (As := [.int lo, .int 1]) (rest := []) (N2 := 411) bdLoo_longestLength_32 okMa_max lk3_63 (And.intro (by decide) (by decide)) rfl rfl (Nat.le_of_ble_eq_true rfl) (Nat.le_of_ble_eq_true rfl) (Nat.le_refl 411) (Nat.le_refl 411) cMa_max ?_
        rintro rr h' ⟨rfl, rfl⟩ -
        refine zG_run bkLoo_longestLength_35 (lv' := [(3, .int (i + 1)), (1, .int (fMax lo 1)), (2, .int 1), (0, .ref 315)]) (st' := []) (h' := zN sg) (Ps := []) rfl trivial ?_
        refine zG_pick (lv' := [(0, .ref 315), (1, .int (fMax lo 1)), (2, .int 1), (3, .int (i + 1))]) [3, 1, 2, 0] rfl ?_
        refine ih (fMax lo 1) 1 (i + 1) ?_ ?_
        · refine ⟨?_, ?_, ?_⟩
          · grind
          · grind
          · rw [zit_s _ _ h0 (by grind : i < sg 315 1), ← h2]; simp [rL, *]
        · exact zmu_up (by grind)
  · refine ⟨?_, ?_, ?_⟩
    · grind
    · grind
    · rfl
theorem cLoo_longestLength_315 {sg : zSig}  (hn0 : 0 ≤ sg 315 1) (hn : sg 315 1 ≤ 200) : zG mLoo_longestLength 411 (fun rr h' => rr = some (.int (zit (rL (sg 316)) (0, 0) (sg 315 1)).1) ∧ h' = zN sg) 0 [(0, .ref 315)] [] (zN sg) := lLoo_longestLength_315 hn0 hn (fun _ _ q => q)
theorem lLoo_standsAhead_315 {sg : zSig} {y q : Int32} (hq0 : 0 ≤ q) (hq1 : q ≤ 200) {Q : Option Value → zHp → Prop} (hq : ∀ rr h', (∃ v, rr = some (.int v) ∧ h' = zN sg ∧ ((v = 1 ∧ ∃ j, 0 ≤ j ∧ j < q ∧ sg 316 j = y) ∨ (v = 0 ∧ ∀ j, 0 ≤ j → j < q → sg 316 j ≠ y))) → Q rr h') : zG mLoo_standsAhead 411 Q 0 [(0, .ref 315), (1, .int y), (2, .int q)] [] (zN sg) := by
  refine zG_run bkLoo_standsAhead_0 (lv' := [(3, .int 0), (0, .ref 315), (1, .int y), (2, .int q)]) (st' := []) (h' := zN sg) (Ps := []) rfl trivial ?_
  refine zG_pick (lv' := [(0, .ref 315), (1, .int y), (2, .int q), (3, .int 0)]) [1, 2, 3, 0] rfl ?_
  refine zlp1 (fun (i : Int32) => zG mLoo_standsAhead 411 Q 2 [(0, .ref 315), (1, .int y), (2, .int q), (3, .int i)] [] (zN sg)) (fun (i : Int32) => (0 ≤ i) ∧ (i ≤ q) ∧ (∀ j, 0 ≤ j → j < i → sg 316 j ≠ y)) (fun (i : Int32) => zmu q i) ?_ 0 ?_
  · intro i hI ih
    obtain ⟨h0, h1, h2⟩ := hI
    refine zb_icge (tgt := 25) bkLoo_standsAhead_2 bdLoo_standsAhead_4 (by decide) (lv' := [(0, .ref 315), (1, .int y), (2, .int q), (3, .int i)]) (st' := []) (h' := zN sg) (x := i) (y := q) (Ps := []) rfl trivial (fun c1 => ?_) (fun c1 => ?_)
    · skip
      refine zb_zret bkLoo_standsAhead_25 bdLoo_standsAhead_26 rfl (x := 0) (h' := zN sg) (Ps := []) rfl trivial rfl (Or.inl rfl) ?_
      refine hq _ _ ?_
      exact ⟨_, rfl, rfl, Or.inr ⟨rfl, fun j h5 h6 => h2 j h5 (by grind)⟩⟩
    · skip
      refine zb_icne (tgt := 19) bkLoo_standsAhead_7 bdLoo_standsAhead_14 (by decide) (lv' := [(0, .ref 315), (1, .int y), (2, .int q), (3, .int i)]) (st' := []) (h' := zN sg) (x := sg 316 i) (y := y) (Ps := [zOb (zN sg) 315 3 ∧ (zN sg).2.2 315 0 = true, zInL (zN sg) 316 i]) rfl (zA ⟨zob_315, rfl⟩ (zA (zinL_316 (i := i) (by grind) (by grind)) trivial)) (fun c2 => ?_) (fun c2 => ?_)
      · skip
        refine zG_run bkLoo_standsAhead_19 (lv' := [(3, .int (i + 1)), (0, .ref 315), (1, .int y), (2, .int q)]) (st' := []) (h' := zN sg) (Ps := []) rfl trivial ?_
        refine zG_pick (lv' := [(0, .ref 315), (1, .int y), (2, .int q), (3, .int (i + 1))]) [1, 2, 3, 0] rfl ?_
        refine ih (i + 1) ?_ ?_
        · refine ⟨?_, ?_, ?_⟩
          · grind
          · grind
          · intro j hj0 hj1; by_cases hj : j = i; · subst hj; grind
            exact h2 j hj0 (by grind)
        · exact zmu_up (by grind)
      · skip
        refine zb_zret bkLoo_standsAhead_17 bdLoo_standsAhead_18 rfl (x := 1) (h' := zN sg) (Ps := []) rfl trivial rfl (Or.inr rfl) ?_
        refine hq _ _ ?_
        exact ⟨_, rfl, rfl, Or.inl ⟨rfl, i, h0, by grind, by grind⟩⟩
  · refine ⟨?_, ?_, ?_⟩
    · grind
    · grind
    · grind
theorem cLoo_standsAhead_315 {sg : zSig} {y q : Int32} (hq0 : 0 ≤ q) (hq1 : q ≤ 200) : zG mLoo_standsAhead 411 (fun rr h' => ∃ v, rr = some (.int v) ∧ h' = zN sg ∧ ((v = 1 ∧ ∃ j, 0 ≤ j ∧ j < q ∧ sg 316 j = y) ∨ (v = 0 ∧ ∀ j, 0 ≤ j → j < q → sg 316 j ≠ y))) 0 [(0, .ref 315), (1, .int y), (2, .int q)] [] (zN sg) := lLoo_standsAhead_315 hq0 hq1 (fun _ _ q => q)
