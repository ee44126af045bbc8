theorem bkSty_of_0 : zBk mSty_of 0 [(0, 0, 0, 0, 100), (1, 0, 0, 0, 0), (4, 2, 0, 0, 0), (0, 0, 0, 0, 10), (1, 1, 0, 0, 0), (4, 2, 0, 0, 0), (4, 0, 0, 0, 0), (1, 2, 0, 0, 0), (4, 0, 0, 0, 0)] = some 11 := by decide +kernel
theorem bdSty_of_11 : decode mSty_of.2.2.1 11 = .ok (.ireturn, 1) := by decide +kernel
theorem cSty_of {sg : zSig} {f c s : Int32}  : zG mSty_of 411 (fun rr h' => rr = some (.int (100 * f + 10 * c + s)) ∧ h' = zN sg) 0 [(0, .int f), (1, .int c), (2, .int s)] [] (zN sg) := by
  refine zb_iret bkSty_of_0 bdSty_of_11 rfl (x := ((100 * f) + (10 * c)) + s) (h' := zN sg) rfl trivial rfl ?_
  exact ⟨rfl, rfl⟩
theorem bkSty_flagsOf_0 : zBk mSty_flagsOf 0 [(1, 0, 0, 0, 0), (0, 0, 0, 0, 100), (4, 9, 0, 0, 0)] = some 4 := by decide +kernel
theorem bdSty_flagsOf_4 : decode mSty_flagsOf.2.2.1 4 = .ok (.ireturn, 1) := by decide +kernel
theorem cSty_flagsOf {sg : zSig} {s : Int32}  : zG mSty_flagsOf 411 (fun rr h' => rr = some (.int (s / 100)) ∧ h' = zN sg) 0 [(0, .int s)] [] (zN sg) := by
  refine zb_iret bkSty_flagsOf_0 bdSty_flagsOf_4 rfl (x := s / 100) (h' := zN sg) rfl (zA (by decide) trivial) rfl ?_
  exact ⟨rfl, rfl⟩
theorem bkSty_colorOf_0 : zBk mSty_colorOf 0 [(1, 0, 0, 0, 0), (0, 0, 0, 0, 10), (4, 9, 0, 0, 0), (0, 0, 0, 0, 10), (4, 10, 0, 0, 0)] = some 7 := by decide +kernel
theorem bdSty_colorOf_7 : decode mSty_colorOf.2.2.1 7 = .ok (.ireturn, 1) := by decide +kernel
theorem cSty_colorOf {sg : zSig} {s : Int32}  : zG mSty_colorOf 411 (fun rr h' => rr = some (.int (s / 10 - s / 10 / 10 * 10)) ∧ h' = zN sg) 0 [(0, .int s)] [] (zN sg) := by
  refine zb_iret bkSty_colorOf_0 bdSty_colorOf_7 rfl (x := (s / 10) - (s / 10) / 10 * 10) (h' := zN sg) rfl (zA (by decide) (zA (by decide) trivial)) rfl ?_
  exact ⟨rfl, rfl⟩
theorem bkSty_sizeOf_0 : zBk mSty_sizeOf 0 [(1, 0, 0, 0, 0), (0, 0, 0, 0, 10), (4, 10, 0, 0, 0)] = some 4 := by decide +kernel
theorem bdSty_sizeOf_4 : decode mSty_sizeOf.2.2.1 4 = .ok (.ireturn, 1) := by decide +kernel
theorem cSty_sizeOf {sg : zSig} {s : Int32}  : zG mSty_sizeOf 411 (fun rr h' => rr = some (.int (s - s / 10 * 10)) ∧ h' = zN sg) 0 [(0, .int s)] [] (zN sg) := by
  refine zb_iret bkSty_sizeOf_0 bdSty_sizeOf_4 rfl (x := s - s / 10 * 10) (h' := zN sg) rfl (zA (by decide) trivial) rfl ?_
  exact ⟨rfl, rfl⟩
theorem bkPla_afterComing_0 : zBk mPla_afterComing 0 [(1, 0, 0, 0, 0), (1, 2, 0, 0, 0)] = some 2 := by decide +kernel
theorem bkPla_afterComing_15 : zBk mPla_afterComing 15 [(1, 0, 0, 0, 0), (1, 3, 0, 0, 0), (4, 0, 0, 0, 0), (22, 22, 0, 0, 0)] = some 22 := by decide +kernel
theorem bkPla_afterComing_5 : zBk mPla_afterComing 5 [(1, 0, 0, 0, 0), (1, 2, 0, 0, 0)] = some 7 := by decide +kernel
theorem bkPla_afterComing_21 : zBk mPla_afterComing 21 [(1, 0, 0, 0, 0)] = some 22 := by decide +kernel
theorem bkPla_afterComing_10 : zBk mPla_afterComing 10 [(1, 1, 0, 0, 0), (0, 0, 0, 0, 1)] = some 12 := by decide +kernel
theorem bdPla_afterComing_2 : decode mPla_afterComing.2.2.1 2 = .ok (.if_icmp .gt 13, 3) := by decide +kernel
theorem bdPla_afterComing_7 : decode mPla_afterComing.2.2.1 7 = .ok (.if_icmp .ne 14, 3) := by decide +kernel
theorem bdPla_afterComing_12 : decode mPla_afterComing.2.2.1 12 = .ok (.if_icmp .ne 9, 3) := by decide +kernel
theorem bdPla_afterComing_22 : decode mPla_afterComing.2.2.1 22 = .ok (.ireturn, 1) := by decide +kernel
theorem cPla_afterComing {sg : zSig} {p l q m : Int32}  : zG mPla_afterComing 411 (fun rr h' => rr = some (.int (if q < p ∨ (p = q ∧ l = 1) then p + m else p)) ∧ h' = zN sg) 0 [(0, .int p), (1, .int l), (2, .int q), (3, .int m)] [] (zN sg) := by
  refine zb_icgt (tgt := 15) bkPla_afterComing_0 bdPla_afterComing_2 (by decide) (lv' := [(0, .int p), (1, .int l), (2, .int q), (3, .int m)]) (st' := []) (h' := zN sg) (x := p) (y := q) rfl trivial (fun c1 => ?_) (fun c1 => ?_)
  · skip
    refine zb_iret bkPla_afterComing_15 bdPla_afterComing_22 rfl (x := p + m) (h' := zN sg) rfl trivial rfl ?_
    exact ⟨by grind, rfl⟩
  · skip
    refine zb_icne (tgt := 21) bkPla_afterComing_5 bdPla_afterComing_7 (by decide) (lv' := [(0, .int p), (1, .int l), (2, .int q), (3, .int m)]) (st' := []) (h' := zN sg) (x := p) (y := q) rfl trivial (fun c2 => ?_) (fun c2 => ?_)
    · skip
      refine zb_iret bkPla_afterComing_21 bdPla_afterComing_22 rfl (x := p) (h' := zN sg) rfl trivial rfl ?_
      exact ⟨by grind, rfl⟩
    · skip
      refine zb_icne (tgt := 21) bkPla_afterComing_10 bdPla_afterComing_12 (by decide) (lv' := [(0, .int p), (1, .int l), (2, .int q), (3, .int m)]) (st' := []) (h' := zN sg) (x := l) (y := 1) rfl trivial (fun c3 => ?_) (fun c3 => ?_)
      · skip
        refine zb_iret bkPla_afterComing_21 bdPla_afterComing_22 rfl (x := p) (h' := zN sg) rfl trivial rfl ?_
        exact ⟨by grind, rfl⟩
      · skip
        refine zb_iret bkPla_afterComing_15 bdPla_afterComing_22 rfl (x := p + m) (h' := zN sg) rfl trivial rfl ?_
        exact ⟨by grind, rfl⟩
theorem bkPla_landing_0 : zBk mPla_landing 0 [(1, 2, 0, 0, 0), (1, 0, 0, 0, 0)] = some 2 := by decide +kernel
theorem bkPla_landing_13 : zBk mPla_landing 13 [(1, 2, 0, 0, 0)] = some 14 := by decide +kernel
theorem bkPla_landing_5 : zBk mPla_landing 5 [(1, 2, 0, 0, 0), (1, 1, 0, 0, 0), (1, 0, 0, 0, 0), (4, 1, 0, 0, 0), (4, 1, 0, 0, 0), (22, 14, 0, 0, 0)] = some 14 := by decide +kernel
theorem bdPla_landing_2 : decode mPla_landing.2.2.1 2 = .ok (.if_icmp .le 11, 3) := by decide +kernel
theorem bdPla_landing_14 : decode mPla_landing.2.2.1 14 = .ok (.ireturn, 1) := by decide +kernel
theorem cPla_landing {sg : zSig} {p q r : Int32}  : zG mPla_landing 411 (fun rr h' => rr = some (.int (if p < r then r - (q - p) else r)) ∧ h' = zN sg) 0 [(0, .int p), (1, .int q), (2, .int r)] [] (zN sg) := by
  refine zb_icle (tgt := 13) bkPla_landing_0 bdPla_landing_2 (by decide) (lv' := [(0, .int p), (1, .int q), (2, .int r)]) (st' := []) (h' := zN sg) (x := r) (y := p) rfl trivial (fun c1 => ?_) (fun c1 => ?_)
  · skip
    refine zb_iret bkPla_landing_13 bdPla_landing_14 rfl (x := r) (h' := zN sg) rfl trivial rfl ?_
    exact ⟨by grind, rfl⟩
  · skip
    refine zb_iret bkPla_landing_5 bdPla_landing_14 rfl (x := r - (q - p)) (h' := zN sg) rfl trivial rfl ?_
    exact ⟨by grind, rfl⟩
theorem bkMa_max_0 : zBk mMa_max 0 [(1, 0, 0, 0, 0), (1, 1, 0, 0, 0)] = some 2 := by decide +kernel
theorem bkMa_max_9 : zBk mMa_max 9 [(1, 1, 0, 0, 0)] = some 10 := by decide +kernel
theorem bkMa_max_5 : zBk mMa_max 5 [(1, 0, 0, 0, 0), (22, 10, 0, 0, 0)] = some 10 := by decide +kernel
theorem bdMa_max_2 : decode mMa_max.2.2.1 2 = .ok (.if_icmp .lt 7, 3) := by decide +kernel
theorem bdMa_max_10 : decode mMa_max.2.2.1 10 = .ok (.ireturn, 1) := by decide +kernel
theorem cMa_max {sg : zSig} {x y : Int32}  : zG mMa_max 411 (fun rr h' => rr = some (.int (if x < y then y else x)) ∧ h' = zN sg) 0 [(0, .int x), (1, .int y)] [] (zN sg) := by
  refine zb_iclt (tgt := 9) bkMa_max_0 bdMa_max_2 (by decide) (lv' := [(0, .int x), (1, .int y)]) (st' := []) (h' := zN sg) (x := x) (y := y) rfl trivial (fun c1 => ?_) (fun c1 => ?_)
  · skip
    refine zb_iret bkMa_max_9 bdMa_max_10 rfl (x := y) (h' := zN sg) rfl trivial rfl ?_
    exact ⟨by grind, rfl⟩
  · skip
    refine zb_iret bkMa_max_5 bdMa_max_10 rfl (x := x) (h' := zN sg) rfl trivial rfl ?_
    exact ⟨by grind, rfl⟩
theorem bkMa_min_0 : zBk mMa_min 0 [(1, 0, 0, 0, 0), (1, 1, 0, 0, 0)] = some 2 := by decide +kernel
theorem bkMa_min_9 : zBk mMa_min 9 [(1, 1, 0, 0, 0)] = some 10 := by decide +kernel
theorem bkMa_min_5 : zBk mMa_min 5 [(1, 0, 0, 0, 0), (22, 10, 0, 0, 0)] = some 10 := by decide +kernel
theorem bdMa_min_2 : decode mMa_min.2.2.1 2 = .ok (.if_icmp .gt 7, 3) := by decide +kernel
theorem bdMa_min_10 : decode mMa_min.2.2.1 10 = .ok (.ireturn, 1) := by decide +kernel
theorem cMa_min {sg : zSig} {x y : Int32}  : zG mMa_min 411 (fun rr h' => rr = some (.int (if x ≤ y then x else y)) ∧ h' = zN sg) 0 [(0, .int x), (1, .int y)] [] (zN sg) := by
  refine zb_icgt (tgt := 9) bkMa_min_0 bdMa_min_2 (by decide) (lv' := [(0, .int x), (1, .int y)]) (st' := []) (h' := zN sg) (x := x) (y := y) rfl trivial (fun c1 => ?_) (fun c1 => ?_)
  · skip
    refine zb_iret bkMa_min_9 bdMa_min_10 rfl (x := y) (h' := zN sg) rfl trivial rfl ?_
    exact ⟨by grind, rfl⟩
  · skip
    refine zb_iret bkMa_min_5 bdMa_min_10 rfl (x := x) (h' := zN sg) rfl trivial rfl ?_
    exact ⟨by grind, rfl⟩
theorem bkPla_afterGoing_0 : zBk mPla_afterGoing 0 [(1, 0, 0, 0, 0), (1, 2, 0, 0, 0)] = some 2 := by decide +kernel
theorem bkPla_afterGoing_11 : zBk mPla_afterGoing 11 [(1, 0, 0, 0, 0), (1, 1, 0, 0, 0)] = some 13 := by decide +kernel
theorem bkPla_afterGoing_16 : zBk mPla_afterGoing 16 [] = some 16 := by decide +kernel
theorem bkPla_afterGoing_5 : zBk mPla_afterGoing 5 [(1, 0, 0, 0, 0), (1, 2, 0, 0, 0), (1, 1, 0, 0, 0), (4, 1, 0, 0, 0), (4, 1, 0, 0, 0)] = some 10 := by decide +kernel
theorem bdPla_afterGoing_2 : decode mPla_afterGoing.2.2.1 2 = .ok (.if_icmp .lt 9, 3) := by decide +kernel
theorem bdPla_afterGoing_10 : decode mPla_afterGoing.2.2.1 10 = .ok (.ireturn, 1) := by decide +kernel
theorem bdPla_afterGoing_13 : decode mPla_afterGoing.2.2.1 13 = .ok (.invokestatic 7, 3) := by decide +kernel
theorem bdPla_afterGoing_16 : decode mPla_afterGoing.2.2.1 16 = .ok (.ireturn, 1) := by decide +kernel
theorem cPla_afterGoing {sg : zSig} {x p q : Int32}  : zG mPla_afterGoing 411 (fun rr h' => rr = some (.int (if q ≤ x then x - (q - p) else if x ≤ p then x else p)) ∧ h' = zN sg) 0 [(0, .int x), (1, .int p), (2, .int q)] [] (zN sg) := by
  refine zb_iclt (tgt := 11) bkPla_afterGoing_0 bdPla_afterGoing_2 (by decide) (lv' := [(0, .int x), (1, .int p), (2, .int q)]) (st' := []) (h' := zN sg) (x := x) (y := q) rfl trivial (fun c1 => ?_) (fun c1 => ?_)
  · skip
    refine zG_run bkPla_afterGoing_11 (lv' := [(0, .int x), (1, .int p), (2, .int q)]) (st' := [.int p, .int x]) (h' := zN sg) rfl trivial ?_
    refine zG_calls (As := [.int x, .int p]) (rest := []) (N2 := 411) bdPla_afterGoing_13 okMa_min lk11_7 (And.intro (by decide) (by decide)) rfl rfl (Nat.le_of_ble_eq_true rfl) (Nat.le_of_ble_eq_true rfl) (Nat.le_refl 411) (Nat.le_refl 411) cMa_min ?_
    rintro rr h' ⟨rfl, rfl⟩ -
    refine zb_iret bkPla_afterGoing_16 bdPla_afterGoing_16 rfl (x := if x ≤ p then x else p) (h' := zN sg) rfl trivial rfl ?_
    exact ⟨by grind, rfl⟩
  · skip
    refine zb_iret bkPla_afterGoing_5 bdPla_afterGoing_10 rfl (x := x - (q - p)) (h' := zN sg) rfl trivial rfl ?_
    exact ⟨by grind, rfl⟩
theorem bkShe_hasLetter_0 : zBk mShe_hasLetter 0 [(1, 1, 0, 0, 0)] = some 1 := by decide +kernel
theorem bkShe_hasLetter_16 : zBk mShe_hasLetter 16 [(0, 0, 0, 0, 0)] = some 17 := by decide +kernel
theorem bkShe_hasLetter_4 : zBk mShe_hasLetter 4 [(1, 1, 0, 0, 0), (1, 0, 1, 0, 0), (5, 5, 2, 0, 2)] = some 9 := by decide +kernel
theorem bkShe_hasLetter_12 : zBk mShe_hasLetter 12 [(0, 0, 0, 0, 1), (22, 17, 0, 0, 0)] = some 17 := by decide +kernel
theorem bdShe_hasLetter_1 : decode mShe_hasLetter.2.2.1 1 = .ok (.ifCond .lt 15, 3) := by decide +kernel
theorem bdShe_hasLetter_9 : decode mShe_hasLetter.2.2.1 9 = .ok (.if_icmp .ge 7, 3) := by decide +kernel
theorem bdShe_hasLetter_17 : decode mShe_hasLetter.2.2.1 17 = .ok (.ireturn, 1) := by decide +kernel
theorem cShe_hasLetter {sg : zSig} {i : Int32}  : zG mShe_hasLetter 411 (fun rr h' => rr = some (.int (if 0 ≤ i ∧ i < sg 1 2 then 1 else 0)) ∧ h' = zN sg) 0 [(0, .ref 1), (1, .int i)] [] (zN sg) := by
  refine zb_iflt (tgt := 16) bkShe_hasLetter_0 bdShe_hasLetter_1 (by decide) (lv' := [(0, .ref 1), (1, .int i)]) (st' := []) (h' := zN sg) (x := i) rfl trivial (fun c1 => ?_) (fun c1 => ?_)
  · skip
    refine zb_zret bkShe_hasLetter_16 bdShe_hasLetter_17 rfl (x := 0) (h' := zN sg) rfl trivial rfl (Or.inl rfl) ?_
    exact ⟨by grind, rfl⟩
  · skip
    refine zb_icge (tgt := 16) bkShe_hasLetter_4 bdShe_hasLetter_9 (by decide) (lv' := [(0, .ref 1), (1, .int i)]) (st' := []) (h' := zN sg) (x := i) (y := sg 1 2) rfl (zA zob_1 trivial) (fun c2 => ?_) (fun c2 => ?_)
    · skip
      refine zb_zret bkShe_hasLetter_16 bdShe_hasLetter_17 rfl (x := 0) (h' := zN sg) rfl trivial rfl (Or.inl rfl) ?_
      exact ⟨by grind, rfl⟩
    · skip
      refine zb_zret bkShe_hasLetter_12 bdShe_hasLetter_17 rfl (x := 1) (h' := zN sg) rfl trivial rfl (Or.inr rfl) ?_
      exact ⟨by grind, rfl⟩
theorem bkShe_hasPlace_0 : zBk mShe_hasPlace 0 [(1, 1, 0, 0, 0)] = some 1 := by decide +kernel
theorem bkShe_hasPlace_16 : zBk mShe_hasPlace 16 [(0, 0, 0, 0, 0)] = some 17 := by decide +kernel
theorem bkShe_hasPlace_4 : zBk mShe_hasPlace 4 [(1, 1, 0, 0, 0), (1, 0, 1, 0, 0), (5, 5, 2, 0, 2)] = some 9 := by decide +kernel
theorem bkShe_hasPlace_12 : zBk mShe_hasPlace 12 [(0, 0, 0, 0, 1), (22, 17, 0, 0, 0)] = some 17 := by decide +kernel
theorem bdShe_hasPlace_1 : decode mShe_hasPlace.2.2.1 1 = .ok (.ifCond .lt 15, 3) := by decide +kernel
theorem bdShe_hasPlace_9 : decode mShe_hasPlace.2.2.1 9 = .ok (.if_icmp .gt 7, 3) := by decide +kernel
theorem bdShe_hasPlace_17 : decode mShe_hasPlace.2.2.1 17 = .ok (.ireturn, 1) := by decide +kernel
theorem cShe_hasPlace {sg : zSig} {i : Int32}  : zG mShe_hasPlace 411 (fun rr h' => rr = some (.int (if 0 ≤ i ∧ i ≤ sg 1 2 then 1 else 0)) ∧ h' = zN sg) 0 [(0, .ref 1), (1, .int i)] [] (zN sg) := by
  refine zb_iflt (tgt := 16) bkShe_hasPlace_0 bdShe_hasPlace_1 (by decide) (lv' := [(0, .ref 1), (1, .int i)]) (st' := []) (h' := zN sg) (x := i) rfl trivial (fun c1 => ?_) (fun c1 => ?_)
  · skip
    refine zb_zret bkShe_hasPlace_16 bdShe_hasPlace_17 rfl (x := 0) (h' := zN sg) rfl trivial rfl (Or.inl rfl) ?_
    exact ⟨by grind, rfl⟩
  · skip
    refine zb_icgt (tgt := 16) bkShe_hasPlace_4 bdShe_hasPlace_9 (by decide) (lv' := [(0, .ref 1), (1, .int i)]) (st' := []) (h' := zN sg) (x := i) (y := sg 1 2) rfl (zA zob_1 trivial) (fun c2 => ?_) (fun c2 => ?_)
    · skip
      refine zb_zret bkShe_hasPlace_16 bdShe_hasPlace_17 rfl (x := 0) (h' := zN sg) rfl trivial rfl (Or.inl rfl) ?_
      exact ⟨by grind, rfl⟩
    · skip
      refine zb_zret bkShe_hasPlace_12 bdShe_hasPlace_17 rfl (x := 1) (h' := zN sg) rfl trivial rfl (Or.inr rfl) ?_
      exact ⟨by grind, rfl⟩
theorem bkShe_isRange_0 : zBk mShe_isRange 0 [(1, 1, 0, 0, 0)] = some 1 := by decide +kernel
theorem bkShe_isRange_21 : zBk mShe_isRange 21 [(0, 0, 0, 0, 0)] = some 22 := by decide +kernel
theorem bkShe_isRange_4 : zBk mShe_isRange 4 [(1, 1, 0, 0, 0), (1, 2, 0, 0, 0)] = some 6 := by decide +kernel
theorem bkShe_isRange_9 : zBk mShe_isRange 9 [(1, 2, 0, 0, 0), (1, 0, 1, 0, 0), (5, 5, 2, 0, 2)] = some 14 := by decide +kernel
theorem bkShe_isRange_17 : zBk mShe_isRange 17 [(0, 0, 0, 0, 1), (22, 22, 0, 0, 0)] = some 22 := by decide +kernel
theorem bdShe_isRange_1 : decode mShe_isRange.2.2.1 1 = .ok (.ifCond .lt 20, 3) := by decide +kernel
theorem bdShe_isRange_6 : decode mShe_isRange.2.2.1 6 = .ok (.if_icmp .ge 15, 3) := by decide +kernel
theorem bdShe_isRange_14 : decode mShe_isRange.2.2.1 14 = .ok (.if_icmp .gt 7, 3) := by decide +kernel
theorem bdShe_isRange_22 : decode mShe_isRange.2.2.1 22 = .ok (.ireturn, 1) := by decide +kernel
theorem cShe_isRange {sg : zSig} {f t : Int32}  : zG mShe_isRange 411 (fun rr h' => rr = some (.int (if 0 ≤ f ∧ f < t ∧ t ≤ sg 1 2 then 1 else 0)) ∧ h' = zN sg) 0 [(0, .ref 1), (1, .int f), (2, .int t)] [] (zN sg) := by
  refine zb_iflt (tgt := 21) bkShe_isRange_0 bdShe_isRange_1 (by decide) (lv' := [(0, .ref 1), (1, .int f), (2, .int t)]) (st' := []) (h' := zN sg) (x := f) rfl trivial (fun c1 => ?_) (fun c1 => ?_)
  · skip
    refine zb_zret bkShe_isRange_21 bdShe_isRange_22 rfl (x := 0) (h' := zN sg) rfl trivial rfl (Or.inl rfl) ?_
    exact ⟨by grind, rfl⟩
  · skip
    refine zb_icge (tgt := 21) bkShe_isRange_4 bdShe_isRange_6 (by decide) (lv' := [(0, .ref 1), (1, .int f), (2, .int t)]) (st' := []) (h' := zN sg) (x := f) (y := t) rfl trivial (fun c2 => ?_) (fun c2 => ?_)
    · skip
      refine zb_zret bkShe_isRange_21 bdShe_isRange_22 rfl (x := 0) (h' := zN sg) rfl trivial rfl (Or.inl rfl) ?_
      exact ⟨by grind, rfl⟩
    · skip
      refine zb_icgt (tgt := 21) bkShe_isRange_9 bdShe_isRange_14 (by decide) (lv' := [(0, .ref 1), (1, .int f), (2, .int t)]) (st' := []) (h' := zN sg) (x := t) (y := sg 1 2) rfl (zA zob_1 trivial) (fun c3 => ?_) (fun c3 => ?_)
      · skip
        refine zb_zret bkShe_isRange_21 bdShe_isRange_22 rfl (x := 0) (h' := zN sg) rfl trivial rfl (Or.inl rfl) ?_
        exact ⟨by grind, rfl⟩
      · skip
        refine zb_zret bkShe_isRange_17 bdShe_isRange_22 rfl (x := 1) (h' := zN sg) rfl trivial rfl (Or.inr rfl) ?_
        exact ⟨by grind, rfl⟩
