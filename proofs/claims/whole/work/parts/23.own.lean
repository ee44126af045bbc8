/-! the class itself: what its calls share: printed by wip/whole/p23.py -/
theorem bkSR_isWithin_0 : zBk mSR_isWithin 0 [(1, 0, 0, 0, 0)] = some 1 := by decide +kernel
theorem bkSR_isWithin_13 : zBk mSR_isWithin 13 [(0, 0, 0, 0, 0)] = some 14 := by decide +kernel
theorem bkSR_isWithin_4 : zBk mSR_isWithin 4 [(1, 0, 0, 0, 0), (1, 1, 0, 0, 0)] = some 6 := by decide +kernel
theorem bkSR_isWithin_9 : zBk mSR_isWithin 9 [(0, 0, 0, 0, 1), (22, 14, 0, 0, 0)] = some 14 := by decide +kernel
theorem bdSR_isWithin_1 : decode mSR_isWithin.2.2.1 1 = .ok (.ifCond .lt 12, 3) := by decide +kernel
theorem bdSR_isWithin_6 : decode mSR_isWithin.2.2.1 6 = .ok (.if_icmp .gt 7, 3) := by decide +kernel
theorem bdSR_isWithin_14 : decode mSR_isWithin.2.2.1 14 = .ok (.ireturn, 1) := by decide +kernel
theorem cSR_isWithin {sg : zSig} {n t : Int32}  : zG mSR_isWithin 411 (fun rr h' => rr = some (.int (if 0 ≤ n ∧ n ≤ t then 1 else 0)) ∧ h' = zN sg) 0 [(0, .int n), (1, .int t)] [] (zN sg) := by
  refine zb_iflt (tgt := 13) bkSR_isWithin_0 bdSR_isWithin_1 (by decide) (lv' := [(0, .int n), (1, .int t)]) (st' := []) (h' := zN sg) (x := n) (Ps := []) rfl trivial (fun c1 => ?_) (fun c1 => ?_)
  · skip
    refine zb_zret bkSR_isWithin_13 bdSR_isWithin_14 rfl (x := 0) (h' := zN sg) (Ps := []) rfl trivial rfl (Or.inl rfl) ?_
    exact ⟨by grind, rfl⟩
  · skip
    refine zb_icgt (tgt := 13) bkSR_isWithin_4 bdSR_isWithin_6 (by decide) (lv' := [(0, .int n), (1, .int t)]) (st' := []) (h' := zN sg) (x := n) (y := t) (Ps := []) rfl trivial (fun c2 => ?_) (fun c2 => ?_)
    · skip
      refine zb_zret bkSR_isWithin_13 bdSR_isWithin_14 rfl (x := 0) (h' := zN sg) (Ps := []) rfl trivial rfl (Or.inl rfl) ?_
      exact ⟨by grind, rfl⟩
    · skip
      refine zb_zret bkSR_isWithin_9 bdSR_isWithin_14 rfl (x := 1) (h' := zN sg) (Ps := []) rfl trivial rfl (Or.inr rfl) ?_
      exact ⟨by grind, rfl⟩
theorem bkSR_isColorOrNone_0 : zBk mSR_isColorOrNone 0 [(1, 0, 0, 0, 0), (0, 0, 0, 0, -1)] = some 2 := by decide +kernel
theorem bkSR_isColorOrNone_14 : zBk mSR_isColorOrNone 14 [(0, 0, 0, 0, 1), (22, 19, 0, 0, 0)] = some 19 := by decide +kernel
theorem bkSR_isColorOrNone_5 : zBk mSR_isColorOrNone 5 [(1, 0, 0, 0, 0), (0, 0, 0, 0, 7)] = some 8 := by decide +kernel
theorem bkSR_isColorOrNone_11 : zBk mSR_isColorOrNone 11 [] = some 11 := by decide +kernel
theorem bkSR_isColorOrNone_18 : zBk mSR_isColorOrNone 18 [(0, 0, 0, 0, 0)] = some 19 := by decide +kernel
theorem bdSR_isColorOrNone_2 : decode mSR_isColorOrNone.2.2.1 2 = .ok (.if_icmp .eq 12, 3) := by decide +kernel
theorem bdSR_isColorOrNone_8 : decode mSR_isColorOrNone.2.2.1 8 = .ok (.invokestatic 126, 3) := by decide +kernel
theorem bdSR_isColorOrNone_11 : decode mSR_isColorOrNone.2.2.1 11 = .ok (.ifCond .eq 7, 3) := by decide +kernel
theorem bdSR_isColorOrNone_19 : decode mSR_isColorOrNone.2.2.1 19 = .ok (.ireturn, 1) := by decide +kernel
theorem cSR_isColorOrNone {sg : zSig} {c : Int32}  : zG mSR_isColorOrNone 411 (fun rr h' => rr = some (.int (if c = -1 ∨ (0 ≤ c ∧ c ≤ 7) then 1 else 0)) ∧ h' = zN sg) 0 [(0, .int c)] [] (zN sg) := by
  refine zb_iceq (tgt := 14) bkSR_isColorOrNone_0 bdSR_isColorOrNone_2 (by decide) (lv' := [(0, .int c)]) (st' := []) (h' := zN sg) (x := c) (y := (-1)) (Ps := []) rfl trivial (fun c1 => ?_) (fun c1 => ?_)
  · skip
    refine zb_zret bkSR_isColorOrNone_14 bdSR_isColorOrNone_19 rfl (x := 1) (h' := zN sg) (Ps := []) rfl trivial rfl (Or.inr rfl) ?_
    exact ⟨by grind, rfl⟩
  · skip
    refine zG_run bkSR_isColorOrNone_5 (lv' := [(0, .int c)]) (st' := [.int 7, .int c]) (h' := zN sg) (Ps := []) rfl trivial ?_
    refine zG_calls (As := [.int c, .int 7]) (rest := []) (N2 := 411) bdSR_isColorOrNone_8 okSR_isWithin lk9_126 (And.intro (by decide) (by decide)) rfl rfl (Nat.le_of_ble_eq_true rfl) (Nat.le_of_ble_eq_true rfl) (Nat.le_refl 411) (Nat.le_refl 411) cSR_isWithin ?_
    rintro rr h' ⟨rfl, rfl⟩ -
    refine zb_ifeq (tgt := 18) bkSR_isColorOrNone_11 bdSR_isColorOrNone_11 (by decide) (lv' := [(0, .int c)]) (st' := []) (h' := zN sg) (x := if 0 ≤ c ∧ c ≤ 7 then 1 else 0) (Ps := []) rfl trivial (fun c2 => ?_) (fun c2 => ?_)
    · skip
      refine zb_zret bkSR_isColorOrNone_18 bdSR_isColorOrNone_19 rfl (x := 0) (h' := zN sg) (Ps := []) rfl trivial rfl (Or.inl rfl) ?_
      exact ⟨by grind, rfl⟩
    · skip
      refine zb_zret bkSR_isColorOrNone_14 bdSR_isColorOrNone_19 rfl (x := 1) (h' := zN sg) (Ps := []) rfl trivial rfl (Or.inr rfl) ?_
      exact ⟨by grind, rfl⟩
theorem bkSR_isFilter_0 : zBk mSR_isFilter 0 [(1, 0, 0, 0, 0), (0, 0, 0, 0, 15)] = some 3 := by decide +kernel
theorem bkSR_isFilter_6 : zBk mSR_isFilter 6 [] = some 6 := by decide +kernel
theorem bkSR_isFilter_29 : zBk mSR_isFilter 29 [(0, 0, 0, 0, 0)] = some 30 := by decide +kernel
theorem bkSR_isFilter_9 : zBk mSR_isFilter 9 [(1, 1, 0, 0, 0), (0, 0, 0, 0, 15)] = some 12 := by decide +kernel
theorem bkSR_isFilter_15 : zBk mSR_isFilter 15 [] = some 15 := by decide +kernel
theorem bkSR_isFilter_18 : zBk mSR_isFilter 18 [(1, 2, 0, 0, 0)] = some 19 := by decide +kernel
theorem bkSR_isFilter_22 : zBk mSR_isFilter 22 [] = some 22 := by decide +kernel
theorem bkSR_isFilter_25 : zBk mSR_isFilter 25 [(0, 0, 0, 0, 1), (22, 30, 0, 0, 0)] = some 30 := by decide +kernel
theorem bdSR_isFilter_3 : decode mSR_isFilter.2.2.1 3 = .ok (.invokestatic 126, 3) := by decide +kernel
theorem bdSR_isFilter_6 : decode mSR_isFilter.2.2.1 6 = .ok (.ifCond .eq 23, 3) := by decide +kernel
theorem bdSR_isFilter_12 : decode mSR_isFilter.2.2.1 12 = .ok (.invokestatic 126, 3) := by decide +kernel
theorem bdSR_isFilter_15 : decode mSR_isFilter.2.2.1 15 = .ok (.ifCond .eq 14, 3) := by decide +kernel
theorem bdSR_isFilter_19 : decode mSR_isFilter.2.2.1 19 = .ok (.invokestatic 341, 3) := by decide +kernel
theorem bdSR_isFilter_22 : decode mSR_isFilter.2.2.1 22 = .ok (.ifCond .eq 7, 3) := by decide +kernel
theorem bdSR_isFilter_30 : decode mSR_isFilter.2.2.1 30 = .ok (.ireturn, 1) := by decide +kernel
theorem cSR_isFilter {sg : zSig} {m f c : Int32}  : zG mSR_isFilter 411 (fun rr h' => rr = some (.int (if (0 ≤ m ∧ m ≤ 15) ∧ (0 ≤ f ∧ f ≤ 15) ∧ (c = -1 ∨ (0 ≤ c ∧ c ≤ 7)) then 1 else 0)) ∧ h' = zN sg) 0 [(0, .int m), (1, .int f), (2, .int c)] [] (zN sg) := by
  refine zG_run bkSR_isFilter_0 (lv' := [(0, .int m), (1, .int f), (2, .int c)]) (st' := [.int 15, .int m]) (h' := zN sg) (Ps := []) rfl trivial ?_
  refine zG_calls (As := [.int m, .int 15]) (rest := []) (N2 := 411) bdSR_isFilter_3 okSR_isWithin lk9_126 (And.intro (by decide) (by decide)) rfl rfl (Nat.le_of_ble_eq_true rfl) (Nat.le_of_ble_eq_true rfl) (Nat.le_refl 411) (Nat.le_refl 411) cSR_isWithin ?_
  rintro rr h' ⟨rfl, rfl⟩ -
  refine zb_ifeq (tgt := 29) bkSR_isFilter_6 bdSR_isFilter_6 (by decide) (lv' := [(0, .int m), (1, .int f), (2, .int c)]) (st' := []) (h' := zN sg) (x := if 0 ≤ m ∧ m ≤ 15 then 1 else 0) (Ps := []) rfl trivial (fun c1 => ?_) (fun c1 => ?_)
  · skip
    refine zb_zret bkSR_isFilter_29 bdSR_isFilter_30 rfl (x := 0) (h' := zN sg) (Ps := []) rfl trivial rfl (Or.inl rfl) ?_
    exact ⟨by grind, rfl⟩
  · skip
    refine zG_run bkSR_isFilter_9 (lv' := [(0, .int m), (1, .int f), (2, .int c)]) (st' := [.int 15, .int f]) (h' := zN sg) (Ps := []) rfl trivial ?_
    refine zG_calls (As := [.int f, .int 15]) (rest := []) (N2 := 411) bdSR_isFilter_12 okSR_isWithin lk9_126 (And.intro (by decide) (by decide)) rfl rfl (Nat.le_of_ble_eq_true rfl) (Nat.le_of_ble_eq_true rfl) (Nat.le_refl 411) (Nat.le_refl 411) cSR_isWithin ?_
    rintro rr h' ⟨rfl, rfl⟩ -
    refine zb_ifeq (tgt := 29) bkSR_isFilter_15 bdSR_isFilter_15 (by decide) (lv' := [(0, .int m), (1, .int f), (2, .int c)]) (st' := []) (h' := zN sg) (x := if 0 ≤ f ∧ f ≤ 15 then 1 else 0) (Ps := []) rfl trivial (fun c2 => ?_) (fun c2 => ?_)
    · skip
      refine zb_zret bkSR_isFilter_29 bdSR_isFilter_30 rfl (x := 0) (h' := zN sg) (Ps := []) rfl trivial rfl (Or.inl rfl) ?_
      exact ⟨by grind, rfl⟩
    · skip
      refine zG_run bkSR_isFilter_18 (lv' := [(0, .int m), (1, .int f), (2, .int c)]) (st' := [.int c]) (h' := zN sg) (Ps := []) rfl trivial ?_
      refine zG_calls (As := [.int c]) (rest := []) (N2 := 411) bdSR_isFilter_19 okSR_isColorOrNone lk9_341 (And.intro (by decide) (by decide)) rfl rfl (Nat.le_of_ble_eq_true rfl) (Nat.le_of_ble_eq_true rfl) (Nat.le_refl 411) (Nat.le_refl 411) cSR_isColorOrNone ?_
      rintro rr h' ⟨rfl, rfl⟩ -
      refine zb_ifeq (tgt := 29) bkSR_isFilter_22 bdSR_isFilter_22 (by decide) (lv' := [(0, .int m), (1, .int f), (2, .int c)]) (st' := []) (h' := zN sg) (x := if c = -1 ∨ (0 ≤ c ∧ c ≤ 7) then 1 else 0) (Ps := []) rfl trivial (fun c3 => ?_) (fun c3 => ?_)
      · skip
        refine zb_zret bkSR_isFilter_29 bdSR_isFilter_30 rfl (x := 0) (h' := zN sg) (Ps := []) rfl trivial rfl (Or.inl rfl) ?_
        exact ⟨by grind, rfl⟩
      · skip
        refine zb_zret bkSR_isFilter_25 bdSR_isFilter_30 rfl (x := 1) (h' := zN sg) (Ps := []) rfl trivial rfl (Or.inr rfl) ?_
        exact ⟨by grind, rfl⟩
theorem bkSR_isBrush_0 : zBk mSR_isBrush 0 [(1, 0, 0, 0, 0), (0, 0, 0, 0, 15)] = some 3 := by decide +kernel
theorem bkSR_isBrush_6 : zBk mSR_isBrush 6 [] = some 6 := by decide +kernel
theorem bkSR_isBrush_22 : zBk mSR_isBrush 22 [(0, 0, 0, 0, 0), (2, 4, 0, 0, 0), (1, 4, 0, 0, 0)] = some 27 := by decide +kernel
theorem bkSR_isBrush_52 : zBk mSR_isBrush 52 [(0, 0, 0, 0, 0)] = some 53 := by decide +kernel
theorem bkSR_isBrush_9 : zBk mSR_isBrush 9 [(1, 1, 0, 0, 0), (0, 0, 0, 0, 15)] = some 12 := by decide +kernel
theorem bkSR_isBrush_15 : zBk mSR_isBrush 15 [] = some 15 := by decide +kernel
theorem bkSR_isBrush_18 : zBk mSR_isBrush 18 [(0, 0, 0, 0, 1), (22, 23, 0, 0, 0), (2, 4, 0, 0, 0), (1, 4, 0, 0, 0)] = some 27 := by decide +kernel
theorem bkSR_isBrush_30 : zBk mSR_isBrush 30 [(1, 2, 0, 0, 0)] = some 31 := by decide +kernel
theorem bkSR_isBrush_34 : zBk mSR_isBrush 34 [] = some 34 := by decide +kernel
theorem bkSR_isBrush_37 : zBk mSR_isBrush 37 [(1, 3, 0, 0, 0), (0, 0, 0, 0, -3)] = some 40 := by decide +kernel
theorem bkSR_isBrush_43 : zBk mSR_isBrush 43 [(1, 3, 0, 0, 0), (0, 0, 0, 0, 3)] = some 45 := by decide +kernel
theorem bkSR_isBrush_48 : zBk mSR_isBrush 48 [(0, 0, 0, 0, 1), (22, 53, 0, 0, 0)] = some 53 := by decide +kernel
theorem bdSR_isBrush_3 : decode mSR_isBrush.2.2.1 3 = .ok (.invokestatic 126, 3) := by decide +kernel
theorem bdSR_isBrush_6 : decode mSR_isBrush.2.2.1 6 = .ok (.ifCond .eq 16, 3) := by decide +kernel
theorem bdSR_isBrush_12 : decode mSR_isBrush.2.2.1 12 = .ok (.invokestatic 126, 3) := by decide +kernel
theorem bdSR_isBrush_15 : decode mSR_isBrush.2.2.1 15 = .ok (.ifCond .eq 7, 3) := by decide +kernel
theorem bdSR_isBrush_27 : decode mSR_isBrush.2.2.1 27 = .ok (.ifCond .eq 25, 3) := by decide +kernel
theorem bdSR_isBrush_31 : decode mSR_isBrush.2.2.1 31 = .ok (.invokestatic 341, 3) := by decide +kernel
theorem bdSR_isBrush_34 : decode mSR_isBrush.2.2.1 34 = .ok (.ifCond .eq 18, 3) := by decide +kernel
theorem bdSR_isBrush_40 : decode mSR_isBrush.2.2.1 40 = .ok (.if_icmp .lt 12, 3) := by decide +kernel
theorem bdSR_isBrush_45 : decode mSR_isBrush.2.2.1 45 = .ok (.if_icmp .gt 7, 3) := by decide +kernel
theorem bdSR_isBrush_53 : decode mSR_isBrush.2.2.1 53 = .ok (.ireturn, 1) := by decide +kernel
theorem cSR_isBrush {sg : zSig} {n f c g : Int32}  : zG mSR_isBrush 411 (fun rr h' => rr = some (.int (if (0 ≤ n ∧ n ≤ 15) ∧ (0 ≤ f ∧ f ≤ 15) ∧ (c = -1 ∨ (0 ≤ c ∧ c ≤ 7)) ∧ -3 ≤ g ∧ g ≤ 3 then 1 else 0)) ∧ h' = zN sg) 0 [(0, .int n), (1, .int f), (2, .int c), (3, .int g)] [] (zN sg) := by
  refine zG_run bkSR_isBrush_0 (lv' := [(0, .int n), (1, .int f), (2, .int c), (3, .int g)]) (st' := [.int 15, .int n]) (h' := zN sg) (Ps := []) rfl trivial ?_
  refine zG_calls (As := [.int n, .int 15]) (rest := []) (N2 := 411) bdSR_isBrush_3 okSR_isWithin lk9_126 (And.intro (by decide) (by decide)) rfl rfl (Nat.le_of_ble_eq_true rfl) (Nat.le_of_ble_eq_true rfl) (Nat.le_refl 411) (Nat.le_refl 411) cSR_isWithin ?_
  rintro rr h' ⟨rfl, rfl⟩ -
  refine zb_ifeq (tgt := 22) bkSR_isBrush_6 bdSR_isBrush_6 (by decide) (lv' := [(0, .int n), (1, .int f), (2, .int c), (3, .int g)]) (st' := []) (h' := zN sg) (x := if 0 ≤ n ∧ n ≤ 15 then 1 else 0) (Ps := []) rfl trivial (fun c1 => ?_) (fun c1 => ?_)
  · skip
    refine zb_ifeq (tgt := 52) bkSR_isBrush_22 bdSR_isBrush_27 (by decide) (lv' := [(4, .int 0), (0, .int n), (1, .int f), (2, .int c), (3, .int g)]) (st' := []) (h' := zN sg) (x := 0) (Ps := []) rfl trivial (fun c2 => ?_) (fun c2 => ?_)
    · skip
      refine zb_zret bkSR_isBrush_52 bdSR_isBrush_53 rfl (x := 0) (h' := zN sg) (Ps := []) rfl trivial rfl (Or.inl rfl) ?_
      exact ⟨by grind, rfl⟩
    · exact absurd c2 (by decide)
  · skip
    refine zG_run bkSR_isBrush_9 (lv' := [(0, .int n), (1, .int f), (2, .int c), (3, .int g)]) (st' := [.int 15, .int f]) (h' := zN sg) (Ps := []) rfl trivial ?_
    refine zG_calls (As := [.int f, .int 15]) (rest := []) (N2 := 411) bdSR_isBrush_12 okSR_isWithin lk9_126 (And.intro (by decide) (by decide)) rfl rfl (Nat.le_of_ble_eq_true rfl) (Nat.le_of_ble_eq_true rfl) (Nat.le_refl 411) (Nat.le_refl 411) cSR_isWithin ?_
    rintro rr h' ⟨rfl, rfl⟩ -
    refine zb_ifeq (tgt := 22) bkSR_isBrush_15 bdSR_isBrush_15 (by decide) (lv' := [(0, .int n), (1, .int f), (2, .int c), (3, .int g)]) (st' := []) (h' := zN sg) (x := if 0 ≤ f ∧ f ≤ 15 then 1 else 0) (Ps := []) rfl trivial (fun c3 => ?_) (fun c3 => ?_)
    · skip
      refine zb_ifeq (tgt := 52) bkSR_isBrush_22 bdSR_isBrush_27 (by decide) (lv' := [(4, .int 0), (0, .int n), (1, .int f), (2, .int c), (3, .int g)]) (st' := []) (h' := zN sg) (x := 0) (Ps := []) rfl trivial (fun c4 => ?_) (fun c4 => ?_)
      · skip
        refine zb_zret bkSR_isBrush_52 bdSR_isBrush_53 rfl (x := 0) (h' := zN sg) (Ps := []) rfl trivial rfl (Or.inl rfl) ?_
        exact ⟨by grind, rfl⟩
      · exact absurd c4 (by decide)
    · skip
      refine zb_ifeq (tgt := 52) bkSR_isBrush_18 bdSR_isBrush_27 (by decide) (lv' := [(4, .int 1), (0, .int n), (1, .int f), (2, .int c), (3, .int g)]) (st' := []) (h' := zN sg) (x := 1) (Ps := []) rfl trivial (fun c5 => ?_) (fun c5 => ?_)
      · exact absurd c5 (by decide)
      · skip
        refine zG_run bkSR_isBrush_30 (lv' := [(4, .int 1), (0, .int n), (1, .int f), (2, .int c), (3, .int g)]) (st' := [.int c]) (h' := zN sg) (Ps := []) rfl trivial ?_
        refine zG_calls (As := [.int c]) (rest := []) (N2 := 411) bdSR_isBrush_31 okSR_isColorOrNone lk9_341 (And.intro (by decide) (by decide)) rfl rfl (Nat.le_of_ble_eq_true rfl) (Nat.le_of_ble_eq_true rfl) (Nat.le_refl 411) (Nat.le_refl 411) cSR_isColorOrNone ?_
        rintro rr h' ⟨rfl, rfl⟩ -
        refine zb_ifeq (tgt := 52) bkSR_isBrush_34 bdSR_isBrush_34 (by decide) (lv' := [(4, .int 1), (0, .int n), (1, .int f), (2, .int c), (3, .int g)]) (st' := []) (h' := zN sg) (x := if c = -1 ∨ (0 ≤ c ∧ c ≤ 7) then 1 else 0) (Ps := []) rfl trivial (fun c6 => ?_) (fun c6 => ?_)
        · skip
          refine zb_zret bkSR_isBrush_52 bdSR_isBrush_53 rfl (x := 0) (h' := zN sg) (Ps := []) rfl trivial rfl (Or.inl rfl) ?_
          exact ⟨by grind, rfl⟩
        · skip
          refine zb_iclt (tgt := 52) bkSR_isBrush_37 bdSR_isBrush_40 (by decide) (lv' := [(4, .int 1), (0, .int n), (1, .int f), (2, .int c), (3, .int g)]) (st' := []) (h' := zN sg) (x := g) (y := (-3)) (Ps := []) rfl trivial (fun c7 => ?_) (fun c7 => ?_)
          · skip
            refine zb_zret bkSR_isBrush_52 bdSR_isBrush_53 rfl (x := 0) (h' := zN sg) (Ps := []) rfl trivial rfl (Or.inl rfl) ?_
            exact ⟨by grind, rfl⟩
          · skip
            refine zb_icgt (tgt := 52) bkSR_isBrush_43 bdSR_isBrush_45 (by decide) (lv' := [(4, .int 1), (0, .int n), (1, .int f), (2, .int c), (3, .int g)]) (st' := []) (h' := zN sg) (x := g) (y := 3) (Ps := []) rfl trivial (fun c8 => ?_) (fun c8 => ?_)
            · skip
              refine zb_zret bkSR_isBrush_52 bdSR_isBrush_53 rfl (x := 0) (h' := zN sg) (Ps := []) rfl trivial rfl (Or.inl rfl) ?_
              exact ⟨by grind, rfl⟩
            · skip
              refine zb_zret bkSR_isBrush_48 bdSR_isBrush_53 rfl (x := 1) (h' := zN sg) (Ps := []) rfl trivial rfl (Or.inr rfl) ?_
              exact ⟨by grind, rfl⟩
def hRfC (sg : zSig) (v : Int32) : zSig := zup (zup sg 0 10 v) 326 (-v) (sg 326 (-v) + 1)
def hGrC (sg : zSig) : zSig := zup sg 0 10 0
theorem bkSR_refused_0 : zBk mSR_refused 0 [(1, 0, 1, 0, 0), (1, 1, 0, 0, 0), (6, 9, 10, 0, 10), (1, 0, 1, 0, 0), (5, 9, 9, 326, 9), (1, 1, 0, 0, 0), (12, 0, 0, 0, 0), (19, 0, 0, 0, 0), (7, 0, 0, 0, 0), (0, 0, 0, 0, 1), (4, 0, 0, 0, 0), (8, 0, 0, 0, 0), (1, 1, 0, 0, 0)] = some 17 := by decide +kernel
theorem bdSR_refused_17 : decode mSR_refused.2.2.1 17 = .ok (.ireturn, 1) := by decide +kernel
theorem cSR_refused {sg : zSig} {v : Int32} (h1 : 0 ≤ -v) (h2 : -v < 7) : zG mSR_refused 411 (fun rr h' => rr = some (.int v) ∧ h' = zN (hRfC sg v)) 0 [(0, .ref 0), (1, .int v)] [] (zN sg) := by
  refine zb_iret bkSR_refused_0 bdSR_refused_17 rfl (x := v) (h' := zN (zup (zup sg 0 10 v) 326 (-v) (((zup sg 0 10 v) 326 (-v)) + 1))) (Ps := [zOb (zN sg) 0 9, zOb (zN (zup sg 0 10 v)) 0 9 ∧ (zN (zup sg 0 10 v)).2.2 0 9 = true, zInL (zN (zup sg 0 10 v)) 326 (-v), zIn (zN (zup sg 0 10 v)) 326 0 (-v)]) rfl (zA zob_0 (zA ⟨zob_0, rfl⟩ (zA (zinL_326 (i := -v) (by grind) (by grind)) (zA (zin_326 (i := -v) (by grind) (by grind)) trivial)))) rfl ?_
  exact ⟨rfl, by simp [hRfC, zup_e]⟩
theorem bkSR_granted_0 : zBk mSR_granted 0 [(1, 0, 1, 0, 0), (0, 0, 0, 0, 0), (6, 9, 10, 0, 10), (1, 1, 0, 0, 0)] = some 6 := by decide +kernel
theorem bdSR_granted_6 : decode mSR_granted.2.2.1 6 = .ok (.ireturn, 1) := by decide +kernel
theorem cSR_granted {sg : zSig} {v : Int32}  : zG mSR_granted 411 (fun rr h' => rr = some (.int v) ∧ h' = zN (hGrC sg)) 0 [(0, .ref 0), (1, .int v)] [] (zN sg) := by
  refine zb_iret bkSR_granted_0 bdSR_granted_6 rfl (x := v) (h' := zN (zup sg 0 10 0)) (Ps := [zOb (zN sg) 0 9]) rfl (zA zob_0 trivial) rfl ?_
  exact ⟨rfl, rfl⟩
theorem bkSR_whyNoRoomForTape_0 : zBk mSR_whyNoRoomForTape 0 [(1, 0, 1, 0, 0), (5, 9, 1, 34, 1), (5, 7, 1, 0, 1)] = some 7 := by decide +kernel
theorem bkSR_whyNoRoomForTape_13 : zBk mSR_whyNoRoomForTape 13 [(1, 0, 1, 0, 0), (5, 9, 0, 1, 0), (5, 5, 2, 0, 2), (1, 0, 1, 0, 0), (5, 9, 1, 34, 1), (5, 7, 1, 0, 1), (4, 0, 0, 0, 0), (0, 0, 0, 0, 200)] = some 31 := by decide +kernel
theorem bkSR_whyNoRoomForTape_39 : zBk mSR_whyNoRoomForTape 39 [(0, 0, 0, 0, 0)] = some 40 := by decide +kernel
theorem bkSR_whyNoRoomForTape_34 : zBk mSR_whyNoRoomForTape 34 [(0, 0, 0, 0, -5), (22, 40, 0, 0, 0)] = some 40 := by decide +kernel
theorem bkSR_whyNoRoomForTape_10 : zBk mSR_whyNoRoomForTape 10 [(0, 0, 0, 0, -4)] = some 12 := by decide +kernel
theorem bdSR_whyNoRoomForTape_7 : decode mSR_whyNoRoomForTape.2.2.1 7 = .ok (.ifCond .ne 6, 3) := by decide +kernel
theorem bdSR_whyNoRoomForTape_12 : decode mSR_whyNoRoomForTape.2.2.1 12 = .ok (.ireturn, 1) := by decide +kernel
theorem bdSR_whyNoRoomForTape_31 : decode mSR_whyNoRoomForTape.2.2.1 31 = .ok (.if_icmp .le 8, 3) := by decide +kernel
theorem bdSR_whyNoRoomForTape_40 : decode mSR_whyNoRoomForTape.2.2.1 40 = .ok (.ireturn, 1) := by decide +kernel
theorem cSR_whyNoRoomForTape {sg : zSig}   : zG mSR_whyNoRoomForTape 411 (fun rr h' => rr = some (.int (if sg 34 1 = 0 then -4 else if 200 < sg 1 2 + sg 34 1 then -5 else 0)) ∧ h' = zN sg) 0 [(0, .ref 0)] [] (zN sg) := by
  refine zb_ifne (tgt := 13) bkSR_whyNoRoomForTape_0 bdSR_whyNoRoomForTape_7 (by decide) (lv' := [(0, .ref 0)]) (st' := []) (h' := zN sg) (x := sg 34 1) (Ps := [zOb (zN sg) 0 9 ∧ (zN sg).2.2 0 1 = true, zOb (zN sg) 34 7]) rfl (zA ⟨zob_0, rfl⟩ (zA zob_34 trivial)) (fun c1 => ?_) (fun c1 => ?_)
  · skip
    refine zb_icle (tgt := 39) bkSR_whyNoRoomForTape_13 bdSR_whyNoRoomForTape_31 (by decide) (lv' := [(0, .ref 0)]) (st' := []) (h' := zN sg) (x := (sg 1 2) + (sg 34 1)) (y := 200) (Ps := [zOb (zN sg) 0 9 ∧ (zN sg).2.2 0 0 = true, zOb (zN sg) 1 5, zOb (zN sg) 0 9 ∧ (zN sg).2.2 0 1 = true, zOb (zN sg) 34 7]) rfl (zA ⟨zob_0, rfl⟩ (zA zob_1 (zA ⟨zob_0, rfl⟩ (zA zob_34 trivial)))) (fun c2 => ?_) (fun c2 => ?_)
    · skip
      refine zb_iret bkSR_whyNoRoomForTape_39 bdSR_whyNoRoomForTape_40 rfl (x := 0) (h' := zN sg) (Ps := []) rfl trivial rfl ?_
      exact ⟨by grind, rfl⟩
    · skip
      refine zb_iret bkSR_whyNoRoomForTape_34 bdSR_whyNoRoomForTape_40 rfl (x := (-5)) (h' := zN sg) (Ps := []) rfl trivial rfl ?_
      exact ⟨by grind, rfl⟩
  · skip
    refine zb_iret bkSR_whyNoRoomForTape_10 bdSR_whyNoRoomForTape_12 rfl (x := (-4)) (h' := zN sg) (Ps := []) rfl trivial rfl ?_
    exact ⟨by grind, rfl⟩
def hBeg (sg sg' : zSig) (k x y z : Int32) : Prop := ∃ sg1, hKeep sg sg1 k x y z ∧ sg' = zup sg1 0 11 0
theorem bkSR_begin_0 : zBk mSR_begin 0 [(1, 0, 1, 0, 0), (5, 9, 2, 36, 2), (1, 0, 1, 0, 0), (5, 9, 0, 1, 0), (1, 1, 0, 0, 0), (1, 2, 0, 0, 0), (1, 3, 0, 0, 0), (1, 4, 0, 0, 0)] = some 13 := by decide +kernel
theorem bkSR_begin_16 : zBk mSR_begin 16 [(1, 0, 1, 0, 0), (0, 0, 0, 0, 0), (6, 9, 11, 1, 11)] = some 21 := by decide +kernel
theorem bdSR_begin_13 : decode mSR_begin.2.2.1 13 = .ok (.invokevirtual 333, 3) := by decide +kernel
theorem bdSR_begin_21 : decode mSR_begin.2.2.1 21 = .ok (.return_, 1) := by decide +kernel
theorem cSR_begin {sg : zSig} {k x y z : Int32} (ob : okS sg 1) (h0 : 0 ≤ sg 36 2) (h1 : sg 36 2 < 8) (c0 : 0 ≤ sg 36 3) (c1 : sg 36 3 ≤ 8) : zG mSR_begin 411 (fun rr h' => ∃ sg', rr = none ∧ h' = zN sg' ∧ hBeg sg sg' k x y z) 0 [(0, .ref 0), (1, .int k), (2, .int x), (3, .int y), (4, .int z)] [] (zN sg) := by
  refine zG_run bkSR_begin_0 (lv' := [(0, .ref 0), (1, .int k), (2, .int x), (3, .int y), (4, .int z)]) (st' := [.int z, .int y, .int x, .int k, .ref 1, .ref 36]) (h' := zN sg) (Ps := [zOb (zN sg) 0 9 ∧ (zN sg).2.2 0 2 = true, zOb (zN sg) 0 9 ∧ (zN sg).2.2 0 0 = true]) rfl (zA ⟨zob_0, rfl⟩ (zA ⟨zob_0, rfl⟩ trivial)) ?_
  refine zG_callv (a := 36) (c := 2) (As := [.ref 1, .int k, .int x, .int y, .int z]) (rest := []) (N2 := 411) bdSR_begin_13 okHis_keep lk9_333 (And.intro (by decide) (by decide)) (by decide) rfl rfl rfl (Nat.le_of_ble_eq_true rfl) (Nat.le_of_ble_eq_true rfl) (Nat.le_refl 411) (Nat.le_refl 411) zob_36 (cHis_keep ob h0 h1 c0 c1) ?_
  rintro rr h' ⟨sg1, rfl, rfl, hk⟩ -
  refine zb_vret bkSR_begin_16 bdSR_begin_21 rfl (h' := zN (zup sg1 0 11 0)) (Ps := [zOb (zN sg1) 0 9, 0 = 0 ∨ 0 = 1]) rfl (zA zob_0 (zA (Or.inl rfl) trivial)) rfl ?_
  exact ⟨_, rfl, rfl, _, hk, rfl⟩
theorem cS1_congr {sg sg' : zSig} {wo mv mt i lay k a : Int32} (he : ∀ c j, 1 ≤ c → c < 34 → sg' c j = sg c j) (k0 : 0 ≤ k) (k1 : k < 16) : cS1 sg' wo mv mt i lay k a = cS1 sg wo mv mt i lay k a := by
  have hz := zel4_rng k0 k1
  simp only [cS1, he (zel 4 k) _ (by omega) (by omega)]
theorem cS_congr {sg sg' : zSig} {wo mv mt i : Int32} (he : ∀ c j, 1 ≤ c → c < 34 → sg' c j = sg c j) (g0 : 0 ≤ sg 1 4) (g1 : sg 1 4 ≤ 16) : cS sg' wo mv mt i = cS sg wo mv mt i := by
  unfold cS
  rw [he 3 i (by decide) (by decide)]
  refine zit_congr (by decide) (fun lay a _ _ => ?_)
  unfold cS2
  rw [he 1 4 (by decide) (by decide)]
  exact zit_congr g0 (fun k b k0 k1 => cS1_congr he k0 (by lia))
/-- the looks that are kept are the present ones -/
def okF (sg : zSig) : Prop := (sg 0 11 = 0 ∨ sg 0 11 = 1) ∧ (sg 0 11 ≠ 0 → sg 313 1 = sg 1 2 ∧ ∀ j, 0 ≤ j → j < sg 1 2 → sg 314 j = cS sg (-1) (-1) 0 j)
def hLk (sg sg' : zSig) : Prop := (∀ c j, c ≠ 313 → c ≠ 314 → (c ≠ 0 ∨ j ≠ 11) → sg' c j = sg c j) ∧ sg' 0 11 = 1 ∧ sg' 313 1 = sg 1 2 ∧ ∀ j, 0 ≤ j → j < sg 1 2 → sg' 314 j = cS sg (-1) (-1) 0 j
theorem bkSR_looksNow_0 : zBk mSR_looksNow 0 [(1, 0, 1, 0, 0), (5, 9, 11, 0, 11)] = some 4 := by decide +kernel
theorem bkSR_looksNow_26 : zBk mSR_looksNow 26 [(1, 0, 1, 0, 0), (5, 9, 5, 313, 5)] = some 30 := by decide +kernel
theorem bkSR_looksNow_7 : zBk mSR_looksNow 7 [(1, 0, 1, 0, 0), (5, 9, 5, 313, 5), (1, 0, 1, 0, 0), (5, 9, 0, 1, 0), (0, 0, 0, 0, -1), (0, 0, 0, 0, -1), (0, 0, 0, 0, 0)] = some 18 := by decide +kernel
theorem bkSR_looksNow_21 : zBk mSR_looksNow 21 [(1, 0, 1, 0, 0), (0, 0, 0, 0, 1), (6, 9, 11, 1, 11), (1, 0, 1, 0, 0), (5, 9, 5, 313, 5)] = some 30 := by decide +kernel
theorem bdSR_looksNow_4 : decode mSR_looksNow.2.2.1 4 = .ok (.ifCond .ne 22, 3) := by decide +kernel
theorem bdSR_looksNow_18 : decode mSR_looksNow.2.2.1 18 = .ok (.invokevirtual 337, 3) := by decide +kernel
theorem bdSR_looksNow_30 : decode mSR_looksNow.2.2.1 30 = .ok (.areturn, 1) := by decide +kernel
theorem cSR_looksNow {sg : zSig}  (ob : okS sg 1) (hf : okF sg) : zG mSR_looksNow 411 (fun rr h' => ∃ sg', rr = some (.ref 313) ∧ h' = zN sg' ∧ hLk sg sg') 0 [(0, .ref 0)] [] (zN sg) := by
  refine zb_ifne (tgt := 26) bkSR_looksNow_0 bdSR_looksNow_4 (by decide) (lv' := [(0, .ref 0)]) (st' := []) (h' := zN sg) (x := sg 0 11) (Ps := [zOb (zN sg) 0 9]) rfl (zA zob_0 trivial) (fun c1 => ?_) (fun c1 => ?_)
  · skip
    refine zb_aret bkSR_looksNow_26 bdSR_looksNow_30 rfl (a := 313) (h' := zN sg) (Ps := [zOb (zN sg) 0 9 ∧ (zN sg).2.2 0 5 = true]) rfl (zA ⟨zob_0, rfl⟩ trivial) rfl ?_
    refine ⟨_, rfl, rfl, fun _ _ _ _ _ => rfl, by have := hf.1; lia, (hf.2 (by lia)).1, (hf.2 (by lia)).2⟩
  · skip
    refine zG_run bkSR_looksNow_7 (lv' := [(0, .ref 0)]) (st' := [.int 0, .int (-1), .int (-1), .ref 1, .ref 313]) (h' := zN sg) (Ps := [zOb (zN sg) 0 9 ∧ (zN sg).2.2 0 5 = true, zOb (zN sg) 0 9 ∧ (zN sg).2.2 0 0 = true]) rfl (zA ⟨zob_0, rfl⟩ (zA ⟨zob_0, rfl⟩ trivial)) ?_
    refine zG_callv (a := 313) (c := 3) (As := [.ref 1, .int (-1), .int (-1), .int 0]) (rest := []) (N2 := 411) bdSR_looksNow_18 okLoo_see lk9_337 (And.intro (by decide) (by decide)) (by decide) rfl rfl rfl (Nat.le_of_ble_eq_true rfl) (Nat.le_of_ble_eq_true rfl) (Nat.le_refl 411) (Nat.le_refl 411) zob_313 (cLoo_see_313 ob.1.1 ob.1.2 ob.2.1.1 ob.2.1.2) ?_
    rintro rr h' ⟨sg2, rfl, rfl, sf, sa, sc⟩ -
    refine zb_aret bkSR_looksNow_21 bdSR_looksNow_30 rfl (a := 313) (h' := zN (zup sg2 0 11 1)) (Ps := [zOb (zN sg2) 0 9, 1 = 0 ∨ 1 = 1, zOb (zN (zup sg2 0 11 1)) 0 9 ∧ (zN (zup sg2 0 11 1)).2.2 0 5 = true]) rfl (zA zob_0 (zA (Or.inr rfl) (zA ⟨zob_0, rfl⟩ trivial))) rfl ?_
    refine ⟨_, rfl, rfl, fun c j g1 g2 g3 => ?_, zup_s, ?_, fun j g1 g2 => ?_⟩
    · rw [zup_e, if_neg (by rintro ⟨q1, q2⟩; exact g3.elim (fun g => g q1) (fun g => g q2))]; exact sf c j g1 g2
    · rw [zup_a (by decide)]; exact sa
    · rw [zup_a (by decide)]; exact sc j g1 g2
theorem bkSR_end_0 : zBk mSR_end 0 [(1, 1, 0, 0, 0)] = some 1 := by decide +kernel
theorem bkSR_end_15 : zBk mSR_end 15 [(0, 0, 0, 0, -1)] = some 16 := by decide +kernel
theorem bkSR_end_4 : zBk mSR_end 4 [(1, 1, 0, 0, 0), (1, 0, 1, 0, 0), (5, 9, 1, 34, 1), (5, 7, 1, 0, 1)] = some 12 := by decide +kernel
theorem bkSR_end_17 : zBk mSR_end 17 [(1, 0, 1, 0, 0), (5, 9, 1, 34, 1), (1, 1, 0, 0, 0), (6, 7, 1, 0, 1), (1, 1, 0, 0, 0)] = some 26 := by decide +kernel
theorem bdSR_end_1 : decode mSR_end.2.2.1 1 = .ok (.ifCond .lt 14, 3) := by decide +kernel
theorem bdSR_end_12 : decode mSR_end.2.2.1 12 = .ok (.if_icmp .le 5, 3) := by decide +kernel
theorem bdSR_end_16 : decode mSR_end.2.2.1 16 = .ok (.ireturn, 1) := by decide +kernel
theorem bdSR_end_26 : decode mSR_end.2.2.1 26 = .ok (.ireturn, 1) := by decide +kernel
theorem cSR_end {sg : zSig} {n : Int32}  : zG mSR_end 411 (fun rr h' => (rr = some (.int (-1)) ∧ h' = zN sg ∧ ¬ (0 ≤ n ∧ n ≤ sg 34 1)) ∨ (rr = some (.int n) ∧ h' = zN (zup sg 34 1 n) ∧ 0 ≤ n ∧ n ≤ sg 34 1)) 0 [(0, .ref 0), (1, .int n)] [] (zN sg) := by
  refine zb_iflt (tgt := 15) bkSR_end_0 bdSR_end_1 (by decide) (lv' := [(0, .ref 0), (1, .int n)]) (st' := []) (h' := zN sg) (x := n) (Ps := []) rfl trivial (fun c1 => ?_) (fun c1 => ?_)
  · skip
    refine zb_iret bkSR_end_15 bdSR_end_16 rfl (x := (-1)) (h' := zN sg) (Ps := []) rfl trivial rfl ?_
    first | exact Or.inl ⟨rfl, rfl, by lia⟩ | exact Or.inr ⟨rfl, rfl, by lia, by lia⟩
  · skip
    refine zb_icle (tgt := 17) bkSR_end_4 bdSR_end_12 (by decide) (lv' := [(0, .ref 0), (1, .int n)]) (st' := []) (h' := zN sg) (x := n) (y := sg 34 1) (Ps := [zOb (zN sg) 0 9 ∧ (zN sg).2.2 0 1 = true, zOb (zN sg) 34 7]) rfl (zA ⟨zob_0, rfl⟩ (zA zob_34 trivial)) (fun c2 => ?_) (fun c2 => ?_)
    · skip
      refine zb_iret bkSR_end_17 bdSR_end_26 rfl (x := n) (h' := zN (zup sg 34 1 n)) (Ps := [zOb (zN sg) 0 9 ∧ (zN sg).2.2 0 1 = true, zOb (zN sg) 34 7]) rfl (zA ⟨zob_0, rfl⟩ (zA zob_34 trivial)) rfl ?_
      first | exact Or.inl ⟨rfl, rfl, by lia⟩ | exact Or.inr ⟨rfl, rfl, by lia, by lia⟩
    · skip
      refine zb_iret bkSR_end_15 bdSR_end_16 rfl (x := (-1)) (h' := zN sg) (Ps := []) rfl trivial rfl ?_
      first | exact Or.inl ⟨rfl, rfl, by lia⟩ | exact Or.inr ⟨rfl, rfl, by lia, by lia⟩
theorem bkSR_tape_0 : zBk mSR_tape 0 [(1, 0, 1, 0, 0), (5, 9, 1, 34, 1), (1, 1, 0, 0, 0)] = some 5 := by decide +kernel
theorem bkSR_tape_8 : zBk mSR_tape 8 [] = some 8 := by decide +kernel
theorem bdSR_tape_5 : decode mSR_tape.2.2.1 5 = .ok (.invokevirtual 81, 3) := by decide +kernel
theorem bdSR_tape_8 : decode mSR_tape.2.2.1 8 = .ok (.ireturn, 1) := by decide +kernel
theorem cSR_tape {sg : zSig} {i : Int32} (hn : sg 34 1 ≤ 400) : zG mSR_tape 411 (fun rr h' => rr = some (.int (if 0 ≤ i ∧ i < sg 34 1 then sg 35 i else -1)) ∧ h' = zN sg) 0 [(0, .ref 0), (1, .int i)] [] (zN sg) := by
  refine zG_run bkSR_tape_0 (lv' := [(0, .ref 0), (1, .int i)]) (st' := [.int i, .ref 34]) (h' := zN sg) (Ps := [zOb (zN sg) 0 9 ∧ (zN sg).2.2 0 1 = true]) rfl (zA ⟨zob_0, rfl⟩ trivial) ?_
  refine zG_callv (a := 34) (c := 7) (As := [.int i]) (rest := []) (N2 := 411) bdSR_tape_5 okTap_at lk9_81 (And.intro (by decide) (by decide)) (by decide) rfl rfl rfl (Nat.le_of_ble_eq_true rfl) (Nat.le_of_ble_eq_true rfl) (Nat.le_refl 411) (Nat.le_refl 411) zob_34 (cTap_at (by grind)) ?_
  rintro rr h' ⟨rfl, rfl⟩ -
  refine zb_iret bkSR_tape_8 bdSR_tape_8 rfl (x := if 0 ≤ i ∧ i < sg 34 1 then sg 35 i else -1) (h' := zN sg) (Ps := []) rfl trivial rfl ?_
  exact ⟨rfl, rfl⟩
def hFd (sg : zSig) (a b c d e : Int32) : zSig := hAF (hAF (hAF (hAF (hAF sg a) b) c) d) e
theorem hAF_len {sg : zSig} {v : Int32} : hAF sg v 34 1 = sg 34 1 + 4 := by simp [hAF]
theorem bkSR_feed_0 : zBk mSR_feed 0 [(1, 0, 1, 0, 0), (5, 9, 1, 34, 1), (5, 7, 1, 0, 1), (0, 0, 0, 0, 20), (4, 0, 0, 0, 0), (0, 0, 0, 0, 400)] = some 13 := by decide +kernel
theorem bkSR_feed_18 : zBk mSR_feed 18 [(1, 0, 1, 0, 0), (5, 9, 1, 34, 1), (1, 1, 0, 0, 0)] = some 23 := by decide +kernel
theorem bkSR_feed_26 : zBk mSR_feed 26 [(1, 0, 1, 0, 0), (5, 9, 1, 34, 1), (1, 2, 0, 0, 0)] = some 31 := by decide +kernel
theorem bkSR_feed_34 : zBk mSR_feed 34 [(1, 0, 1, 0, 0), (5, 9, 1, 34, 1), (1, 3, 0, 0, 0)] = some 39 := by decide +kernel
theorem bkSR_feed_42 : zBk mSR_feed 42 [(1, 0, 1, 0, 0), (5, 9, 1, 34, 1), (1, 4, 0, 0, 0)] = some 48 := by decide +kernel
theorem bkSR_feed_51 : zBk mSR_feed 51 [(1, 0, 1, 0, 0), (5, 9, 1, 34, 1), (1, 5, 0, 0, 0)] = some 57 := by decide +kernel
theorem bkSR_feed_60 : zBk mSR_feed 60 [(1, 0, 1, 0, 0), (5, 9, 1, 34, 1), (5, 7, 1, 0, 1)] = some 67 := by decide +kernel
theorem bkSR_feed_16 : zBk mSR_feed 16 [(0, 0, 0, 0, -1)] = some 17 := by decide +kernel
theorem bdSR_feed_13 : decode mSR_feed.2.2.1 13 = .ok (.if_icmp .le 5, 3) := by decide +kernel
theorem bdSR_feed_17 : decode mSR_feed.2.2.1 17 = .ok (.ireturn, 1) := by decide +kernel
theorem bdSR_feed_23 : decode mSR_feed.2.2.1 23 = .ok (.invokevirtual 77, 3) := by decide +kernel
theorem bdSR_feed_31 : decode mSR_feed.2.2.1 31 = .ok (.invokevirtual 77, 3) := by decide +kernel
theorem bdSR_feed_39 : decode mSR_feed.2.2.1 39 = .ok (.invokevirtual 77, 3) := by decide +kernel
theorem bdSR_feed_48 : decode mSR_feed.2.2.1 48 = .ok (.invokevirtual 77, 3) := by decide +kernel
theorem bdSR_feed_57 : decode mSR_feed.2.2.1 57 = .ok (.invokevirtual 77, 3) := by decide +kernel
theorem bdSR_feed_67 : decode mSR_feed.2.2.1 67 = .ok (.ireturn, 1) := by decide +kernel
theorem cSR_feed {sg : zSig} {a b c d e : Int32} (h0 : 0 ≤ sg 34 1) (h1 : sg 34 1 ≤ 400) : zG mSR_feed 411 (fun rr h' => (rr = some (.int (-1)) ∧ h' = zN sg ∧ 380 < sg 34 1) ∨ (rr = some (.int (sg 34 1 + 20)) ∧ h' = zN (hFd sg a b c d e) ∧ sg 34 1 ≤ 380)) 0 [(0, .ref 0), (1, .int a), (2, .int b), (3, .int c), (4, .int d), (5, .int e)] [] (zN sg) := by
  refine zb_icle (tgt := 18) bkSR_feed_0 bdSR_feed_13 (by decide) (lv' := [(0, .ref 0), (1, .int a), (2, .int b), (3, .int c), (4, .int d), (5, .int e)]) (st' := []) (h' := zN sg) (x := (sg 34 1) + 20) (y := 400) (Ps := [zOb (zN sg) 0 9 ∧ (zN sg).2.2 0 1 = true, zOb (zN sg) 34 7]) rfl (zA ⟨zob_0, rfl⟩ (zA zob_34 trivial)) (fun c1 => ?_) (fun c1 => ?_)
  · skip
    refine zG_run bkSR_feed_18 (lv' := [(0, .ref 0), (1, .int a), (2, .int b), (3, .int c), (4, .int d), (5, .int e)]) (st' := [.int a, .ref 34]) (h' := zN sg) (Ps := [zOb (zN sg) 0 9 ∧ (zN sg).2.2 0 1 = true]) rfl (zA ⟨zob_0, rfl⟩ trivial) ?_
    refine zG_callv (a := 34) (c := 7) (As := [.int a]) (rest := []) (N2 := 411) bdSR_feed_23 okTap_addFour lk9_77 (And.intro (by decide) (by decide)) (by decide) rfl rfl rfl (Nat.le_of_ble_eq_true rfl) (Nat.le_of_ble_eq_true rfl) (Nat.le_refl 411) (Nat.le_refl 411) zob_34 (cTap_addFour (by (try simp only [hAF_len]); lia) (by (try simp only [hAF_len]); lia)) ?_
    rintro rr h' ⟨rfl, rfl⟩ -
    refine zG_run bkSR_feed_26 (lv' := [(0, .ref 0), (1, .int a), (2, .int b), (3, .int c), (4, .int d), (5, .int e)]) (st' := [.int b, .ref 34]) (h' := zN (hAF sg a)) (Ps := [zOb (zN (hAF sg a)) 0 9 ∧ (zN (hAF sg a)).2.2 0 1 = true]) rfl (zA ⟨zob_0, rfl⟩ trivial) ?_
    refine zG_callv (a := 34) (c := 7) (As := [.int b]) (rest := []) (N2 := 411) bdSR_feed_31 okTap_addFour lk9_77 (And.intro (by decide) (by decide)) (by decide) rfl rfl rfl (Nat.le_of_ble_eq_true rfl) (Nat.le_of_ble_eq_true rfl) (Nat.le_refl 411) (Nat.le_refl 411) zob_34 (cTap_addFour (by (try simp only [hAF_len]); lia) (by (try simp only [hAF_len]); lia)) ?_
    rintro rr h' ⟨rfl, rfl⟩ -
    refine zG_run bkSR_feed_34 (lv' := [(0, .ref 0), (1, .int a), (2, .int b), (3, .int c), (4, .int d), (5, .int e)]) (st' := [.int c, .ref 34]) (h' := zN (hAF (hAF sg a) b)) (Ps := [zOb (zN (hAF (hAF sg a) b)) 0 9 ∧ (zN (hAF (hAF sg a) b)).2.2 0 1 = true]) rfl (zA ⟨zob_0, rfl⟩ trivial) ?_
    refine zG_callv (a := 34) (c := 7) (As := [.int c]) (rest := []) (N2 := 411) bdSR_feed_39 okTap_addFour lk9_77 (And.intro (by decide) (by decide)) (by decide) rfl rfl rfl (Nat.le_of_ble_eq_true rfl) (Nat.le_of_ble_eq_true rfl) (Nat.le_refl 411) (Nat.le_refl 411) zob_34 (cTap_addFour (by (try simp only [hAF_len]); lia) (by (try simp only [hAF_len]); lia)) ?_
    rintro rr h' ⟨rfl, rfl⟩ -
    refine zG_run bkSR_feed_42 (lv' := [(0, .ref 0), (1, .int a), (2, .int b), (3, .int c), (4, .int d), (5, .int e)]) (st' := [.int d, .ref 34]) (h' := zN (hAF (hAF (hAF sg a) b) c)) (Ps := [zOb (zN (hAF (hAF (hAF sg a) b) c)) 0 9 ∧ (zN (hAF (hAF (hAF sg a) b) c)).2.2 0 1 = true]) rfl (zA ⟨zob_0, rfl⟩ trivial) ?_
    refine zG_callv (a := 34) (c := 7) (As := [.int d]) (rest := []) (N2 := 411) bdSR_feed_48 okTap_addFour lk9_77 (And.intro (by decide) (by decide)) (by decide) rfl rfl rfl (Nat.le_of_ble_eq_true rfl) (Nat.le_of_ble_eq_true rfl) (Nat.le_refl 411) (Nat.le_refl 411) zob_34 (cTap_addFour (by (try simp only [hAF_len]); lia) (by (try simp only [hAF_len]); lia)) ?_
    rintro rr h' ⟨rfl, rfl⟩ -
    refine zG_run bkSR_feed_51 (lv' := [(0, .ref 0), (1, .int a), (2, .int b), (3, .int c), (4, .int d), (5, .int e)]) (st' := [.int e, .ref 34]) (h' := zN (hAF (hAF (hAF (hAF sg a) b) c) d)) (Ps := [zOb (zN (hAF (hAF (hAF (hAF sg a) b) c) d)) 0 9 ∧ (zN (hAF (hAF (hAF (hAF sg a) b) c) d)).2.2 0 1 = true]) rfl (zA ⟨zob_0, rfl⟩ trivial) ?_
    refine zG_callv (a := 34) (c := 7) (As := [.int e]) (rest := []) (N2 := 411) bdSR_feed_57 okTap_addFour lk9_77 (And.intro (by decide) (by decide)) (by decide) rfl rfl rfl (Nat.le_of_ble_eq_true rfl) (Nat.le_of_ble_eq_true rfl) (Nat.le_refl 411) (Nat.le_refl 411) zob_34 (cTap_addFour (by (try simp only [hAF_len]); lia) (by (try simp only [hAF_len]); lia)) ?_
    rintro rr h' ⟨rfl, rfl⟩ -
    refine zb_iret bkSR_feed_60 bdSR_feed_67 rfl (x := (hAF (hAF (hAF (hAF (hAF sg a) b) c) d) e) 34 1) (h' := zN (hAF (hAF (hAF (hAF (hAF sg a) b) c) d) e)) (Ps := [zOb (zN (hAF (hAF (hAF (hAF (hAF sg a) b) c) d) e)) 0 9 ∧ (zN (hAF (hAF (hAF (hAF (hAF sg a) b) c) d) e)).2.2 0 1 = true, zOb (zN (hAF (hAF (hAF (hAF (hAF sg a) b) c) d) e)) 34 7]) rfl (zA ⟨zob_0, rfl⟩ (zA zob_34 trivial)) rfl ?_
    first | exact Or.inl ⟨rfl, rfl, by lia⟩ | exact Or.inr ⟨by rw [show sg 34 1 + 20 = sg 34 1 + 4 + 4 + 4 + 4 + 4 by grind]; simp only [hAF_len], rfl, by lia⟩
  · skip
    refine zb_iret bkSR_feed_16 bdSR_feed_17 rfl (x := (-1)) (h' := zN sg) (Ps := []) rfl trivial rfl ?_
    first | exact Or.inl ⟨rfl, rfl, by lia⟩ | exact Or.inr ⟨by rw [show sg 34 1 + 20 = sg 34 1 + 4 + 4 + 4 + 4 + 4 by grind]; simp only [hAF_len], rfl, by lia⟩
theorem bkSR_fault_0 : zBk mSR_fault 0 [(1, 0, 1, 0, 0), (5, 9, 7, 317, 7), (5, 4, 3, 0, 3)] = some 7 := by decide +kernel
theorem bdSR_fault_7 : decode mSR_fault.2.2.1 7 = .ok (.ireturn, 1) := by decide +kernel
theorem cSR_fault {sg : zSig}   : zG mSR_fault 411 (fun rr h' => rr = some (.int (sg 317 3)) ∧ h' = zN sg) 0 [(0, .ref 0)] [] (zN sg) := by
  refine zb_iret bkSR_fault_0 bdSR_fault_7 rfl (x := sg 317 3) (h' := zN sg) (Ps := [zOb (zN sg) 0 9 ∧ (zN sg).2.2 0 7 = true, zOb (zN sg) 317 4]) rfl (zA ⟨zob_0, rfl⟩ (zA zob_317 trivial)) rfl ?_
  exact ⟨rfl, rfl⟩
theorem bkSR_status_0 : zBk mSR_status 0 [(1, 0, 1, 0, 0), (5, 9, 10, 0, 10)] = some 4 := by decide +kernel
theorem bdSR_status_4 : decode mSR_status.2.2.1 4 = .ok (.ireturn, 1) := by decide +kernel
theorem cSR_status {sg : zSig}   : zG mSR_status 411 (fun rr h' => rr = some (.int (sg 0 10)) ∧ h' = zN sg) 0 [(0, .ref 0)] [] (zN sg) := by
  refine zb_iret bkSR_status_0 bdSR_status_4 rfl (x := sg 0 10) (h' := zN sg) (Ps := [zOb (zN sg) 0 9]) rfl (zA zob_0 trivial) rfl ?_
  exact ⟨rfl, rfl⟩
theorem bkSR_letter_0 : zBk mSR_letter 0 [(1, 0, 1, 0, 0), (5, 9, 0, 1, 0), (1, 1, 0, 0, 0)] = some 5 := by decide +kernel
theorem bkSR_letter_8 : zBk mSR_letter 8 [] = some 8 := by decide +kernel
theorem bkSR_letter_23 : zBk mSR_letter 23 [(0, 0, 0, 0, -1)] = some 24 := by decide +kernel
theorem bkSR_letter_11 : zBk mSR_letter 11 [(1, 0, 1, 0, 0), (5, 9, 0, 1, 0), (5, 5, 0, 1, 0), (1, 1, 0, 0, 0), (7, 0, 0, 0, 0), (22, 24, 0, 0, 0)] = some 24 := by decide +kernel
theorem bdSR_letter_5 : decode mSR_letter.2.2.1 5 = .ok (.invokevirtual 245, 3) := by decide +kernel
theorem bdSR_letter_8 : decode mSR_letter.2.2.1 8 = .ok (.ifCond .eq 15, 3) := by decide +kernel
theorem bdSR_letter_24 : decode mSR_letter.2.2.1 24 = .ok (.ireturn, 1) := by decide +kernel
theorem cSR_letter {sg : zSig} {i : Int32} (hn : sg 1 2 ≤ 200) : zG mSR_letter 411 (fun rr h' => rr = some (.int (if 0 ≤ i ∧ i < sg 1 2 then sg 2 i else -1)) ∧ h' = zN sg) 0 [(0, .ref 0), (1, .int i)] [] (zN sg) := by
  refine zG_run bkSR_letter_0 (lv' := [(0, .ref 0), (1, .int i)]) (st' := [.int i, .ref 1]) (h' := zN sg) (Ps := [zOb (zN sg) 0 9 ∧ (zN sg).2.2 0 0 = true]) rfl (zA ⟨zob_0, rfl⟩ trivial) ?_
  refine zG_callv (a := 1) (c := 5) (As := [.int i]) (rest := []) (N2 := 411) bdSR_letter_5 okShe_hasLetter lk9_245 (And.intro (by decide) (by decide)) (by decide) rfl rfl rfl (Nat.le_of_ble_eq_true rfl) (Nat.le_of_ble_eq_true rfl) (Nat.le_refl 411) (Nat.le_refl 411) zob_1 cShe_hasLetter ?_
  rintro rr h' ⟨rfl, rfl⟩ -
  refine zb_ifeq (tgt := 23) bkSR_letter_8 bdSR_letter_8 (by decide) (lv' := [(0, .ref 0), (1, .int i)]) (st' := []) (h' := zN sg) (x := if 0 ≤ i ∧ i < sg 1 2 then 1 else 0) (Ps := []) rfl trivial (fun c1 => ?_) (fun c1 => ?_)
  · skip
    refine zb_iret bkSR_letter_23 bdSR_letter_24 rfl (x := (-1)) (h' := zN sg) (Ps := []) rfl trivial rfl ?_
    exact ⟨by grind, rfl⟩
  · skip
    refine zb_iret bkSR_letter_11 bdSR_letter_24 rfl (x := sg 2 i) (h' := zN sg) (Ps := [zOb (zN sg) 0 9 ∧ (zN sg).2.2 0 0 = true, zOb (zN sg) 1 5 ∧ (zN sg).2.2 1 0 = true, zInL (zN sg) 2 i]) rfl (zA ⟨zob_0, rfl⟩ (zA ⟨zob_1, rfl⟩ (zA (zinL_2 (i := i) (by grind) (by grind)) trivial))) rfl ?_
    exact ⟨by grind, rfl⟩
theorem bkSR_anchor_0 : zBk mSR_anchor 0 [(1, 0, 1, 0, 0), (5, 9, 0, 1, 0), (1, 1, 0, 0, 0)] = some 5 := by decide +kernel
theorem bkSR_anchor_8 : zBk mSR_anchor 8 [] = some 8 := by decide +kernel
theorem bkSR_anchor_13 : zBk mSR_anchor 13 [(1, 2, 0, 0, 0)] = some 14 := by decide +kernel
theorem bkSR_anchor_40 : zBk mSR_anchor 40 [(1, 0, 1, 0, 0), (5, 9, 0, 1, 0), (5, 5, 5, 4, 5), (1, 1, 0, 0, 0), (9, 0, 0, 0, 0), (5, 1, 1, 0, 1)] = some 52 := by decide +kernel
theorem bkSR_anchor_53 : zBk mSR_anchor 53 [(1, 0, 1, 0, 0), (5, 9, 0, 1, 0), (5, 5, 5, 4, 5), (1, 1, 0, 0, 0), (9, 0, 0, 0, 0), (5, 1, 2, 0, 2)] = some 65 := by decide +kernel
theorem bkSR_anchor_66 : zBk mSR_anchor 66 [(1, 0, 1, 0, 0), (5, 9, 0, 1, 0), (5, 5, 5, 4, 5), (1, 1, 0, 0, 0), (9, 0, 0, 0, 0), (5, 1, 3, 0, 3)] = some 78 := by decide +kernel
theorem bkSR_anchor_79 : zBk mSR_anchor 79 [(0, 0, 0, 0, -1)] = some 80 := by decide +kernel
theorem bkSR_anchor_11 : zBk mSR_anchor 11 [(0, 0, 0, 0, -1)] = some 12 := by decide +kernel
theorem bdSR_anchor_5 : decode mSR_anchor.2.2.1 5 = .ok (.invokevirtual 210, 3) := by decide +kernel
theorem bdSR_anchor_8 : decode mSR_anchor.2.2.1 8 = .ok (.ifCond .ne 5, 3) := by decide +kernel
theorem bdSR_anchor_12 : decode mSR_anchor.2.2.1 12 = .ok (.ireturn, 1) := by decide +kernel
theorem bdSR_anchor_14 : decode mSR_anchor.2.2.1 14 = .ok (.tableswitch 65 0 2 #[26, 39, 52], 26) := by decide +kernel
theorem bdSR_anchor_52 : decode mSR_anchor.2.2.1 52 = .ok (.ireturn, 1) := by decide +kernel
theorem bdSR_anchor_65 : decode mSR_anchor.2.2.1 65 = .ok (.ireturn, 1) := by decide +kernel
theorem bdSR_anchor_78 : decode mSR_anchor.2.2.1 78 = .ok (.ireturn, 1) := by decide +kernel
theorem bdSR_anchor_80 : decode mSR_anchor.2.2.1 80 = .ok (.ireturn, 1) := by decide +kernel
theorem cSR_anchor {sg : zSig} {n w : Int32} (hn : sg 1 6 ≤ 12) : zG mSR_anchor 411 (fun rr h' => rr = some (.int (if ((0 ≤ n ∧ n < sg 1 6) ∧ sg (zel 5 n) 0 ≠ 0) ∧ 0 ≤ w ∧ w ≤ 2 then sg (zel 5 n) (w + 1) else -1)) ∧ h' = zN sg) 0 [(0, .ref 0), (1, .int n), (2, .int w)] [] (zN sg) := by
  refine zG_run bkSR_anchor_0 (lv' := [(0, .ref 0), (1, .int n), (2, .int w)]) (st' := [.int n, .ref 1]) (h' := zN sg) (Ps := [zOb (zN sg) 0 9 ∧ (zN sg).2.2 0 0 = true]) rfl (zA ⟨zob_0, rfl⟩ trivial) ?_
  refine zG_callv (a := 1) (c := 5) (As := [.int n]) (rest := []) (N2 := 411) bdSR_anchor_5 okShe_hasAnchor lk9_210 (And.intro (by decide) (by decide)) (by decide) rfl rfl rfl (Nat.le_of_ble_eq_true rfl) (Nat.le_of_ble_eq_true rfl) (Nat.le_refl 411) (Nat.le_refl 411) zob_1 (cShe_hasAnchor (by grind)) ?_
  rintro rr h' ⟨rfl, rfl⟩ -
  refine zb_ifne (tgt := 13) bkSR_anchor_8 bdSR_anchor_8 (by decide) (lv' := [(0, .ref 0), (1, .int n), (2, .int w)]) (st' := []) (h' := zN sg) (x := if (0 ≤ n ∧ n < sg 1 6) ∧ sg (zel 5 n) 0 ≠ 0 then 1 else 0) (Ps := []) rfl trivial (fun c1 => ?_) (fun c1 => ?_)
  · skip
    refine zG_run bkSR_anchor_13 (lv' := [(0, .ref 0), (1, .int n), (2, .int w)]) (st' := [.int w]) (h' := zN sg) (Ps := []) rfl trivial ?_
    by_cases w2 : w = 0
    · refine zs_tableIn (off := 26) (tgt := 40) bdSR_anchor_14 (by rw [w2]; decide) (by rw [w2]; decide) (by rw [w2]; decide) (by decide) ?_
      refine zb_iret bkSR_anchor_40 bdSR_anchor_52 rfl (x := sg (zel 5 n) 1) (h' := zN sg) (Ps := [zOb (zN sg) 0 9 ∧ (zN sg).2.2 0 0 = true, zOb (zN sg) 1 5 ∧ (zN sg).2.2 1 5 = true, zInR (zN sg) 5 n, zOb (zN sg) (zel 5 n) 1]) rfl (zA ⟨zob_0, rfl⟩ (zA ⟨zob_1, rfl⟩ (zA (zinR_5 (i := n) (by grind) (by grind)) (zA (zel_ob5 (i := n) (by grind) (by grind)) trivial)))) rfl ?_
      exact ⟨by grind, rfl⟩
    by_cases w3 : w = 1
    · refine zs_tableIn (off := 39) (tgt := 53) bdSR_anchor_14 (by rw [w3]; decide) (by rw [w3]; decide) (by rw [w3]; decide) (by decide) ?_
      refine zb_iret bkSR_anchor_53 bdSR_anchor_65 rfl (x := sg (zel 5 n) 2) (h' := zN sg) (Ps := [zOb (zN sg) 0 9 ∧ (zN sg).2.2 0 0 = true, zOb (zN sg) 1 5 ∧ (zN sg).2.2 1 5 = true, zInR (zN sg) 5 n, zOb (zN sg) (zel 5 n) 1]) rfl (zA ⟨zob_0, rfl⟩ (zA ⟨zob_1, rfl⟩ (zA (zinR_5 (i := n) (by grind) (by grind)) (zA (zel_ob5 (i := n) (by grind) (by grind)) trivial)))) rfl ?_
      exact ⟨by grind, rfl⟩
    by_cases w4 : w = 2
    · refine zs_tableIn (off := 52) (tgt := 66) bdSR_anchor_14 (by rw [w4]; decide) (by rw [w4]; decide) (by rw [w4]; decide) (by decide) ?_
      refine zb_iret bkSR_anchor_66 bdSR_anchor_78 rfl (x := sg (zel 5 n) 3) (h' := zN sg) (Ps := [zOb (zN sg) 0 9 ∧ (zN sg).2.2 0 0 = true, zOb (zN sg) 1 5 ∧ (zN sg).2.2 1 5 = true, zInR (zN sg) 5 n, zOb (zN sg) (zel 5 n) 1]) rfl (zA ⟨zob_0, rfl⟩ (zA ⟨zob_1, rfl⟩ (zA (zinR_5 (i := n) (by grind) (by grind)) (zA (zel_ob5 (i := n) (by grind) (by grind)) trivial)))) rfl ?_
      exact ⟨by grind, rfl⟩
    refine zs_tableOut (tgt := 79) bdSR_anchor_14 (zsw_out (x := w) (n := 3) (by decide) (by intro j hj; match j, hj with | 0, _ => exact w2 | 1, _ => exact w3 | 2, _ => exact w4)) (by decide) ?_
    refine zb_iret bkSR_anchor_79 bdSR_anchor_80 rfl (x := (-1)) (h' := zN sg) (Ps := []) rfl trivial rfl ?_
    exact ⟨by grind, rfl⟩
  · skip
    refine zb_iret bkSR_anchor_11 bdSR_anchor_12 rfl (x := (-1)) (h' := zN sg) (Ps := []) rfl trivial rfl ?_
    exact ⟨by grind, rfl⟩
theorem bkSR_follow_0 : zBk mSR_follow 0 [(1, 0, 1, 0, 0), (5, 9, 0, 1, 0), (1, 1, 0, 0, 0)] = some 5 := by decide +kernel
theorem bkSR_follow_8 : zBk mSR_follow 8 [] = some 8 := by decide +kernel
theorem bkSR_follow_19 : zBk mSR_follow 19 [(0, 0, 0, 0, -1)] = some 20 := by decide +kernel
theorem bkSR_follow_11 : zBk mSR_follow 11 [(1, 2, 0, 0, 0), (0, 0, 0, 0, 1)] = some 13 := by decide +kernel
theorem bkSR_follow_16 : zBk mSR_follow 16 [] = some 16 := by decide +kernel
theorem bkSR_follow_21 : zBk mSR_follow 21 [(1, 5, 0, 0, 0)] = some 23 := by decide +kernel
theorem bkSR_follow_76 : zBk mSR_follow 76 [(1, 0, 1, 0, 0), (5, 9, 0, 1, 0), (1, 3, 0, 0, 0), (1, 4, 0, 0, 0)] = some 83 := by decide +kernel
theorem bkSR_follow_86 : zBk mSR_follow 86 [] = some 86 := by decide +kernel
theorem bkSR_follow_99 : zBk mSR_follow 99 [(0, 0, 0, 0, -1)] = some 100 := by decide +kernel
theorem bkSR_follow_89 : zBk mSR_follow 89 [(1, 1, 0, 0, 0), (1, 3, 0, 0, 0), (1, 4, 0, 0, 0)] = some 93 := by decide +kernel
theorem bkSR_follow_96 : zBk mSR_follow 96 [(22, 100, 0, 0, 0)] = some 100 := by decide +kernel
theorem bkSR_follow_26 : zBk mSR_follow 26 [(1, 0, 1, 0, 0), (5, 9, 0, 1, 0), (1, 3, 0, 0, 0)] = some 31 := by decide +kernel
theorem bkSR_follow_34 : zBk mSR_follow 34 [] = some 34 := by decide +kernel
theorem bkSR_follow_55 : zBk mSR_follow 55 [(0, 0, 0, 0, 0), (2, 6, 0, 0, 0), (1, 6, 0, 0, 0)] = some 60 := by decide +kernel
theorem bkSR_follow_74 : zBk mSR_follow 74 [(0, 0, 0, 0, -1)] = some 75 := by decide +kernel
theorem bkSR_follow_37 : zBk mSR_follow 37 [(1, 4, 0, 0, 0), (0, 0, 0, 0, 1)] = some 40 := by decide +kernel
theorem bkSR_follow_43 : zBk mSR_follow 43 [(1, 4, 0, 0, 0), (0, 0, 0, 0, 200)] = some 48 := by decide +kernel
theorem bkSR_follow_51 : zBk mSR_follow 51 [(0, 0, 0, 0, 1), (22, 56, 0, 0, 0), (2, 6, 0, 0, 0), (1, 6, 0, 0, 0)] = some 60 := by decide +kernel
theorem bkSR_follow_63 : zBk mSR_follow 63 [(1, 1, 0, 0, 0), (1, 2, 0, 0, 0), (1, 3, 0, 0, 0), (1, 4, 0, 0, 0)] = some 68 := by decide +kernel
theorem bkSR_follow_71 : zBk mSR_follow 71 [(22, 75, 0, 0, 0)] = some 75 := by decide +kernel
theorem bdSR_follow_5 : decode mSR_follow.2.2.1 5 = .ok (.invokevirtual 85, 3) := by decide +kernel
theorem bdSR_follow_8 : decode mSR_follow.2.2.1 8 = .ok (.ifCond .eq 11, 3) := by decide +kernel
theorem bdSR_follow_13 : decode mSR_follow.2.2.1 13 = .ok (.invokestatic 126, 3) := by decide +kernel
theorem bdSR_follow_16 : decode mSR_follow.2.2.1 16 = .ok (.ifCond .ne 5, 3) := by decide +kernel
theorem bdSR_follow_20 : decode mSR_follow.2.2.1 20 = .ok (.ireturn, 1) := by decide +kernel
theorem bdSR_follow_23 : decode mSR_follow.2.2.1 23 = .ok (.ifCond .eq 53, 3) := by decide +kernel
theorem bdSR_follow_31 : decode mSR_follow.2.2.1 31 = .ok (.invokevirtual 85, 3) := by decide +kernel
theorem bdSR_follow_34 : decode mSR_follow.2.2.1 34 = .ok (.ifCond .eq 21, 3) := by decide +kernel
theorem bdSR_follow_40 : decode mSR_follow.2.2.1 40 = .ok (.if_icmp .lt 15, 3) := by decide +kernel
theorem bdSR_follow_48 : decode mSR_follow.2.2.1 48 = .ok (.if_icmp .gt 7, 3) := by decide +kernel
theorem bdSR_follow_60 : decode mSR_follow.2.2.1 60 = .ok (.ifCond .eq 14, 3) := by decide +kernel
theorem bdSR_follow_68 : decode mSR_follow.2.2.1 68 = .ok (.invokestatic 292, 3) := by decide +kernel
theorem bdSR_follow_75 : decode mSR_follow.2.2.1 75 = .ok (.ireturn, 1) := by decide +kernel
theorem bdSR_follow_83 : decode mSR_follow.2.2.1 83 = .ok (.invokevirtual 114, 3) := by decide +kernel
theorem bdSR_follow_86 : decode mSR_follow.2.2.1 86 = .ok (.ifCond .eq 13, 3) := by decide +kernel
theorem bdSR_follow_93 : decode mSR_follow.2.2.1 93 = .ok (.invokestatic 298, 3) := by decide +kernel
theorem bdSR_follow_100 : decode mSR_follow.2.2.1 100 = .ok (.ireturn, 1) := by decide +kernel
theorem cSR_follow {sg : zSig} {x l p q b : Int32}  : zG mSR_follow 411 (fun rr h' => rr = some (.int (if (0 ≤ x ∧ x ≤ sg 1 2) ∧ (0 ≤ l ∧ l ≤ 1) then (if b ≠ 0 then (if (0 ≤ p ∧ p ≤ sg 1 2) ∧ 1 ≤ q ∧ q ≤ 200 then pOn x l p q else -1) else (if 0 ≤ p ∧ p < q ∧ q ≤ sg 1 2 then pBk x p q else -1)) else -1)) ∧ h' = zN sg) 0 [(0, .ref 0), (1, .int x), (2, .int l), (3, .int p), (4, .int q), (5, .int b)] [] (zN sg) := by
  refine zG_run bkSR_follow_0 (lv' := [(0, .ref 0), (1, .int x), (2, .int l), (3, .int p), (4, .int q), (5, .int b)]) (st' := [.int x, .ref 1]) (h' := zN sg) (Ps := [zOb (zN sg) 0 9 ∧ (zN sg).2.2 0 0 = true]) rfl (zA ⟨zob_0, rfl⟩ trivial) ?_
  refine zG_callv (a := 1) (c := 5) (As := [.int x]) (rest := []) (N2 := 411) bdSR_follow_5 okShe_hasPlace lk9_85 (And.intro (by decide) (by decide)) (by decide) rfl rfl rfl (Nat.le_of_ble_eq_true rfl) (Nat.le_of_ble_eq_true rfl) (Nat.le_refl 411) (Nat.le_refl 411) zob_1 (cShe_hasPlace zob_1) ?_
  rintro rr h' ⟨rfl, rfl⟩ -
  refine zb_ifeq (tgt := 19) bkSR_follow_8 bdSR_follow_8 (by decide) (lv' := [(0, .ref 0), (1, .int x), (2, .int l), (3, .int p), (4, .int q), (5, .int b)]) (st' := []) (h' := zN sg) (x := if 0 ≤ x ∧ x ≤ sg 1 2 then 1 else 0) (Ps := []) rfl trivial (fun c1 => ?_) (fun c1 => ?_)
  · skip
    refine zb_iret bkSR_follow_19 bdSR_follow_20 rfl (x := (-1)) (h' := zN sg) (Ps := []) rfl trivial rfl ?_
    exact ⟨by grind, rfl⟩
  · skip
    refine zG_run bkSR_follow_11 (lv' := [(0, .ref 0), (1, .int x), (2, .int l), (3, .int p), (4, .int q), (5, .int b)]) (st' := [.int 1, .int l]) (h' := zN sg) (Ps := []) rfl trivial ?_
    refine zG_calls (As := [.int l, .int 1]) (rest := []) (N2 := 411) bdSR_follow_13 okSR_isWithin lk9_126 (And.intro (by decide) (by decide)) rfl rfl (Nat.le_of_ble_eq_true rfl) (Nat.le_of_ble_eq_true rfl) (Nat.le_refl 411) (Nat.le_refl 411) cSR_isWithin ?_
    rintro rr h' ⟨rfl, rfl⟩ -
    refine zb_ifne (tgt := 21) bkSR_follow_16 bdSR_follow_16 (by decide) (lv' := [(0, .ref 0), (1, .int x), (2, .int l), (3, .int p), (4, .int q), (5, .int b)]) (st' := []) (h' := zN sg) (x := if 0 ≤ l ∧ l ≤ 1 then 1 else 0) (Ps := []) rfl trivial (fun c2 => ?_) (fun c2 => ?_)
    · skip
      refine zb_ifeq (tgt := 76) bkSR_follow_21 bdSR_follow_23 (by decide) (lv' := [(0, .ref 0), (1, .int x), (2, .int l), (3, .int p), (4, .int q), (5, .int b)]) (st' := []) (h' := zN sg) (x := b) (Ps := []) rfl trivial (fun c3 => ?_) (fun c3 => ?_)
      · skip
        refine zG_run bkSR_follow_76 (lv' := [(0, .ref 0), (1, .int x), (2, .int l), (3, .int p), (4, .int q), (5, .int b)]) (st' := [.int q, .int p, .ref 1]) (h' := zN sg) (Ps := [zOb (zN sg) 0 9 ∧ (zN sg).2.2 0 0 = true]) rfl (zA ⟨zob_0, rfl⟩ trivial) ?_
        refine zG_callv (a := 1) (c := 5) (As := [.int p, .int q]) (rest := []) (N2 := 411) bdSR_follow_83 okShe_isRange lk9_114 (And.intro (by decide) (by decide)) (by decide) rfl rfl rfl (Nat.le_of_ble_eq_true rfl) (Nat.le_of_ble_eq_true rfl) (Nat.le_refl 411) (Nat.le_refl 411) zob_1 cShe_isRange ?_
        rintro rr h' ⟨rfl, rfl⟩ -
        refine zb_ifeq (tgt := 99) bkSR_follow_86 bdSR_follow_86 (by decide) (lv' := [(0, .ref 0), (1, .int x), (2, .int l), (3, .int p), (4, .int q), (5, .int b)]) (st' := []) (h' := zN sg) (x := if 0 ≤ p ∧ p < q ∧ q ≤ sg 1 2 then 1 else 0) (Ps := []) rfl trivial (fun c4 => ?_) (fun c4 => ?_)
        · skip
          refine zb_iret bkSR_follow_99 bdSR_follow_100 rfl (x := (-1)) (h' := zN sg) (Ps := []) rfl trivial rfl ?_
          exact ⟨by grind, rfl⟩
        · skip
          refine zG_run bkSR_follow_89 (lv' := [(0, .ref 0), (1, .int x), (2, .int l), (3, .int p), (4, .int q), (5, .int b)]) (st' := [.int q, .int p, .int x]) (h' := zN sg) (Ps := []) rfl trivial ?_
          refine zG_calls (As := [.int x, .int p, .int q]) (rest := []) (N2 := 411) bdSR_follow_93 okPla_afterGoing lk9_298 (And.intro (by decide) (by decide)) rfl rfl (Nat.le_of_ble_eq_true rfl) (Nat.le_of_ble_eq_true rfl) (Nat.le_refl 411) (Nat.le_refl 411) cPla_afterGoing ?_
          rintro rr h' ⟨rfl, rfl⟩ -
          refine zb_iret bkSR_follow_96 bdSR_follow_100 rfl (x := pBk x p q) (h' := zN sg) (Ps := []) rfl trivial rfl ?_
          exact ⟨by grind, rfl⟩
      · skip
        refine zG_run bkSR_follow_26 (lv' := [(0, .ref 0), (1, .int x), (2, .int l), (3, .int p), (4, .int q), (5, .int b)]) (st' := [.int p, .ref 1]) (h' := zN sg) (Ps := [zOb (zN sg) 0 9 ∧ (zN sg).2.2 0 0 = true]) rfl (zA ⟨zob_0, rfl⟩ trivial) ?_
        refine zG_callv (a := 1) (c := 5) (As := [.int p]) (rest := []) (N2 := 411) bdSR_follow_31 okShe_hasPlace lk9_85 (And.intro (by decide) (by decide)) (by decide) rfl rfl rfl (Nat.le_of_ble_eq_true rfl) (Nat.le_of_ble_eq_true rfl) (Nat.le_refl 411) (Nat.le_refl 411) zob_1 (cShe_hasPlace zob_1) ?_
        rintro rr h' ⟨rfl, rfl⟩ -
        refine zb_ifeq (tgt := 55) bkSR_follow_34 bdSR_follow_34 (by decide) (lv' := [(0, .ref 0), (1, .int x), (2, .int l), (3, .int p), (4, .int q), (5, .int b)]) (st' := []) (h' := zN sg) (x := if 0 ≤ p ∧ p ≤ sg 1 2 then 1 else 0) (Ps := []) rfl trivial (fun c5 => ?_) (fun c5 => ?_)
        · skip
          refine zb_ifeq (tgt := 74) bkSR_follow_55 bdSR_follow_60 (by decide) (lv' := [(6, .int 0), (0, .ref 0), (1, .int x), (2, .int l), (3, .int p), (4, .int q), (5, .int b)]) (st' := []) (h' := zN sg) (x := 0) (Ps := []) rfl trivial (fun c6 => ?_) (fun c6 => ?_)
          · skip
            refine zb_iret bkSR_follow_74 bdSR_follow_75 rfl (x := (-1)) (h' := zN sg) (Ps := []) rfl trivial rfl ?_
            exact ⟨by grind, rfl⟩
          · exact absurd c6 (by decide)
        · skip
          refine zb_iclt (tgt := 55) bkSR_follow_37 bdSR_follow_40 (by decide) (lv' := [(0, .ref 0), (1, .int x), (2, .int l), (3, .int p), (4, .int q), (5, .int b)]) (st' := []) (h' := zN sg) (x := q) (y := 1) (Ps := []) rfl trivial (fun c7 => ?_) (fun c7 => ?_)
          · skip
            refine zb_ifeq (tgt := 74) bkSR_follow_55 bdSR_follow_60 (by decide) (lv' := [(6, .int 0), (0, .ref 0), (1, .int x), (2, .int l), (3, .int p), (4, .int q), (5, .int b)]) (st' := []) (h' := zN sg) (x := 0) (Ps := []) rfl trivial (fun c8 => ?_) (fun c8 => ?_)
            · skip
              refine zb_iret bkSR_follow_74 bdSR_follow_75 rfl (x := (-1)) (h' := zN sg) (Ps := []) rfl trivial rfl ?_
              exact ⟨by grind, rfl⟩
            · exact absurd c8 (by decide)
          · skip
            refine zb_icgt (tgt := 55) bkSR_follow_43 bdSR_follow_48 (by decide) (lv' := [(0, .ref 0), (1, .int x), (2, .int l), (3, .int p), (4, .int q), (5, .int b)]) (st' := []) (h' := zN sg) (x := q) (y := 200) (Ps := []) rfl trivial (fun c9 => ?_) (fun c9 => ?_)
            · skip
              refine zb_ifeq (tgt := 74) bkSR_follow_55 bdSR_follow_60 (by decide) (lv' := [(6, .int 0), (0, .ref 0), (1, .int x), (2, .int l), (3, .int p), (4, .int q), (5, .int b)]) (st' := []) (h' := zN sg) (x := 0) (Ps := []) rfl trivial (fun c10 => ?_) (fun c10 => ?_)
              · skip
                refine zb_iret bkSR_follow_74 bdSR_follow_75 rfl (x := (-1)) (h' := zN sg) (Ps := []) rfl trivial rfl ?_
                exact ⟨by grind, rfl⟩
              · exact absurd c10 (by decide)
            · skip
              refine zb_ifeq (tgt := 74) bkSR_follow_51 bdSR_follow_60 (by decide) (lv' := [(6, .int 1), (0, .ref 0), (1, .int x), (2, .int l), (3, .int p), (4, .int q), (5, .int b)]) (st' := []) (h' := zN sg) (x := 1) (Ps := []) rfl trivial (fun c11 => ?_) (fun c11 => ?_)
              · exact absurd c11 (by decide)
              · skip
                refine zG_run bkSR_follow_63 (lv' := [(6, .int 1), (0, .ref 0), (1, .int x), (2, .int l), (3, .int p), (4, .int q), (5, .int b)]) (st' := [.int q, .int p, .int l, .int x]) (h' := zN sg) (Ps := []) rfl trivial ?_
                refine zG_calls (As := [.int x, .int l, .int p, .int q]) (rest := []) (N2 := 411) bdSR_follow_68 okPla_afterComing lk9_292 (And.intro (by decide) (by decide)) rfl rfl (Nat.le_of_ble_eq_true rfl) (Nat.le_of_ble_eq_true rfl) (Nat.le_refl 411) (Nat.le_refl 411) cPla_afterComing ?_
                rintro rr h' ⟨rfl, rfl⟩ -
                refine zb_iret bkSR_follow_71 bdSR_follow_75 rfl (x := pOn x l p q) (h' := zN sg) (Ps := []) rfl trivial rfl ?_
                exact ⟨by grind, rfl⟩
    · skip
      refine zb_iret bkSR_follow_19 bdSR_follow_20 rfl (x := (-1)) (h' := zN sg) (Ps := []) rfl trivial rfl ?_
      exact ⟨by grind, rfl⟩
