/-! acts that are kept: printed by wip/whole/p22.py -/
def fFm (x y : Int32) : Int32 := if x ^^^ y < 0 ∧ x - x / y * y ≠ 0 then x - x / y * y + y else x - x / y * y
theorem fFm_8 {x : Int32} (h0 : -8 ≤ x) (h1 : x < 8) : fFm x 8 = if x < 0 then x + 8 else x := by
  have h : x = -8 ∨ x = -7 ∨ x = -6 ∨ x = -5 ∨ x = -4 ∨ x = -3 ∨ x = -2 ∨ x = -1 ∨ x = 0 ∨ x = 1 ∨ x = 2 ∨ x = 3 ∨ x = 4 ∨ x = 5 ∨ x = 6 ∨ x = 7 := by lia
  rcases h with rfl | rfl | rfl | rfl | rfl | rfl | rfl | rfl | rfl | rfl | rfl | rfl | rfl | rfl | rfl | rfl <;> decide
theorem zrem_8 {x : Int32} (h0 : 0 ≤ x) (h1 : x < 9) : x - x / 8 * 8 = if x = 8 then 0 else x := by
  have h : x = 0 ∨ x = 1 ∨ x = 2 ∨ x = 3 ∨ x = 4 ∨ x = 5 ∨ x = 6 ∨ x = 7 ∨ x = 8 := by lia
  rcases h with rfl | rfl | rfl | rfl | rfl | rfl | rfl | rfl | rfl <;> decide
/-- the ring's place of the n-th act from behind -/
def hL (sg : zSig) (n : Int32) : Int32 := if sg 36 2 - n < 0 then sg 36 2 - n + 8 else sg 36 2 - n
theorem zel37_s {i : Int32} (h0 : 0 ≤ i) (h1 : i < 8) : iSh (zel 37 i) := by
  obtain ⟨j, hj, rfl, he⟩ := zel_37 h0 h1
  rw [he]; exact iSh_h j hj
theorem zel37_rng {i : Int32} (h0 : 0 ≤ i) (h1 : i < 8) : 39 ≤ zel 37 i ∧ zel 37 i + 33 ≤ 311 ∧ zel 38 i = zel 37 i + 33 := by
  obtain ⟨j, hj, hi, he⟩ := zel_37 h0 h1
  obtain ⟨j', hj', hi', he'⟩ := zel_38 h0 h1
  have : j = j' := (nI_eq (by omega) (by omega)).mp (hi.symm.trans hi')
  subst this
  rw [he, he']; omega
theorem zel311_s {i : Int32} (h0 : 0 ≤ i) (h1 : i < 2) : iSh (zel 311 i) := by
  obtain ⟨j, hj, rfl, he⟩ := zel_311 h0 h1
  rw [he]; exact iSh_i j hj
theorem zel311_rng {i : Int32} (h0 : 0 ≤ i) (h1 : i < 2) : 327 ≤ zel 311 i ∧ zel 311 i + 33 ≤ 393 := by
  obtain ⟨j, hj, hi, he⟩ := zel_311 h0 h1
  rw [he]; omega
def fAct (sg : zSig) (a : Nat) (x l : Int32) : Int32 := if sg a 0 = 0 then pOn x l (sg a 1) (sg a 2) else if sg a 0 = 1 then pBk x (sg a 1) (sg a 2) else if sg a 0 = 2 then pMv x l (sg a 1) (sg a 2) (sg a 3) else if sg a 0 = 12 then pSw x l (sg a 1) (sg a 2) (sg a 3) else x
theorem bkMa_floorMod_0 : zBk mMa_floorMod 0 [(1, 0, 0, 0, 0), (1, 1, 0, 0, 0), (4, 10, 0, 0, 0), (2, 2, 0, 0, 0), (1, 0, 0, 0, 0), (1, 1, 0, 0, 0), (4, 5, 0, 0, 0)] = some 7 := by decide +kernel
theorem bkMa_floorMod_18 : zBk mMa_floorMod 18 [(1, 2, 0, 0, 0)] = some 19 := by decide +kernel
theorem bkMa_floorMod_10 : zBk mMa_floorMod 10 [(1, 2, 0, 0, 0)] = some 11 := by decide +kernel
theorem bkMa_floorMod_14 : zBk mMa_floorMod 14 [(1, 2, 0, 0, 0), (1, 1, 0, 0, 0), (4, 0, 0, 0, 0)] = some 17 := by decide +kernel
theorem bdMa_floorMod_7 : decode mMa_floorMod.2.2.1 7 = .ok (.ifCond .ge 11, 3) := by decide +kernel
theorem bdMa_floorMod_11 : decode mMa_floorMod.2.2.1 11 = .ok (.ifCond .eq 7, 3) := by decide +kernel
theorem bdMa_floorMod_17 : decode mMa_floorMod.2.2.1 17 = .ok (.ireturn, 1) := by decide +kernel
theorem bdMa_floorMod_19 : decode mMa_floorMod.2.2.1 19 = .ok (.ireturn, 1) := by decide +kernel
theorem cMa_floorMod {sg : zSig} {x y : Int32} (hy : ¬ y = 0) : zG mMa_floorMod 411 (fun rr h' => rr = some (.int (fFm x y)) ∧ h' = zN sg) 0 [(0, .int x), (1, .int y)] [] (zN sg) := by
  refine zb_ifge (tgt := 18) bkMa_floorMod_0 bdMa_floorMod_7 (by decide) (lv' := [(2, .int (x - x / y * y)), (0, .int x), (1, .int y)]) (st' := []) (h' := zN sg) (x := x ^^^ y) (Ps := [¬ (y : Int32) = 0]) rfl (zA hy trivial) (fun c1 => ?_) (fun c1 => ?_)
  · skip
    refine zb_iret bkMa_floorMod_18 bdMa_floorMod_19 rfl (x := x - x / y * y) (h' := zN sg) (Ps := []) rfl trivial rfl ?_
    exact ⟨by unfold fFm; first | rw [if_pos (by lia)] | rw [if_neg (by lia)], rfl⟩
  · skip
    refine zb_ifeq (tgt := 18) bkMa_floorMod_10 bdMa_floorMod_11 (by decide) (lv' := [(2, .int (x - x / y * y)), (0, .int x), (1, .int y)]) (st' := []) (h' := zN sg) (x := x - x / y * y) (Ps := []) rfl trivial (fun c2 => ?_) (fun c2 => ?_)
    · skip
      refine zb_iret bkMa_floorMod_18 bdMa_floorMod_19 rfl (x := x - x / y * y) (h' := zN sg) (Ps := []) rfl trivial rfl ?_
      exact ⟨by unfold fFm; first | rw [if_pos (by lia)] | rw [if_neg (by lia)], rfl⟩
    · skip
      refine zb_iret bkMa_floorMod_14 bdMa_floorMod_17 rfl (x := (x - x / y * y) + y) (h' := zN sg) (Ps := []) rfl trivial rfl ?_
      exact ⟨by unfold fFm; first | rw [if_pos (by lia)] | rw [if_neg (by lia)], rfl⟩
theorem bkHis_latest_0 : zBk mHis_latest 0 [(1, 0, 1, 0, 0), (5, 2, 2, 0, 2), (1, 1, 0, 0, 0), (4, 1, 0, 0, 0), (0, 0, 0, 0, 8)] = some 8 := by decide +kernel
theorem bkHis_latest_11 : zBk mHis_latest 11 [] = some 11 := by decide +kernel
theorem bdHis_latest_8 : decode mHis_latest.2.2.1 8 = .ok (.invokestatic 52, 3) := by decide +kernel
theorem bdHis_latest_11 : decode mHis_latest.2.2.1 11 = .ok (.ireturn, 1) := by decide +kernel
theorem cHis_latest {sg : zSig} {n : Int32} (h0 : 0 ≤ sg 36 2) (h1 : sg 36 2 < 8) (n0 : 0 ≤ n) (n1 : n ≤ 8) : zG mHis_latest 411 (fun rr h' => rr = some (.int (hL sg n)) ∧ h' = zN sg) 0 [(0, .ref 36), (1, .int n)] [] (zN sg) := by
  refine zG_run bkHis_latest_0 (lv' := [(0, .ref 36), (1, .int n)]) (st' := [.int 8, .int ((sg 36 2) - n)]) (h' := zN sg) (Ps := [zOb (zN sg) 36 2]) rfl (zA zob_36 trivial) ?_
  refine zG_calls (As := [.int ((sg 36 2) - n), .int 8]) (rest := []) (N2 := 411) bdHis_latest_8 okMa_floorMod lk2_52 (And.intro (by decide) (by decide)) rfl rfl (Nat.le_of_ble_eq_true rfl) (Nat.le_of_ble_eq_true rfl) (Nat.le_refl 411) (Nat.le_refl 411) (cMa_floorMod (by decide)) ?_
  rintro rr h' ⟨rfl, rfl⟩ -
  refine zb_iret bkHis_latest_11 bdHis_latest_11 rfl (x := fFm ((sg 36 2) - n) 8) (h' := zN sg) (Ps := []) rfl trivial rfl ?_
  exact ⟨by unfold hL; rw [fFm_8 (by lia) (by lia)], rfl⟩
theorem bkAct_follows_0 : zBk mAct_follows 0 [(1, 0, 1, 0, 0), (5, 0, 0, 0, 0)] = some 4 := by decide +kernel
theorem bkAct_follows_48 : zBk mAct_follows 48 [(1, 1, 0, 0, 0), (1, 2, 0, 0, 0), (1, 0, 1, 0, 0), (5, 0, 1, 0, 1), (1, 0, 1, 0, 0), (5, 0, 2, 0, 2)] = some 58 := by decide +kernel
theorem bkAct_follows_61 : zBk mAct_follows 61 [] = some 61 := by decide +kernel
theorem bkAct_follows_62 : zBk mAct_follows 62 [(1, 1, 0, 0, 0), (1, 0, 1, 0, 0), (5, 0, 1, 0, 1), (1, 0, 1, 0, 0), (5, 0, 2, 0, 2)] = some 71 := by decide +kernel
theorem bkAct_follows_74 : zBk mAct_follows 74 [] = some 74 := by decide +kernel
theorem bkAct_follows_75 : zBk mAct_follows 75 [(1, 1, 0, 0, 0), (1, 2, 0, 0, 0), (1, 0, 1, 0, 0), (5, 0, 1, 0, 1), (1, 0, 1, 0, 0), (5, 0, 2, 0, 2), (1, 0, 1, 0, 0), (5, 0, 3, 0, 3)] = some 89 := by decide +kernel
theorem bkAct_follows_92 : zBk mAct_follows 92 [] = some 92 := by decide +kernel
theorem bkAct_follows_93 : zBk mAct_follows 93 [(1, 1, 0, 0, 0), (1, 2, 0, 0, 0), (1, 0, 1, 0, 0), (5, 0, 1, 0, 1), (1, 0, 1, 0, 0), (5, 0, 2, 0, 2), (1, 0, 1, 0, 0), (5, 0, 3, 0, 3)] = some 107 := by decide +kernel
theorem bkAct_follows_110 : zBk mAct_follows 110 [] = some 110 := by decide +kernel
theorem bkAct_follows_111 : zBk mAct_follows 111 [(1, 1, 0, 0, 0)] = some 112 := by decide +kernel
theorem bdAct_follows_4 : decode mAct_follows.2.2.1 4 = .ok (.lookupswitch 107 #[(0, 44), (1, 58), (2, 71), (12, 89)], 44) := by decide +kernel
theorem bdAct_follows_58 : decode mAct_follows.2.2.1 58 = .ok (.invokestatic 24, 3) := by decide +kernel
theorem bdAct_follows_61 : decode mAct_follows.2.2.1 61 = .ok (.ireturn, 1) := by decide +kernel
theorem bdAct_follows_71 : decode mAct_follows.2.2.1 71 = .ok (.invokestatic 30, 3) := by decide +kernel
theorem bdAct_follows_74 : decode mAct_follows.2.2.1 74 = .ok (.ireturn, 1) := by decide +kernel
theorem bdAct_follows_89 : decode mAct_follows.2.2.1 89 = .ok (.invokestatic 34, 3) := by decide +kernel
theorem bdAct_follows_92 : decode mAct_follows.2.2.1 92 = .ok (.ireturn, 1) := by decide +kernel
theorem bdAct_follows_107 : decode mAct_follows.2.2.1 107 = .ok (.invokestatic 38, 3) := by decide +kernel
theorem bdAct_follows_110 : decode mAct_follows.2.2.1 110 = .ok (.ireturn, 1) := by decide +kernel
theorem bdAct_follows_112 : decode mAct_follows.2.2.1 112 = .ok (.ireturn, 1) := by decide +kernel
theorem cAct_follows {sg : zSig} {a : Nat} {x l : Int32} (ha : zOb (zN sg) a 0)  : zG mAct_follows 411 (fun rr h' => rr = some (.int (fAct sg a x l)) ∧ h' = zN sg) 0 [(0, .ref a), (1, .int x), (2, .int l)] [] (zN sg) := by
  refine zG_run bkAct_follows_0 (lv' := [(0, .ref a), (1, .int x), (2, .int l)]) (st' := [.int (sg a 0)]) (h' := zN sg) (Ps := [zOb (zN sg) a 0]) rfl (zA ha trivial) ?_
  by_cases w1 : sg a 0 = 0
  · refine zs_lookup (off := 44) (tgt := 48) bdAct_follows_4 (by decide) (by rw [w1]; decide) (by decide) ?_
    refine zG_run bkAct_follows_48 (lv' := [(0, .ref a), (1, .int x), (2, .int l)]) (st' := [.int (sg a 2), .int (sg a 1), .int l, .int x]) (h' := zN sg) (Ps := [zOb (zN sg) a 0, zOb (zN sg) a 0]) rfl (zA ha (zA ha trivial)) ?_
    refine zG_calls (As := [.int x, .int l, .int (sg a 1), .int (sg a 2)]) (rest := []) (N2 := 411) bdAct_follows_58 okPla_afterComing lk0_24 (And.intro (by decide) (by decide)) rfl rfl (Nat.le_of_ble_eq_true rfl) (Nat.le_of_ble_eq_true rfl) (Nat.le_refl 411) (Nat.le_refl 411) cPla_afterComing ?_
    rintro rr h' ⟨rfl, rfl⟩ -
    refine zb_iret bkAct_follows_61 bdAct_follows_61 rfl (x := pOn x l (sg a 1) (sg a 2)) (h' := zN sg) (Ps := []) rfl trivial rfl ?_
    exact ⟨by unfold fAct; simp [*], rfl⟩
  by_cases w2 : sg a 0 = 1
  · refine zs_lookup (off := 58) (tgt := 62) bdAct_follows_4 (by decide) (by rw [w2]; decide) (by decide) ?_
    refine zG_run bkAct_follows_62 (lv' := [(0, .ref a), (1, .int x), (2, .int l)]) (st' := [.int (sg a 2), .int (sg a 1), .int x]) (h' := zN sg) (Ps := [zOb (zN sg) a 0, zOb (zN sg) a 0]) rfl (zA ha (zA ha trivial)) ?_
    refine zG_calls (As := [.int x, .int (sg a 1), .int (sg a 2)]) (rest := []) (N2 := 411) bdAct_follows_71 okPla_afterGoing lk0_30 (And.intro (by decide) (by decide)) rfl rfl (Nat.le_of_ble_eq_true rfl) (Nat.le_of_ble_eq_true rfl) (Nat.le_refl 411) (Nat.le_refl 411) cPla_afterGoing ?_
    rintro rr h' ⟨rfl, rfl⟩ -
    refine zb_iret bkAct_follows_74 bdAct_follows_74 rfl (x := pBk x (sg a 1) (sg a 2)) (h' := zN sg) (Ps := []) rfl trivial rfl ?_
    exact ⟨by unfold fAct; simp [*], rfl⟩
  by_cases w3 : sg a 0 = 2
  · refine zs_lookup (off := 71) (tgt := 75) bdAct_follows_4 (by decide) (by rw [w3]; decide) (by decide) ?_
    refine zG_run bkAct_follows_75 (lv' := [(0, .ref a), (1, .int x), (2, .int l)]) (st' := [.int (sg a 3), .int (sg a 2), .int (sg a 1), .int l, .int x]) (h' := zN sg) (Ps := [zOb (zN sg) a 0, zOb (zN sg) a 0, zOb (zN sg) a 0]) rfl (zA ha (zA ha (zA ha trivial))) ?_
    refine zG_calls (As := [.int x, .int l, .int (sg a 1), .int (sg a 2), .int (sg a 3)]) (rest := []) (N2 := 411) bdAct_follows_89 okPla_afterMove lk0_34 (And.intro (by decide) (by decide)) rfl rfl (Nat.le_of_ble_eq_true rfl) (Nat.le_of_ble_eq_true rfl) (Nat.le_refl 411) (Nat.le_refl 411) cPla_afterMove ?_
    rintro rr h' ⟨rfl, rfl⟩ -
    refine zb_iret bkAct_follows_92 bdAct_follows_92 rfl (x := pMv x l (sg a 1) (sg a 2) (sg a 3)) (h' := zN sg) (Ps := []) rfl trivial rfl ?_
    exact ⟨by unfold fAct; simp [*], rfl⟩
  by_cases w4 : sg a 0 = 12
  · refine zs_lookup (off := 89) (tgt := 93) bdAct_follows_4 (by decide) (by rw [w4]; decide) (by decide) ?_
    refine zG_run bkAct_follows_93 (lv' := [(0, .ref a), (1, .int x), (2, .int l)]) (st' := [.int (sg a 3), .int (sg a 2), .int (sg a 1), .int l, .int x]) (h' := zN sg) (Ps := [zOb (zN sg) a 0, zOb (zN sg) a 0, zOb (zN sg) a 0]) rfl (zA ha (zA ha (zA ha trivial))) ?_
    refine zG_calls (As := [.int x, .int l, .int (sg a 1), .int (sg a 2), .int (sg a 3)]) (rest := []) (N2 := 411) bdAct_follows_107 okPla_afterSwap lk0_38 (And.intro (by decide) (by decide)) rfl rfl (Nat.le_of_ble_eq_true rfl) (Nat.le_of_ble_eq_true rfl) (Nat.le_refl 411) (Nat.le_refl 411) cPla_afterSwap ?_
    rintro rr h' ⟨rfl, rfl⟩ -
    refine zb_iret bkAct_follows_110 bdAct_follows_110 rfl (x := pSw x l (sg a 1) (sg a 2) (sg a 3)) (h' := zN sg) (Ps := []) rfl trivial rfl ?_
    exact ⟨by unfold fAct; simp [*], rfl⟩
  refine zs_lookup (off := 107) (tgt := 111) bdAct_follows_4 (by decide) (by show Op.lookupswitch.offset [(0, 44), (1, 58), (2, 71), (12, 89)] 107 _ = _; rw [lv_osw (k := 0) w1 (by decide), lv_osw (k := 1) w2 (by decide), lv_osw (k := 2) w3 (by decide), lv_osw (k := 12) w4 (by decide)]; rfl) (by decide) ?_
  refine zb_iret bkAct_follows_111 bdAct_follows_112 rfl (x := x) (h' := zN sg) (Ps := []) rfl trivial rfl ?_
  exact ⟨by unfold fAct; simp [*], rfl⟩
/-- sheet a's contents are what sheet b's were -/
def hSC (sg sg' : zSig) (a b : Nat) : Prop := sg' a 2 = sg b 2 ∧ (∀ j, 0 ≤ j → j < sg b 2 → sg' (a + 1) j = sg (b + 1) j ∧ sg' (a + 2) j = sg (b + 2) j) ∧ sg' a 4 = sg b 4 ∧ (∀ k f, 0 ≤ k → k < sg b 4 → 0 ≤ f → f ≤ 8 → sg' (zel (a + 3) k) f = sg (zel (b + 3) k) f) ∧ sg' a 6 = sg b 6 ∧ ∀ k f, 0 ≤ k → k < sg b 6 → 0 ≤ f → f ≤ 3 → sg' (zel (a + 4) k) f = sg (zel (b + 4) k) f
theorem hSC_move {sg sg1 sg2 : zSig} {a b : Nat} (ia : iSh a) (o1 : sg b 4 ≤ 16) (o2 : sg b 6 ≤ 12) (h : hSC sg sg1 a b) (he : ∀ c j, a ≤ c → c < a + 33 → sg2 c j = sg1 c j) : hSC sg sg2 a b := by
  obtain ⟨h1, h2, h3, h4, h5, h6⟩ := h
  refine ⟨by rw [he a 2 (by omega) (by omega)]; exact h1, fun j q1 q2 => ⟨by rw [he (a + 1) j (by omega) (by omega)]; exact (h2 j q1 q2).1, by rw [he (a + 2) j (by omega) (by omega)]; exact (h2 j q1 q2).2⟩, by rw [he a 4 (by omega) (by omega)]; exact h3, fun k f q1 q2 q3 q4 => ?_, by rw [he a 6 (by omega) (by omega)]; exact h5, fun k f q1 q2 q3 q4 => ?_⟩
  · have hz := sh_s_rng ia q1 (by lia : k < 16)
    rw [he _ f (by omega) (by omega)]; exact h4 k f q1 q2 q3 q4
  · have hz := sh_a_rng ia q1 (by lia : k < 12)
    rw [he _ f (by omega) (by omega)]; exact h6 k f q1 q2 q3 q4
theorem hSC_from {sg0 sg sg1 : zSig} {a b : Nat} (ib : iSh b) (o1 : sg b 4 ≤ 16) (o2 : sg b 6 ≤ 12) (h : hSC sg sg1 a b) (he : ∀ c j, b ≤ c → c < b + 33 → sg c j = sg0 c j) : hSC sg0 sg1 a b := by
  obtain ⟨h1, h2, h3, h4, h5, h6⟩ := h
  refine ⟨by rw [← he b 2 (by omega) (by omega)]; exact h1, fun j q1 q2 => ?_, by rw [← he b 4 (by omega) (by omega)]; exact h3, fun k f q1 q2 q3 q4 => ?_, by rw [← he b 6 (by omega) (by omega)]; exact h5, fun k f q1 q2 q3 q4 => ?_⟩
  · rw [← he b 2 (by omega) (by omega)] at q2
    rw [← he (b + 1) j (by omega) (by omega), ← he (b + 2) j (by omega) (by omega)]; exact h2 j q1 q2
  · rw [← he b 4 (by omega) (by omega)] at q2
    have hz := sh_s_rng ib q1 (by lia : k < 16)
    rw [← he _ f (by omega) (by omega)]; exact h4 k f q1 q2 q3 q4
  · rw [← he b 6 (by omega) (by omega)] at q2
    have hz := sh_a_rng ib q1 (by lia : k < 12)
    rw [← he _ f (by omega) (by omega)]; exact h6 k f q1 q2 q3 q4
def hKeep (sg sg' : zSig) (k x y z : Int32) : Prop := (∀ c j, (c < zel 37 (sg 36 2) ∨ zel 37 (sg 36 2) + 34 ≤ c) → c ≠ 36 → sg' c j = sg c j) ∧ hSC sg sg' (zel 37 (sg 36 2)) 1 ∧ (sg' (zel 38 (sg 36 2)) 0 = k ∧ sg' (zel 38 (sg 36 2)) 1 = x ∧ sg' (zel 38 (sg 36 2)) 2 = y ∧ sg' (zel 38 (sg 36 2)) 3 = z) ∧ sg' 36 2 = (if sg 36 2 = 7 then 0 else sg 36 2 + 1) ∧ sg' 36 3 = fMin (sg 36 3 + 1) 8
theorem bkHis_keep_0 : zBk mHis_keep 0 [(1, 0, 1, 0, 0), (5, 2, 0, 1, 0), (1, 0, 1, 0, 0), (5, 2, 2, 0, 2), (9, 0, 0, 0, 0), (1, 1, 1, 0, 0)] = some 10 := by decide +kernel
theorem bkHis_keep_13 : zBk mHis_keep 13 [(1, 0, 1, 0, 0), (5, 2, 1, 2, 1), (1, 0, 1, 0, 0), (5, 2, 2, 0, 2), (9, 0, 0, 0, 0), (1, 2, 0, 0, 0), (1, 3, 0, 0, 0), (1, 4, 0, 0, 0), (1, 5, 0, 0, 0)] = some 28 := by decide +kernel
theorem bkHis_keep_31 : zBk mHis_keep 31 [(1, 0, 1, 0, 0), (1, 0, 1, 0, 0), (5, 2, 2, 0, 2), (0, 0, 0, 0, 1), (4, 0, 0, 0, 0), (0, 0, 0, 0, 8), (4, 10, 0, 0, 0), (6, 2, 2, 0, 2), (1, 0, 1, 0, 0), (1, 0, 1, 0, 0), (5, 2, 3, 0, 3), (0, 0, 0, 0, 1), (4, 0, 0, 0, 0), (0, 0, 0, 0, 8)] = some 53 := by decide +kernel
theorem bkHis_keep_56 : zBk mHis_keep 56 [(6, 2, 3, 0, 3)] = some 59 := by decide +kernel
theorem bdHis_keep_10 : decode mHis_keep.2.2.1 10 = .ok (.invokevirtual 32, 3) := by decide +kernel
theorem bdHis_keep_28 : decode mHis_keep.2.2.1 28 = .ok (.invokevirtual 36, 3) := by decide +kernel
theorem bdHis_keep_53 : decode mHis_keep.2.2.1 53 = .ok (.invokestatic 39, 3) := by decide +kernel
theorem bdHis_keep_59 : decode mHis_keep.2.2.1 59 = .ok (.return_, 1) := by decide +kernel
theorem cHis_keep {sg : zSig} {k x y z : Int32} (ob : okS sg 1) (h0 : 0 ≤ sg 36 2) (h1 : sg 36 2 < 8) (c0 : 0 ≤ sg 36 3) (c1 : sg 36 3 ≤ 8) : zG mHis_keep 411 (fun rr h' => ∃ sg', rr = none ∧ h' = zN sg' ∧ hKeep sg sg' k x y z) 0 [(0, .ref 36), (1, .ref 1), (2, .int k), (3, .int x), (4, .int y), (5, .int z)] [] (zN sg) := by
  have hr := zel37_rng h0 h1
  refine zG_run bkHis_keep_0 (lv' := [(0, .ref 36), (1, .ref 1), (2, .int k), (3, .int x), (4, .int y), (5, .int z)]) (st' := [.ref 1, .ref (zel 37 (sg 36 2))]) (h' := zN sg) (Ps := [zOb (zN sg) 36 2 ∧ (zN sg).2.2 36 0 = true, zOb (zN sg) 36 2, zInR (zN sg) 37 (sg 36 2)]) rfl (zA ⟨zob_36, rfl⟩ (zA zob_36 (zA (zinR_37 (i := sg 36 2) (by lia) (by lia)) trivial))) ?_
  refine zG_callv (a := zel 37 (sg 36 2)) (c := 5) (As := [.ref 1]) (rest := []) (N2 := 411) bdHis_keep_10 okShe_become lk2_32 (And.intro (by decide) (by decide)) (by decide) rfl rfl rfl (Nat.le_of_ble_eq_true rfl) (Nat.le_of_ble_eq_true rfl) (Nat.le_refl 411) (Nat.le_refl 411) (zel_ob37 h0 h1) (cShe_become (zel37_s h0 h1) iSh_1 (by omega) ob) ?_
  rintro rr h' ⟨sg1, rfl, rfl, hb⟩ -
  have e2 : sg1 36 2 = sg 36 2 := hb.1 36 2 (by omega)
  have e3 : sg1 36 3 = sg 36 3 := hb.1 36 3 (by omega)
  refine zG_run bkHis_keep_13 (lv' := [(0, .ref 36), (1, .ref 1), (2, .int k), (3, .int x), (4, .int y), (5, .int z)]) (st' := [.int z, .int y, .int x, .int k, .ref (zel 38 (sg1 36 2))]) (h' := zN sg1) (Ps := [zOb (zN sg1) 36 2 ∧ (zN sg1).2.2 36 1 = true, zOb (zN sg1) 36 2, zInR (zN sg1) 38 (sg1 36 2)]) rfl (zA ⟨zob_36, rfl⟩ (zA zob_36 (zA (zinR_38 (i := sg1 36 2) (by lia) (by lia)) trivial))) ?_
  refine zG_callv (a := zel 38 (sg1 36 2)) (c := 0) (As := [.int k, .int x, .int y, .int z]) (rest := []) (N2 := 411) bdHis_keep_28 okAct_become lk2_36 (And.intro (by decide) (by decide)) (by decide) rfl rfl rfl (Nat.le_of_ble_eq_true rfl) (Nat.le_of_ble_eq_true rfl) (Nat.le_refl 411) (Nat.le_refl 411) (zel_ob38 (i := (sg1 36 2)) (by lia) (by lia)) (cAct_become (zel_ob38 (i := (sg1 36 2)) (by lia) (by lia))) ?_
  rintro rr h' ⟨rfl, rfl⟩ -
  refine zG_nm (sg := hAcB sg1 (zel 38 (sg1 36 2)) k x y z) (fun sg2 q2 => ?_)
  refine zG_run bkHis_keep_31 (lv' := [(0, .ref 36), (1, .ref 1), (2, .int k), (3, .int x), (4, .int y), (5, .int z)]) (st' := [.int 8, .int (((zup sg2 36 2 (((sg2 36 2) + 1) - ((sg2 36 2) + 1) / 8 * 8)) 36 3) + 1), .ref 36]) (h' := zN (zup sg2 36 2 (((sg2 36 2) + 1) - ((sg2 36 2) + 1) / 8 * 8))) (Ps := [zOb (zN sg2) 36 2, ¬ (8 : Int32) = 0, zOb (zN sg2) 36 2, zOb (zN (zup sg2 36 2 (((sg2 36 2) + 1) - ((sg2 36 2) + 1) / 8 * 8))) 36 2]) rfl (zA zob_36 (zA (by decide) (zA zob_36 (zA zob_36 trivial)))) ?_
  refine zG_calls (As := [.int (((zup sg2 36 2 (((sg2 36 2) + 1) - ((sg2 36 2) + 1) / 8 * 8)) 36 3) + 1), .int 8]) (rest := [.ref 36]) (N2 := 411) bdHis_keep_53 okMa_min lk2_39 (And.intro (by decide) (by decide)) rfl rfl (Nat.le_of_ble_eq_true rfl) (Nat.le_of_ble_eq_true rfl) (Nat.le_refl 411) (Nat.le_refl 411) cMa_min ?_
  rintro rr h' ⟨rfl, rfl⟩ -
  refine zb_vret bkHis_keep_56 bdHis_keep_59 rfl (h' := zN (zup (zup sg2 36 2 (((sg2 36 2) + 1) - ((sg2 36 2) + 1) / 8 * 8)) 36 3 (fMin (((zup sg2 36 2 (((sg2 36 2) + 1) - ((sg2 36 2) + 1) / 8 * 8)) 36 3) + 1) 8))) (Ps := [zOb (zN (zup sg2 36 2 (((sg2 36 2) + 1) - ((sg2 36 2) + 1) / 8 * 8))) 36 2]) rfl (zA zob_36 trivial) rfl ?_
  have ez : zel 38 (sg1 36 2) = zel 37 (sg 36 2) + 33 := by rw [e2]; exact hr.2.2
  have f2 : ∀ c j, c ≠ zel 37 (sg 36 2) + 33 → sg2 c j = sg1 c j := fun c j hc => by rw [q2]; simp only [hAcB, zup_e, ez]; simp [hc]
  have v2 : sg2 36 2 = sg 36 2 := by rw [f2 36 2 (by omega)]; exact e2
  have v3 : sg2 36 3 = sg 36 3 := by rw [f2 36 3 (by omega)]; exact e3
  refine ⟨_, rfl, rfl, fun c j hc h36 => ?_, hSC_move (zel37_s h0 h1) ob.2.1.2 ob.2.2.1.2 hb.2 (fun c j g1 g2 => ?_), ?_, ?_, ?_⟩
  · rw [zup_a h36, zup_a h36, f2 c j (by omega)]; exact hb.1 c j (by omega)
  · rw [zup_a (by omega), zup_a (by omega)]; exact f2 c j (by omega)
  · rw [hr.2.2, zup_a (by omega), zup_a (by omega), zup_a (by omega), zup_a (by omega), zup_a (by omega), zup_a (by omega), zup_a (by omega), zup_a (by omega), q2]; simp [hAcB, zup_e, ez]
  · rw [zup_i (by decide), zup_s, v2, zrem_8 (by lia) (by lia)]; by_cases h7 : sg 36 2 = 7
    · rw [if_pos h7, if_pos (by lia)]
    · rw [if_neg h7, if_neg (by lia)]
  · rw [zup_s, zup_i (by decide), v3]
theorem okS_move {sg sg2 : zSig} {a : Nat} (ia : iSh a) (h : okS sg a) (he : ∀ c j, a ≤ c → c < a + 33 → sg2 c j = sg c j) : okS sg2 a := by
  obtain ⟨⟨a1, a2⟩, ⟨b1, b2⟩, ⟨c1, c2⟩, d, e⟩ := h
  have x2 := he a 2 (by omega) (by omega)
  have x4 := he a 4 (by omega) (by omega)
  have x6 := he a 6 (by omega) (by omega)
  refine ⟨⟨by rw [x2]; exact a1, by rw [x2]; exact a2⟩, ⟨by rw [x4]; exact b1, by rw [x4]; exact b2⟩, ⟨by rw [x6]; exact c1, by rw [x6]; exact c2⟩, fun k q1 q2 => ?_, fun k q1 q2 => ?_⟩
  · rw [x4] at q2
    have hz := sh_s_rng ia q1 (by lia : k < 16)
    rw [he _ 0 (by omega) (by omega)]; exact d k q1 q2
  · rw [x6] at q2
    have hz := sh_a_rng ia q1 (by lia : k < 12)
    rw [he _ 0 (by omega) (by omega)]; exact e k q1 q2
theorem bkHis_takeBack_0 : zBk mHis_takeBack 0 [(1, 0, 1, 0, 0), (1, 0, 1, 0, 0), (0, 0, 0, 0, 1)] = some 3 := by decide +kernel
theorem bkHis_takeBack_6 : zBk mHis_takeBack 6 [(6, 2, 2, 0, 2)] = some 9 := by decide +kernel
theorem bkHis_takeBack_9 : zBk mHis_takeBack 9 [(1, 0, 1, 0, 0), (18, 0, 0, 0, 0), (5, 2, 3, 0, 3), (0, 0, 0, 0, 1), (4, 1, 0, 0, 0), (6, 2, 3, 0, 3)] = some 19 := by decide +kernel
theorem bkHis_takeBack_19 : zBk mHis_takeBack 19 [(1, 1, 1, 0, 0), (1, 0, 1, 0, 0), (5, 2, 0, 1, 0), (1, 0, 1, 0, 0), (5, 2, 2, 0, 2), (9, 0, 0, 0, 0)] = some 29 := by decide +kernel
theorem bkHis_takeBack_32 : zBk mHis_takeBack 32 [(1, 0, 1, 0, 0), (5, 2, 1, 2, 1), (1, 0, 1, 0, 0), (5, 2, 2, 0, 2), (9, 0, 0, 0, 0), (5, 0, 0, 0, 0)] = some 44 := by decide +kernel
theorem bdHis_takeBack_3 : decode mHis_takeBack.2.2.1 3 = .ok (.invokevirtual 45, 3) := by decide +kernel
theorem bdHis_takeBack_29 : decode mHis_takeBack.2.2.1 29 = .ok (.invokevirtual 32, 3) := by decide +kernel
theorem bdHis_takeBack_44 : decode mHis_takeBack.2.2.1 44 = .ok (.ireturn, 1) := by decide +kernel
theorem cHis_takeBack {sg : zSig}  (h0 : 0 ≤ sg 36 2) (h1 : sg 36 2 < 8) (c0 : 1 ≤ sg 36 3) (c1 : sg 36 3 ≤ 8) (ob : okS sg (zel 37 (hL sg 1))) : zG mHis_takeBack 411 (fun rr h' => ∃ v sg', rr = some (.int v) ∧ h' = zN sg' ∧ v = sg (zel 38 (hL sg 1)) 0 ∧ (∀ c j, (c < 1 ∨ 34 ≤ c) → c ≠ 36 → sg' c j = sg c j) ∧ hSC sg sg' 1 (zel 37 (hL sg 1)) ∧ sg' 36 2 = hL sg 1 ∧ sg' 36 3 = sg 36 3 - 1) 0 [(0, .ref 36), (1, .ref 1)] [] (zN sg) := by
  have l0 : 0 ≤ hL sg 1 := by unfold hL; split <;> lia
  have l1 : hL sg 1 < 8 := by unfold hL; split <;> lia
  have hr := zel37_rng l0 l1
  refine zG_run bkHis_takeBack_0 (lv' := [(0, .ref 36), (1, .ref 1)]) (st' := [.int 1, .ref 36, .ref 36]) (h' := zN sg) (Ps := []) rfl trivial ?_
  refine zG_callv (a := 36) (c := 2) (As := [.int 1]) (rest := [.ref 36]) (N2 := 411) bdHis_takeBack_3 okHis_latest lk2_45 (And.intro (by decide) (by decide)) (by decide) rfl rfl rfl (Nat.le_of_ble_eq_true rfl) (Nat.le_of_ble_eq_true rfl) (Nat.le_refl 411) (Nat.le_refl 411) zob_36 (cHis_latest (by first | lia | (rw [u3]; assumption) | (rw [hb.1 36 2 (by omega), u3]; assumption)) (by first | lia | (rw [u3]; assumption) | (rw [hb.1 36 2 (by omega), u3]; assumption)) (by first | lia | (rw [u3]; assumption) | (rw [hb.1 36 2 (by omega), u3]; assumption)) (by first | lia | (rw [u3]; assumption) | (rw [hb.1 36 2 (by omega), u3]; assumption))) ?_
  rintro rr h' ⟨rfl, rfl⟩ -
  refine zG_run bkHis_takeBack_6 (lv' := [(0, .ref 36), (1, .ref 1)]) (st' := []) (h' := zN (zup sg 36 2 (hL sg 1))) (Ps := [zOb (zN sg) 36 2]) rfl (zA zob_36 trivial) ?_
  refine zG_nm (sg := zup sg 36 2 (hL sg 1)) (fun sg1 q1 => ?_)
  have f1 : ∀ c j, c ≠ 36 → sg1 c j = sg c j := fun c j h => by rw [q1]; exact zup_a h
  have u1 : sg1 36 2 = hL sg 1 := by rw [q1]; exact zup_s
  have u2 : sg1 36 3 = sg 36 3 := by rw [q1]; exact zup_i (by decide)
  refine zG_run bkHis_takeBack_9 (lv' := [(0, .ref 36), (1, .ref 1)]) (st' := []) (h' := zN (zup sg1 36 3 ((sg1 36 3) - 1))) (Ps := [zOb (zN sg1) 36 2, zOb (zN sg1) 36 2]) rfl (zA zob_36 (zA zob_36 trivial)) ?_
  refine zG_nm (sg := zup sg1 36 3 ((sg1 36 3) - 1)) (fun sg2 q2 => ?_)
  have f2 : ∀ c j, c ≠ 36 → sg2 c j = sg c j := fun c j h => by rw [q2, zup_a h]; exact f1 c j h
  have u3 : sg2 36 2 = hL sg 1 := by rw [q2, zup_i (by decide)]; exact u1
  have u4 : sg2 36 3 = sg 36 3 - 1 := by rw [q2, zup_s, u2]
  have ok2 : okS sg2 (zel 37 (hL sg 1)) := okS_move (zel37_s l0 l1) ob (fun c j g1 g2 => f2 c j (by omega))
  refine zG_run bkHis_takeBack_19 (lv' := [(0, .ref 36), (1, .ref 1)]) (st' := [.ref (zel 37 (sg2 36 2)), .ref 1]) (h' := zN sg2) (Ps := [zOb (zN sg2) 36 2 ∧ (zN sg2).2.2 36 0 = true, zOb (zN sg2) 36 2, zInR (zN sg2) 37 (sg2 36 2)]) rfl (zA ⟨zob_36, rfl⟩ (zA zob_36 (zA (zinR_37 (i := sg2 36 2) (by first | lia | (rw [u3]; assumption) | (rw [hb.1 36 2 (by omega), u3]; assumption)) (by first | lia | (rw [u3]; assumption) | (rw [hb.1 36 2 (by omega), u3]; assumption))) trivial))) ?_
  refine zG_callv (a := 1) (c := 5) (As := [.ref (zel 37 (sg2 36 2))]) (rest := []) (N2 := 411) bdHis_takeBack_29 okShe_become lk2_32 (And.intro (by decide) (by decide)) (by decide) rfl rfl rfl (Nat.le_of_ble_eq_true rfl) (Nat.le_of_ble_eq_true rfl) (Nat.le_refl 411) (Nat.le_refl 411) zob_1 (cShe_become (a := 1) (b := zel 37 (sg2 36 2)) iSh_1 (by rw [u3]; exact zel37_s l0 l1) (by rw [u3]; omega) (by rw [u3]; exact ok2)) ?_
  rintro rr h' ⟨sg1, rfl, rfl, hb⟩ -
  refine zb_iret bkHis_takeBack_32 bdHis_takeBack_44 rfl (x := sg1 (zel 38 (sg1 36 2)) 0) (h' := zN sg1) (Ps := [zOb (zN sg1) 36 2 ∧ (zN sg1).2.2 36 1 = true, zOb (zN sg1) 36 2, zInR (zN sg1) 38 (sg1 36 2), zOb (zN sg1) (zel 38 (sg1 36 2)) 0]) rfl (zA ⟨zob_36, rfl⟩ (zA zob_36 (zA (zinR_38 (i := sg1 36 2) (by first | lia | (rw [u3]; assumption) | (rw [hb.1 36 2 (by omega), u3]; assumption)) (by first | lia | (rw [u3]; assumption) | (rw [hb.1 36 2 (by omega), u3]; assumption))) (zA (zel_ob38 (i := (sg1 36 2)) (by first | lia | (rw [u3]; assumption) | (rw [hb.1 36 2 (by omega), u3]; assumption)) (by first | lia | (rw [u3]; assumption) | (rw [hb.1 36 2 (by omega), u3]; assumption))) trivial)))) rfl ?_
  have hb2 := hb; rw [u3] at hb2
  have w2 : sg1 36 2 = hL sg 1 := by rw [hb.1 36 2 (by omega)]; exact u3
  refine ⟨_, _, rfl, rfl, ?_, fun c j hc h36 => ?_, hSC_from (zel37_s l0 l1) (by rw [f2 _ _ (by omega)]; exact ob.2.1.2) (by rw [f2 _ _ (by omega)]; exact ob.2.2.1.2) hb2.2 (fun c j g1 g2 => f2 c j (by omega)), w2, ?_⟩
  · rw [w2, hr.2.2, hb.1 _ 0 (by omega)]; exact f2 _ 0 (by omega)
  · rw [hb.1 c j (by omega)]; exact f2 c j h36
  · rw [hb.1 36 3 (by omega)]; exact u4
