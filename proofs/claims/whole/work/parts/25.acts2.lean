/-! the class's acts, the rest: printed by wip/whole/p25.py -/
theorem zit_id {A : Type} {f : Int32 → A → A} {a : A} {n : Int32} (hn : 0 ≤ n) (h : ∀ i x, 0 ≤ i → i < n → f i x = x) : zit f a n = a := by
  rw [zit_congr (g := fun _ x => x) hn h]
  obtain ⟨m, hm, rfl⟩ := znn hn
  unfold zit
  rw [nI_clamp hm]
  clear hm hn h
  induction m with
  | zero => rfl
  | succ m ih => exact ih
theorem loc_Z : zloc (fun sg x => zup sg x 0 0) := ⟨fun sg x c f h => by simp [zup_e, h], fun sg sg' x h f => by simp [zup_e, h]⟩
theorem bkSR_back_0 : zBk mSR_back 0 [(1, 1, 0, 0, 0), (0, 0, 0, 0, 1)] = some 2 := by decide +kernel
theorem bkSR_back_5 : zBk mSR_back 5 [] = some 5 := by decide +kernel
theorem bkSR_back_14 : zBk mSR_back 14 [(1, 0, 1, 0, 0), (5, 9, 4, 312, 4), (1, 1, 0, 0, 0), (7, 2, 0, 0, 0)] = some 20 := by decide +kernel
theorem bkSR_back_30 : zBk mSR_back 30 [(1, 0, 1, 0, 0), (0, 0, 0, 0, 0), (6, 9, 11, 1, 11), (1, 0, 1, 0, 0), (5, 9, 0, 1, 0), (1, 0, 1, 0, 0), (5, 9, 3, 311, 3), (1, 1, 0, 0, 0), (9, 0, 0, 0, 0)] = some 45 := by decide +kernel
theorem bkSR_back_48 : zBk mSR_back 48 [(1, 0, 1, 0, 0), (5, 9, 2, 36, 2), (0, 0, 0, 0, 0), (6, 2, 3, 0, 3), (1, 0, 1, 0, 0), (1, 0, 1, 0, 0), (5, 9, 0, 1, 0), (5, 5, 2, 0, 2)] = some 64 := by decide +kernel
theorem bkSR_back_67 : zBk mSR_back 67 [] = some 67 := by decide +kernel
theorem bkSR_back_23 : zBk mSR_back 23 [(1, 0, 1, 0, 0), (0, 0, 0, 0, -2)] = some 26 := by decide +kernel
theorem bkSR_back_29 : zBk mSR_back 29 [] = some 29 := by decide +kernel
theorem bkSR_back_8 : zBk mSR_back 8 [(1, 0, 1, 0, 0), (0, 0, 0, 0, -1)] = some 10 := by decide +kernel
theorem bkSR_back_13 : zBk mSR_back 13 [] = some 13 := by decide +kernel
theorem bdSR_back_2 : decode mSR_back.2.2.1 2 = .ok (.invokestatic 126, 3) := by decide +kernel
theorem bdSR_back_5 : decode mSR_back.2.2.1 5 = .ok (.ifCond .ne 9, 3) := by decide +kernel
theorem bdSR_back_10 : decode mSR_back.2.2.1 10 = .ok (.invokevirtual 93, 3) := by decide +kernel
theorem bdSR_back_13 : decode mSR_back.2.2.1 13 = .ok (.ireturn, 1) := by decide +kernel
theorem bdSR_back_20 : decode mSR_back.2.2.1 20 = .ok (.ifCond .ne 10, 3) := by decide +kernel
theorem bdSR_back_26 : decode mSR_back.2.2.1 26 = .ok (.invokevirtual 93, 3) := by decide +kernel
theorem bdSR_back_29 : decode mSR_back.2.2.1 29 = .ok (.ireturn, 1) := by decide +kernel
theorem bdSR_back_45 : decode mSR_back.2.2.1 45 = .ok (.invokevirtual 242, 3) := by decide +kernel
theorem bdSR_back_64 : decode mSR_back.2.2.1 64 = .ok (.invokevirtual 111, 3) := by decide +kernel
theorem bdSR_back_67 : decode mSR_back.2.2.1 67 = .ok (.ireturn, 1) := by decide +kernel
theorem cSR_back {sg : zSig} {n : Int32} (ob : okS sg 1) (h0 : 0 ≤ sg 36 2) (h1 : sg 36 2 < 8) (u0 : 0 ≤ sg 36 3) (u1 : sg 36 3 ≤ 8) (oi : ∀ n, 0 ≤ n → n < 2 → sg 312 n ≠ 0 → okS sg (zel 311 n)) : zG mSR_back 411 (fun rr h' => (rr = some (.int (-1)) ∧ h' = zN (hRfC sg (-1)) ∧ (¬ (0 ≤ n ∧ n ≤ 1))) ∨ (rr = some (.int (-2)) ∧ h' = zN (hRfC sg (-2)) ∧ ((0 ≤ n ∧ n ≤ 1) ∧ sg 312 n = 0)) ∨ ((0 ≤ n ∧ n ≤ 1) ∧ sg 312 n ≠ 0 ∧ ∃ sg1, hSB (zup sg 0 11 0) sg1 1 (zel 311 n) ∧ rr = some (.int (sg1 1 2)) ∧ h' = zN (hGrC (zup sg1 36 3 0)))) 0 [(0, .ref 0), (1, .int n)] [] (zN sg) := by
  obtain ⟨⟨n0, n1⟩, ⟨g0, g1⟩, ⟨a0, a1⟩, -⟩ := id ob
  refine zG_run bkSR_back_0 (lv' := [(0, .ref 0), (1, .int n)]) (st' := [.int 1, .int n]) (h' := zN sg) (Ps := []) rfl trivial ?_
  refine zG_calls (As := [.int n, .int 1]) (rest := []) (N2 := 411) bdSR_back_2 okSR_isWithin lk9_126 (And.intro (by decide) (by decide)) rfl rfl (Nat.le_of_ble_eq_true rfl) (Nat.le_of_ble_eq_true rfl) (Nat.le_refl 411) (Nat.le_refl 411) cSR_isWithin ?_
  rintro rr h' ⟨rfl, rfl⟩ -
  refine zb_ifne (tgt := 14) bkSR_back_5 bdSR_back_5 (by decide) (lv' := [(0, .ref 0), (1, .int n)]) (st' := []) (h' := zN sg) (x := if 0 ≤ n ∧ n ≤ 1 then 1 else 0) (Ps := []) rfl trivial (fun c1 => ?_) (fun c1 => ?_)
  · skip
    have hc : 0 ≤ n ∧ n ≤ 1 := by grind
    have hr := zel311_rng (i := n) (by lia) (by lia)
    refine zb_ifne (tgt := 30) bkSR_back_14 bdSR_back_20 (by decide) (lv' := [(0, .ref 0), (1, .int n)]) (st' := []) (h' := zN sg) (x := sg 312 n) (Ps := [zOb (zN sg) 0 9 ∧ (zN sg).2.2 0 4 = true, zIn (zN sg) 312 2 n]) rfl (zA ⟨zob_0, rfl⟩ (zA (zin_312 (i := n) (by lia) (by lia)) trivial)) (fun c2 => ?_) (fun c2 => ?_)
    · skip
      have hd : sg 312 n ≠ 0 := by assumption
      have oj : okS (zup sg 0 11 0) (zel 311 n) := okS_move (zel311_s (by lia) (by lia)) (oi n (by lia) (by lia) hd) (fun c j g1 g2 => zup_a (by omega))
      refine zG_run bkSR_back_30 (lv' := [(0, .ref 0), (1, .int n)]) (st' := [.ref (zel 311 n), .ref 1]) (h' := zN (zup sg 0 11 0)) (Ps := [zOb (zN sg) 0 9, 0 = 0 ∨ 0 = 1, zOb (zN (zup sg 0 11 0)) 0 9 ∧ (zN (zup sg 0 11 0)).2.2 0 0 = true, zOb (zN (zup sg 0 11 0)) 0 9 ∧ (zN (zup sg 0 11 0)).2.2 0 3 = true, zInR (zN (zup sg 0 11 0)) 311 n]) rfl (zA zob_0 (zA (Or.inl rfl) (zA ⟨zob_0, rfl⟩ (zA ⟨zob_0, rfl⟩ (zA (zinR_311 (i := n) (by lia) (by lia)) trivial))))) ?_
      refine zG_callv (a := 1) (c := 5) (As := [.ref (zel 311 n)]) (rest := []) (N2 := 411) bdSR_back_45 okShe_become lk9_242 (And.intro (by decide) (by decide)) (by decide) rfl rfl rfl (Nat.le_of_ble_eq_true rfl) (Nat.le_of_ble_eq_true rfl) (Nat.le_refl 411) (Nat.le_refl 411) zob_1 (cShe_become iSh_1 (zel311_s (by lia) (by lia)) (by omega) oj) ?_
      rintro rr h' ⟨sg3, rfl, rfl, hb⟩ -
      refine zG_run bkSR_back_48 (lv' := [(0, .ref 0), (1, .int n)]) (st' := [.int ((zup sg3 36 3 0) 1 2), .ref 0]) (h' := zN (zup sg3 36 3 0)) (Ps := [zOb (zN sg3) 0 9 ∧ (zN sg3).2.2 0 2 = true, zOb (zN sg3) 36 2, zOb (zN (zup sg3 36 3 0)) 0 9 ∧ (zN (zup sg3 36 3 0)).2.2 0 0 = true, zOb (zN (zup sg3 36 3 0)) 1 5]) rfl (zA ⟨zob_0, rfl⟩ (zA zob_36 (zA ⟨zob_0, rfl⟩ (zA zob_1 trivial)))) ?_
      refine zG_callv (a := 0) (c := 9) (As := [.int ((zup sg3 36 3 0) 1 2)]) (rest := []) (N2 := 411) bdSR_back_64 okSR_granted lk9_111 (And.intro (by decide) (by decide)) (by decide) rfl rfl rfl (Nat.le_of_ble_eq_true rfl) (Nat.le_of_ble_eq_true rfl) (Nat.le_refl 411) (Nat.le_refl 411) zob_0 cSR_granted ?_
      rintro rr h' ⟨rfl, rfl⟩ -
      refine zb_iret bkSR_back_67 bdSR_back_67 rfl (x := (zup sg3 36 3 0) 1 2) (h' := zN (hGrC (zup sg3 36 3 0))) (Ps := []) rfl trivial rfl ?_
      exact Or.inr (Or.inr (⟨hc, hd, _, hb, by rw [zup_a (by decide)], rfl⟩))
    · skip
      refine zG_run bkSR_back_23 (lv' := [(0, .ref 0), (1, .int n)]) (st' := [.int (-2), .ref 0]) (h' := zN sg) (Ps := []) rfl trivial ?_
      refine zG_callv (a := 0) (c := 9) (As := [.int (-2)]) (rest := []) (N2 := 411) bdSR_back_26 okSR_refused lk9_93 (And.intro (by decide) (by decide)) (by decide) rfl rfl rfl (Nat.le_of_ble_eq_true rfl) (Nat.le_of_ble_eq_true rfl) (Nat.le_refl 411) (Nat.le_refl 411) zob_0 (cSR_refused (by decide) (by decide)) ?_
      rintro rr h' ⟨rfl, rfl⟩ -
      refine zb_iret bkSR_back_29 bdSR_back_29 rfl (x := (-2)) (h' := zN (hRfC sg (-2))) (Ps := []) rfl trivial rfl ?_
      exact Or.inr (Or.inl ⟨rfl, rfl, by grind⟩)
  · skip
    refine zG_run bkSR_back_8 (lv' := [(0, .ref 0), (1, .int n)]) (st' := [.int (-1), .ref 0]) (h' := zN sg) (Ps := []) rfl trivial ?_
    refine zG_callv (a := 0) (c := 9) (As := [.int (-1)]) (rest := []) (N2 := 411) bdSR_back_10 okSR_refused lk9_93 (And.intro (by decide) (by decide)) (by decide) rfl rfl rfl (Nat.le_of_ble_eq_true rfl) (Nat.le_of_ble_eq_true rfl) (Nat.le_refl 411) (Nat.le_refl 411) zob_0 (cSR_refused (by decide) (by decide)) ?_
    rintro rr h' ⟨rfl, rfl⟩ -
    refine zb_iret bkSR_back_13 bdSR_back_13 rfl (x := (-1)) (h' := zN (hRfC sg (-1))) (Ps := []) rfl trivial rfl ?_
    exact Or.inl ⟨rfl, rfl, by grind⟩
theorem hL_rng {sg : zSig} {n : Int32} (h0 : 0 ≤ sg 36 2) (h1 : sg 36 2 < 8) (n0 : 0 ≤ n) (n1 : n ≤ 8) (n2 : 1 ≤ n) : 0 ≤ hL sg n ∧ hL sg n < 8 := by
  unfold hL; split <;> lia
theorem hL_up {sg : zSig} {a : Nat} {i x n : Int32} (h : 36 ≠ a) : hL (zup sg a i x) n = hL sg n := by
  unfold hL; rw [zup_a h]
theorem bkSR_undo_0 : zBk mSR_undo 0 [(1, 0, 1, 0, 0), (5, 9, 2, 36, 2), (5, 2, 3, 0, 3)] = some 7 := by decide +kernel
theorem bkSR_undo_17 : zBk mSR_undo 17 [(1, 0, 1, 0, 0), (0, 0, 0, 0, 0), (6, 9, 11, 1, 11), (1, 0, 1, 0, 0), (1, 0, 1, 0, 0), (5, 9, 2, 36, 2), (1, 0, 1, 0, 0), (5, 9, 0, 1, 0)] = some 31 := by decide +kernel
theorem bkSR_undo_34 : zBk mSR_undo 34 [] = some 34 := by decide +kernel
theorem bkSR_undo_37 : zBk mSR_undo 37 [] = some 37 := by decide +kernel
theorem bkSR_undo_10 : zBk mSR_undo 10 [(1, 0, 1, 0, 0), (0, 0, 0, 0, -4)] = some 13 := by decide +kernel
theorem bkSR_undo_16 : zBk mSR_undo 16 [] = some 16 := by decide +kernel
theorem bdSR_undo_7 : decode mSR_undo.2.2.1 7 = .ok (.ifCond .ne 10, 3) := by decide +kernel
theorem bdSR_undo_13 : decode mSR_undo.2.2.1 13 = .ok (.invokevirtual 93, 3) := by decide +kernel
theorem bdSR_undo_16 : decode mSR_undo.2.2.1 16 = .ok (.ireturn, 1) := by decide +kernel
theorem bdSR_undo_31 : decode mSR_undo.2.2.1 31 = .ok (.invokevirtual 238, 3) := by decide +kernel
theorem bdSR_undo_34 : decode mSR_undo.2.2.1 34 = .ok (.invokevirtual 111, 3) := by decide +kernel
theorem bdSR_undo_37 : decode mSR_undo.2.2.1 37 = .ok (.ireturn, 1) := by decide +kernel
theorem cSR_undo {sg : zSig}  (h0 : 0 ≤ sg 36 2) (h1 : sg 36 2 < 8) (u0 : 0 ≤ sg 36 3) (u1 : sg 36 3 ≤ 8) (oh : 1 ≤ sg 36 3 → okS sg (zel 37 (hL sg 1))) : zG mSR_undo 411 (fun rr h' => (rr = some (.int (-4)) ∧ h' = zN (hRfC sg (-4)) ∧ (sg 36 3 = 0)) ∨ (sg 36 3 ≠ 0 ∧ ∃ sg1, (∀ c j, (c < 1 ∨ 34 ≤ c) → c ≠ 36 → sg1 c j = zup sg 0 11 0 c j) ∧ hSC sg sg1 1 (zel 37 (hL sg 1)) ∧ sg1 36 2 = hL sg 1 ∧ sg1 36 3 = sg 36 3 - 1 ∧ rr = some (.int (sg (zel 38 (hL sg 1)) 0)) ∧ h' = zN (hGrC sg1))) 0 [(0, .ref 0)] [] (zN sg) := by
  have ⟨l0, l1⟩ := hL_rng h0 h1 (n := 1) (by decide) (by decide) (by decide)
  have hr := zel37_rng l0 l1
  refine zb_ifne (tgt := 17) bkSR_undo_0 bdSR_undo_7 (by decide) (lv' := [(0, .ref 0)]) (st' := []) (h' := zN sg) (x := sg 36 3) (Ps := [zOb (zN sg) 0 9 ∧ (zN sg).2.2 0 2 = true, zOb (zN sg) 36 2]) rfl (zA ⟨zob_0, rfl⟩ (zA zob_36 trivial)) (fun c1 => ?_) (fun c1 => ?_)
  · skip
    refine zG_run bkSR_undo_17 (lv' := [(0, .ref 0)]) (st' := [.ref 1, .ref 36, .ref 0]) (h' := zN (zup sg 0 11 0)) (Ps := [zOb (zN sg) 0 9, 0 = 0 ∨ 0 = 1, zOb (zN (zup sg 0 11 0)) 0 9 ∧ (zN (zup sg 0 11 0)).2.2 0 2 = true, zOb (zN (zup sg 0 11 0)) 0 9 ∧ (zN (zup sg 0 11 0)).2.2 0 0 = true]) rfl (zA zob_0 (zA (Or.inl rfl) (zA ⟨zob_0, rfl⟩ (zA ⟨zob_0, rfl⟩ trivial)))) ?_
    refine zG_callv (a := 36) (c := 2) (As := [.ref 1]) (rest := [.ref 0]) (N2 := 411) bdSR_undo_31 okHis_takeBack lk9_238 (And.intro (by decide) (by decide)) (by decide) rfl rfl rfl (Nat.le_of_ble_eq_true rfl) (Nat.le_of_ble_eq_true rfl) (Nat.le_refl 411) (Nat.le_refl 411) zob_36 (cHis_takeBack (by rw [zup_a (by decide)]; lia) (by rw [zup_a (by decide)]; lia) (by rw [zup_a (by decide)]; lia) (by rw [zup_a (by decide)]; lia) (by rw [hL_up (by decide)]; exact okS_move (zel37_s l0 l1) (oh (by lia)) (fun c j g1 g2 => zup_a (by omega)))) ?_
    rintro rr h' ⟨v3, sg2, rfl, rfl, hv, hf, hs, hl, hk⟩ -
    refine zG_run bkSR_undo_34 (lv' := [(0, .ref 0)]) (st' := [.int v3, .ref 0]) (h' := zN sg2) (Ps := []) rfl trivial ?_
    refine zG_callv (a := 0) (c := 9) (As := [.int v3]) (rest := []) (N2 := 411) bdSR_undo_34 okSR_granted lk9_111 (And.intro (by decide) (by decide)) (by decide) rfl rfl rfl (Nat.le_of_ble_eq_true rfl) (Nat.le_of_ble_eq_true rfl) (Nat.le_refl 411) (Nat.le_refl 411) zob_0 cSR_granted ?_
    rintro rr h' ⟨rfl, rfl⟩ -
    refine zb_iret bkSR_undo_37 bdSR_undo_37 rfl (x := v3) (h' := zN (hGrC sg2)) (Ps := []) rfl trivial rfl ?_
    rw [hL_up (by decide)] at hv hs hl
    rw [zup_a (by omega)] at hv
    exact Or.inr (⟨by lia, _, hf, hSC_from (zel37_s l0 l1) (by rw [zup_a (by omega)]; exact (oh (by lia)).2.1.2) (by rw [zup_a (by omega)]; exact (oh (by lia)).2.2.1.2) hs (fun c j g1 g2 => zup_a (by omega)), hl, hk, by rw [hv], rfl⟩)
  · skip
    refine zG_run bkSR_undo_10 (lv' := [(0, .ref 0)]) (st' := [.int (-4), .ref 0]) (h' := zN sg) (Ps := []) rfl trivial ?_
    refine zG_callv (a := 0) (c := 9) (As := [.int (-4)]) (rest := []) (N2 := 411) bdSR_undo_13 okSR_refused lk9_93 (And.intro (by decide) (by decide)) (by decide) rfl rfl rfl (Nat.le_of_ble_eq_true rfl) (Nat.le_of_ble_eq_true rfl) (Nat.le_refl 411) (Nat.le_refl 411) zob_0 (cSR_refused (by decide) (by decide)) ?_
    rintro rr h' ⟨rfl, rfl⟩ -
    refine zb_iret bkSR_undo_16 bdSR_undo_16 rfl (x := (-4)) (h' := zN (hRfC sg (-4))) (Ps := []) rfl trivial rfl ?_
    exact Or.inl ⟨rfl, rfl, by grind⟩
def yAL (sg : zSig) : Prop := ∀ j, 0 ≤ j → j < sg 34 1 → isL (sg 35 j)
def yWhy (sg : zSig) : Int32 := if sg 34 1 = 0 then -4 else if 200 < sg 1 2 + sg 34 1 then -5 else 0
theorem yWhy_rng {sg : zSig} : yWhy sg = -4 ∨ yWhy sg = -5 ∨ yWhy sg = 0 := by unfold yWhy; grind
theorem yWhy_0 {sg : zSig} (t0 : 0 ≤ sg 34 1) (h : yWhy sg = 0) : 1 ≤ sg 34 1 ∧ ¬ 200 < sg 1 2 + sg 34 1 := by
  unfold yWhy at h; grind
theorem bkSR_type_0 : zBk mSR_type 0 [(1, 0, 1, 0, 0), (5, 9, 0, 1, 0), (1, 1, 0, 0, 0)] = some 5 := by decide +kernel
theorem bkSR_type_8 : zBk mSR_type 8 [] = some 8 := by decide +kernel
theorem bkSR_type_21 : zBk mSR_type 21 [(1, 0, 1, 0, 0), (0, 0, 0, 0, -1)] = some 23 := by decide +kernel
theorem bkSR_type_26 : zBk mSR_type 26 [] = some 26 := by decide +kernel
theorem bkSR_type_11 : zBk mSR_type 11 [(1, 0, 1, 0, 0), (5, 9, 1, 34, 1)] = some 15 := by decide +kernel
theorem bkSR_type_18 : zBk mSR_type 18 [] = some 18 := by decide +kernel
theorem bkSR_type_27 : zBk mSR_type 27 [(1, 0, 1, 0, 0)] = some 28 := by decide +kernel
theorem bkSR_type_31 : zBk mSR_type 31 [(2, 2, 0, 0, 0), (1, 2, 0, 0, 0)] = some 33 := by decide +kernel
theorem bkSR_type_42 : zBk mSR_type 42 [(1, 0, 1, 0, 0), (0, 0, 0, 0, 0), (1, 1, 0, 0, 0), (1, 0, 1, 0, 0), (5, 9, 1, 34, 1), (5, 7, 1, 0, 1), (0, 0, 0, 0, 0)] = some 53 := by decide +kernel
theorem bkSR_type_56 : zBk mSR_type 56 [(1, 0, 1, 0, 0), (5, 9, 0, 1, 0), (1, 1, 0, 0, 0), (1, 0, 1, 0, 0), (5, 9, 1, 34, 1)] = some 65 := by decide +kernel
theorem bkSR_type_68 : zBk mSR_type 68 [(1, 0, 1, 0, 0), (5, 9, 1, 34, 1), (0, 0, 0, 0, 0), (6, 7, 1, 0, 1), (1, 0, 1, 0, 0), (1, 0, 1, 0, 0), (5, 9, 0, 1, 0), (5, 5, 2, 0, 2)] = some 84 := by decide +kernel
theorem bkSR_type_87 : zBk mSR_type 87 [] = some 87 := by decide +kernel
theorem bkSR_type_36 : zBk mSR_type 36 [(1, 0, 1, 0, 0), (1, 2, 0, 0, 0)] = some 38 := by decide +kernel
theorem bkSR_type_41 : zBk mSR_type 41 [] = some 41 := by decide +kernel
theorem bdSR_type_5 : decode mSR_type.2.2.1 5 = .ok (.invokevirtual 85, 3) := by decide +kernel
theorem bdSR_type_8 : decode mSR_type.2.2.1 8 = .ok (.ifCond .eq 13, 3) := by decide +kernel
theorem bdSR_type_15 : decode mSR_type.2.2.1 15 = .ok (.invokevirtual 89, 3) := by decide +kernel
theorem bdSR_type_18 : decode mSR_type.2.2.1 18 = .ok (.ifCond .ne 9, 3) := by decide +kernel
theorem bdSR_type_23 : decode mSR_type.2.2.1 23 = .ok (.invokevirtual 93, 3) := by decide +kernel
theorem bdSR_type_26 : decode mSR_type.2.2.1 26 = .ok (.ireturn, 1) := by decide +kernel
theorem bdSR_type_28 : decode mSR_type.2.2.1 28 = .ok (.invokevirtual 96, 3) := by decide +kernel
theorem bdSR_type_33 : decode mSR_type.2.2.1 33 = .ok (.ifCond .eq 9, 3) := by decide +kernel
theorem bdSR_type_38 : decode mSR_type.2.2.1 38 = .ok (.invokevirtual 93, 3) := by decide +kernel
theorem bdSR_type_41 : decode mSR_type.2.2.1 41 = .ok (.ireturn, 1) := by decide +kernel
theorem bdSR_type_53 : decode mSR_type.2.2.1 53 = .ok (.invokevirtual 100, 3) := by decide +kernel
theorem bdSR_type_65 : decode mSR_type.2.2.1 65 = .ok (.invokevirtual 104, 3) := by decide +kernel
theorem bdSR_type_84 : decode mSR_type.2.2.1 84 = .ok (.invokevirtual 111, 3) := by decide +kernel
theorem bdSR_type_87 : decode mSR_type.2.2.1 87 = .ok (.ireturn, 1) := by decide +kernel
theorem cSR_type {sg : zSig} {p : Int32} (ob : okS sg 1) (h0 : 0 ≤ sg 36 2) (h1 : sg 36 2 < 8) (u0 : 0 ≤ sg 36 3) (u1 : sg 36 3 ≤ 8) (t0 : 0 ≤ sg 34 1) (t1 : sg 34 1 ≤ 400) : zG mSR_type 411 (fun rr h' => (rr = some (.int (-1)) ∧ h' = zN (hRfC sg (-1)) ∧ (¬ ((0 ≤ p ∧ p ≤ sg 1 2) ∧ yAL sg))) ∨ (rr = some (.int (yWhy sg)) ∧ h' = zN (hRfC sg (yWhy sg)) ∧ (((0 ≤ p ∧ p ≤ sg 1 2) ∧ yAL sg) ∧ yWhy sg ≠ 0)) ∨ ((0 ≤ p ∧ p ≤ sg 1 2) ∧ yAL sg ∧ yWhy sg = 0 ∧ ∃ sg1 sg2, hBeg sg sg1 0 p (sg 34 1) 0 ∧ hPut sg1 sg2 p (sg 34 1) ∧ rr = some (.int (sg2 1 2)) ∧ h' = zN (hGrC (zup sg2 34 1 0)))) 0 [(0, .ref 0), (1, .int p)] [] (zN sg) := by
  obtain ⟨⟨n0, n1⟩, ⟨g0, g1⟩, ⟨a0, a1⟩, -⟩ := id ob
  refine zG_run bkSR_type_0 (lv' := [(0, .ref 0), (1, .int p)]) (st' := [.int p, .ref 1]) (h' := zN sg) (Ps := [zOb (zN sg) 0 9 ∧ (zN sg).2.2 0 0 = true]) rfl (zA ⟨zob_0, rfl⟩ trivial) ?_
  refine zG_callv (a := 1) (c := 5) (As := [.int p]) (rest := []) (N2 := 411) bdSR_type_5 okShe_hasPlace lk9_85 (And.intro (by decide) (by decide)) (by decide) rfl rfl rfl (Nat.le_of_ble_eq_true rfl) (Nat.le_of_ble_eq_true rfl) (Nat.le_refl 411) (Nat.le_refl 411) zob_1 (cShe_hasPlace zob_1) ?_
  rintro rr h' ⟨rfl, rfl⟩ -
  refine zb_ifeq (tgt := 21) bkSR_type_8 bdSR_type_8 (by decide) (lv' := [(0, .ref 0), (1, .int p)]) (st' := []) (h' := zN sg) (x := if 0 ≤ p ∧ p ≤ sg 1 2 then 1 else 0) (Ps := []) rfl trivial (fun c1 => ?_) (fun c1 => ?_)
  · skip
    refine zG_run bkSR_type_21 (lv' := [(0, .ref 0), (1, .int p)]) (st' := [.int (-1), .ref 0]) (h' := zN sg) (Ps := []) rfl trivial ?_
    refine zG_callv (a := 0) (c := 9) (As := [.int (-1)]) (rest := []) (N2 := 411) bdSR_type_23 okSR_refused lk9_93 (And.intro (by decide) (by decide)) (by decide) rfl rfl rfl (Nat.le_of_ble_eq_true rfl) (Nat.le_of_ble_eq_true rfl) (Nat.le_refl 411) (Nat.le_refl 411) zob_0 (cSR_refused (by decide) (by decide)) ?_
    rintro rr h' ⟨rfl, rfl⟩ -
    refine zb_iret bkSR_type_26 bdSR_type_26 rfl (x := (-1)) (h' := zN (hRfC sg (-1))) (Ps := []) rfl trivial rfl ?_
    exact Or.inl ⟨rfl, rfl, by intro q; first | (exact absurd q.1 (by lia)) | (rcases hv with hv | ⟨_, j, j0, j1, j2⟩; lia; exact j2 (q.2 j j0 j1))⟩
  · skip
    refine zG_run bkSR_type_11 (lv' := [(0, .ref 0), (1, .int p)]) (st' := [.ref 34]) (h' := zN sg) (Ps := [zOb (zN sg) 0 9 ∧ (zN sg).2.2 0 1 = true]) rfl (zA ⟨zob_0, rfl⟩ trivial) ?_
    refine zG_callv (a := 34) (c := 7) (As := []) (rest := []) (N2 := 411) bdSR_type_15 okTap_areLetters lk9_89 (And.intro (by decide) (by decide)) (by decide) rfl rfl rfl (Nat.le_of_ble_eq_true rfl) (Nat.le_of_ble_eq_true rfl) (Nat.le_refl 411) (Nat.le_refl 411) zob_34 (cTap_areLetters (by lia) (by lia)) ?_
    rintro rr h' ⟨v2, rfl, rfl, hv⟩ -
    refine zb_ifne (tgt := 27) bkSR_type_18 bdSR_type_18 (by decide) (lv' := [(0, .ref 0), (1, .int p)]) (st' := []) (h' := zN sg) (x := v2) (Ps := []) rfl trivial (fun c3 => ?_) (fun c3 => ?_)
    · skip
      have hal : yAL sg := by rcases hv with hv | hv; exact hv.2; lia
      have hc : (0 ≤ p ∧ p ≤ sg 1 2) ∧ yAL sg := ⟨by lia, hal⟩
      refine zG_run bkSR_type_27 (lv' := [(0, .ref 0), (1, .int p)]) (st' := [.ref 0]) (h' := zN sg) (Ps := []) rfl trivial ?_
      refine zG_callv (a := 0) (c := 9) (As := []) (rest := []) (N2 := 411) bdSR_type_28 okSR_whyNoRoomForTape lk9_96 (And.intro (by decide) (by decide)) (by decide) rfl rfl rfl (Nat.le_of_ble_eq_true rfl) (Nat.le_of_ble_eq_true rfl) (Nat.le_refl 411) (Nat.le_refl 411) zob_0 cSR_whyNoRoomForTape ?_
      rintro rr h' ⟨rfl, rfl⟩ -
      refine zb_ifeq (tgt := 42) bkSR_type_31 bdSR_type_33 (by decide) (lv' := [(2, .int (yWhy sg)), (0, .ref 0), (1, .int p)]) (st' := []) (h' := zN sg) (x := yWhy sg) (Ps := []) rfl trivial (fun c4 => ?_) (fun c4 => ?_)
      · skip
        have hw := yWhy_0 t0 (by lia)
        refine zG_run bkSR_type_42 (lv' := [(2, .int (yWhy sg)), (0, .ref 0), (1, .int p)]) (st' := [.int 0, .int (sg 34 1), .int p, .int 0, .ref 0]) (h' := zN sg) (Ps := [zOb (zN sg) 0 9 ∧ (zN sg).2.2 0 1 = true, zOb (zN sg) 34 7]) rfl (zA ⟨zob_0, rfl⟩ (zA zob_34 trivial)) ?_
        refine zG_callv (a := 0) (c := 9) (As := [.int 0, .int p, .int (sg 34 1), .int 0]) (rest := []) (N2 := 411) bdSR_type_53 okSR_begin lk9_100 (And.intro (by decide) (by decide)) (by decide) rfl rfl rfl (Nat.le_of_ble_eq_true rfl) (Nat.le_of_ble_eq_true rfl) (Nat.le_refl 411) (Nat.le_refl 411) zob_0 (cSR_begin ob h0 h1 u0 u1) ?_
        rintro rr h' ⟨sg5, rfl, rfl, hb⟩ -
        have fb := hBeg_fr h0 h1 hb
        have x2 : sg5 1 2 = sg 1 2 := fb 1 2 (by decide) (by decide)
        have x4 : sg5 1 4 = sg 1 4 := fb 1 4 (by decide) (by decide)
        have x6 : sg5 1 6 = sg 1 6 := fb 1 6 (by decide) (by decide)
        have xt : sg5 34 1 = sg 34 1 := fb 34 1 (by decide) (by decide)
        refine zG_run bkSR_type_56 (lv' := [(2, .int (yWhy sg)), (0, .ref 0), (1, .int p)]) (st' := [.ref 34, .int p, .ref 1]) (h' := zN sg5) (Ps := [zOb (zN sg5) 0 9 ∧ (zN sg5).2.2 0 0 = true, zOb (zN sg5) 0 9 ∧ (zN sg5).2.2 0 1 = true]) rfl (zA ⟨zob_0, rfl⟩ (zA ⟨zob_0, rfl⟩ trivial)) ?_
        refine zG_callv (a := 1) (c := 5) (As := [.int p, .ref 34]) (rest := []) (N2 := 411) bdSR_type_65 okShe_put lk9_104 (And.intro (by decide) (by decide)) (by decide) rfl rfl rfl (Nat.le_of_ble_eq_true rfl) (Nat.le_of_ble_eq_true rfl) (Nat.le_refl 411) (Nat.le_refl 411) zob_1 (cShe_put (p := p) (m := sg 34 1) (by lia) (by lia) (by lia) (by lia) (by lia) (by lia) (by lia) (by lia) (by lia) (by lia) (by lia) (by lia)) ?_
        rintro rr h' ⟨sg6, rfl, rfl, hp⟩ -
        refine zG_run bkSR_type_68 (lv' := [(2, .int (yWhy sg)), (0, .ref 0), (1, .int p)]) (st' := [.int ((zup sg6 34 1 0) 1 2), .ref 0]) (h' := zN (zup sg6 34 1 0)) (Ps := [zOb (zN sg6) 0 9 ∧ (zN sg6).2.2 0 1 = true, zOb (zN sg6) 34 7, zOb (zN (zup sg6 34 1 0)) 0 9 ∧ (zN (zup sg6 34 1 0)).2.2 0 0 = true, zOb (zN (zup sg6 34 1 0)) 1 5]) rfl (zA ⟨zob_0, rfl⟩ (zA zob_34 (zA ⟨zob_0, rfl⟩ (zA zob_1 trivial)))) ?_
        refine zG_callv (a := 0) (c := 9) (As := [.int ((zup sg6 34 1 0) 1 2)]) (rest := []) (N2 := 411) bdSR_type_84 okSR_granted lk9_111 (And.intro (by decide) (by decide)) (by decide) rfl rfl rfl (Nat.le_of_ble_eq_true rfl) (Nat.le_of_ble_eq_true rfl) (Nat.le_refl 411) (Nat.le_refl 411) zob_0 cSR_granted ?_
        rintro rr h' ⟨rfl, rfl⟩ -
        refine zb_iret bkSR_type_87 bdSR_type_87 rfl (x := (zup sg6 34 1 0) 1 2) (h' := zN (hGrC (zup sg6 34 1 0))) (Ps := []) rfl trivial rfl ?_
        exact Or.inr (Or.inr (⟨hc.1, hc.2, by lia, _, _, hb, hp, by rw [zup_a (by decide)], rfl⟩))
      · skip
        refine zG_run bkSR_type_36 (lv' := [(2, .int (yWhy sg)), (0, .ref 0), (1, .int p)]) (st' := [.int (yWhy sg), .ref 0]) (h' := zN sg) (Ps := []) rfl trivial ?_
        refine zG_callv (a := 0) (c := 9) (As := [.int (yWhy sg)]) (rest := []) (N2 := 411) bdSR_type_38 okSR_refused lk9_93 (And.intro (by decide) (by decide)) (by decide) rfl rfl rfl (Nat.le_of_ble_eq_true rfl) (Nat.le_of_ble_eq_true rfl) (Nat.le_refl 411) (Nat.le_refl 411) zob_0 (cSR_refused (by have := yWhy_rng (sg := sg); lia) (by have := yWhy_rng (sg := sg); lia)) ?_
        rintro rr h' ⟨rfl, rfl⟩ -
        refine zb_iret bkSR_type_41 bdSR_type_41 rfl (x := yWhy sg) (h' := zN (hRfC sg (yWhy sg))) (Ps := []) rfl trivial rfl ?_
        exact Or.inr (Or.inl ⟨rfl, rfl, ⟨hc, by lia⟩⟩)
    · skip
      refine zG_run bkSR_type_21 (lv' := [(0, .ref 0), (1, .int p)]) (st' := [.int (-1), .ref 0]) (h' := zN sg) (Ps := []) rfl trivial ?_
      refine zG_callv (a := 0) (c := 9) (As := [.int (-1)]) (rest := []) (N2 := 411) bdSR_type_23 okSR_refused lk9_93 (And.intro (by decide) (by decide)) (by decide) rfl rfl rfl (Nat.le_of_ble_eq_true rfl) (Nat.le_of_ble_eq_true rfl) (Nat.le_refl 411) (Nat.le_refl 411) zob_0 (cSR_refused (by decide) (by decide)) ?_
      rintro rr h' ⟨rfl, rfl⟩ -
      refine zb_iret bkSR_type_26 bdSR_type_26 rfl (x := (-1)) (h' := zN (hRfC sg (-1))) (Ps := []) rfl trivial rfl ?_
      exact Or.inl ⟨rfl, rfl, by intro q; first | (exact absurd q.1 (by lia)) | (rcases hv with hv | ⟨_, j, j0, j1, j2⟩; lia; exact j2 (q.2 j j0 j1))⟩
theorem cShe_lettersGo0 {sg : zSig} {p q : Int32} (pq : p = q) : zG mShe_lettersGo 411 (fun rr h' => rr = none ∧ h' = zN sg) 0 [(0, .ref 1), (1, .int p), (2, .int q)] [] (zN sg) := by
  refine zG_run bkShe_lettersGo_0 (lv' := [(0, .ref 1), (1, .int p), (2, .int q)]) (st' := [.int q, .int p, .ref 1]) (h' := zN sg) (Ps := []) rfl trivial ?_
  refine zG_callv (a := 1) (c := 5) (As := [.int p, .int q]) (rest := []) (N2 := 411) bdShe_lettersGo_3 okShe_isRange lk5_107 (And.intro (by decide) (by decide)) (by decide) rfl rfl rfl (Nat.le_of_ble_eq_true rfl) (Nat.le_of_ble_eq_true rfl) (Nat.le_refl 411) (Nat.le_refl 411) zob_1 cShe_isRange ?_
  rintro rr h' ⟨rfl, rfl⟩ -
  refine zb_ifne (tgt := 10) bkShe_lettersGo_6 bdShe_lettersGo_6 (by decide) (lv' := [(0, .ref 1), (1, .int p), (2, .int q)]) (st' := []) (h' := zN sg) (x := if 0 ≤ p ∧ p < q ∧ q ≤ sg 1 2 then 1 else 0) (Ps := []) rfl trivial (fun c1 => ?_) (fun c1 => ?_)
  · skip
    exfalso; lia
  · skip
    refine zb_vret bkShe_lettersGo_9 bdShe_lettersGo_9 rfl (h' := zN sg) (Ps := []) rfl trivial rfl ?_
    exact ⟨rfl, rfl⟩
def hGo0 (sg sg' : zSig) (p q : Int32) : Prop := (p < q ∧ hGo sg sg' p q) ∨ (p = q ∧ sg' = sg)
theorem cSwapGo {sg : zSig} {p q : Int32} (n0 : 0 ≤ sg 1 2) (n1 : sg 1 2 ≤ 200) (g0 : 0 ≤ sg 1 4) (g1 : sg 1 4 ≤ 16) (a0 : 0 ≤ sg 1 6) (a1 : sg 1 6 ≤ 12) (p0 : 0 ≤ p) (p1 : p ≤ q) (q1 : q ≤ sg 1 2) : zG mShe_lettersGo 411 (fun rr h' => ∃ sg', rr = none ∧ h' = zN sg' ∧ hGo0 sg sg' p q) 0 [(0, .ref 1), (1, .int p), (2, .int q)] [] (zN sg) := by
  by_cases h : p = q
  · exact zG_mono (fun r h' q => ⟨sg, q.1, q.2, Or.inr ⟨h, rfl⟩⟩) (cShe_lettersGo0 h)
  · have h2 : p < q := by lia
    exact zG_mono (fun r h' q => q.elim (fun s q => ⟨s, q.1, q.2.1, Or.inl ⟨h2, q.2.2⟩⟩)) (cShe_lettersGo n0 n1 g0 g1 a0 a1 p0 h2 q1)
theorem bkSR_swap_0 : zBk mSR_swap 0 [(1, 0, 1, 0, 0), (5, 9, 0, 1, 0), (1, 1, 0, 0, 0), (1, 2, 0, 0, 0)] = some 6 := by decide +kernel
theorem bkSR_swap_9 : zBk mSR_swap 9 [] = some 9 := by decide +kernel
theorem bkSR_swap_22 : zBk mSR_swap 22 [(1, 0, 1, 0, 0), (0, 0, 0, 0, -1)] = some 24 := by decide +kernel
theorem bkSR_swap_27 : zBk mSR_swap 27 [] = some 27 := by decide +kernel
theorem bkSR_swap_12 : zBk mSR_swap 12 [(1, 0, 1, 0, 0), (5, 9, 1, 34, 1)] = some 16 := by decide +kernel
theorem bkSR_swap_19 : zBk mSR_swap 19 [] = some 19 := by decide +kernel
theorem bkSR_swap_28 : zBk mSR_swap 28 [(1, 0, 1, 0, 0)] = some 29 := by decide +kernel
theorem bkSR_swap_32 : zBk mSR_swap 32 [(2, 3, 0, 0, 0), (1, 3, 0, 0, 0)] = some 34 := by decide +kernel
theorem bkSR_swap_43 : zBk mSR_swap 43 [(1, 0, 1, 0, 0), (5, 9, 1, 34, 1), (5, 7, 1, 0, 1), (2, 4, 0, 0, 0), (1, 0, 1, 0, 0), (0, 0, 0, 0, 12), (1, 1, 0, 0, 0), (1, 2, 0, 0, 0), (1, 4, 0, 0, 0)] = some 59 := by decide +kernel
theorem bkSR_swap_62 : zBk mSR_swap 62 [(1, 0, 1, 0, 0), (5, 9, 0, 1, 0), (1, 1, 0, 0, 0), (0, 0, 0, 0, 1), (4, 0, 0, 0, 0), (1, 0, 1, 0, 0), (5, 9, 1, 34, 1)] = some 73 := by decide +kernel
theorem bkSR_swap_76 : zBk mSR_swap 76 [(1, 0, 1, 0, 0), (5, 9, 0, 1, 0), (1, 1, 0, 0, 0), (1, 1, 0, 0, 0), (0, 0, 0, 0, 1), (4, 0, 0, 0, 0)] = some 84 := by decide +kernel
theorem bkSR_swap_87 : zBk mSR_swap 87 [(1, 0, 1, 0, 0), (5, 9, 0, 1, 0), (1, 1, 0, 0, 0), (1, 4, 0, 0, 0), (4, 0, 0, 0, 0), (1, 2, 0, 0, 0), (0, 0, 0, 0, 1), (4, 1, 0, 0, 0), (1, 4, 0, 0, 0), (4, 0, 0, 0, 0)] = some 101 := by decide +kernel
theorem bkSR_swap_104 : zBk mSR_swap 104 [(1, 0, 1, 0, 0), (5, 9, 1, 34, 1), (0, 0, 0, 0, 0), (6, 7, 1, 0, 1), (1, 0, 1, 0, 0), (1, 0, 1, 0, 0), (5, 9, 0, 1, 0), (5, 5, 2, 0, 2)] = some 120 := by decide +kernel
theorem bkSR_swap_123 : zBk mSR_swap 123 [] = some 123 := by decide +kernel
theorem bkSR_swap_37 : zBk mSR_swap 37 [(1, 0, 1, 0, 0), (1, 3, 0, 0, 0)] = some 39 := by decide +kernel
theorem bkSR_swap_42 : zBk mSR_swap 42 [] = some 42 := by decide +kernel
theorem bdSR_swap_6 : decode mSR_swap.2.2.1 6 = .ok (.invokevirtual 114, 3) := by decide +kernel
theorem bdSR_swap_9 : decode mSR_swap.2.2.1 9 = .ok (.ifCond .eq 13, 3) := by decide +kernel
theorem bdSR_swap_16 : decode mSR_swap.2.2.1 16 = .ok (.invokevirtual 89, 3) := by decide +kernel
theorem bdSR_swap_19 : decode mSR_swap.2.2.1 19 = .ok (.ifCond .ne 9, 3) := by decide +kernel
theorem bdSR_swap_24 : decode mSR_swap.2.2.1 24 = .ok (.invokevirtual 93, 3) := by decide +kernel
theorem bdSR_swap_27 : decode mSR_swap.2.2.1 27 = .ok (.ireturn, 1) := by decide +kernel
theorem bdSR_swap_29 : decode mSR_swap.2.2.1 29 = .ok (.invokevirtual 96, 3) := by decide +kernel
theorem bdSR_swap_34 : decode mSR_swap.2.2.1 34 = .ok (.ifCond .eq 9, 3) := by decide +kernel
theorem bdSR_swap_39 : decode mSR_swap.2.2.1 39 = .ok (.invokevirtual 93, 3) := by decide +kernel
theorem bdSR_swap_42 : decode mSR_swap.2.2.1 42 = .ok (.ireturn, 1) := by decide +kernel
theorem bdSR_swap_59 : decode mSR_swap.2.2.1 59 = .ok (.invokevirtual 100, 3) := by decide +kernel
theorem bdSR_swap_73 : decode mSR_swap.2.2.1 73 = .ok (.invokevirtual 104, 3) := by decide +kernel
theorem bdSR_swap_84 : decode mSR_swap.2.2.1 84 = .ok (.invokevirtual 118, 3) := by decide +kernel
theorem bdSR_swap_101 : decode mSR_swap.2.2.1 101 = .ok (.invokevirtual 118, 3) := by decide +kernel
theorem bdSR_swap_120 : decode mSR_swap.2.2.1 120 = .ok (.invokevirtual 111, 3) := by decide +kernel
theorem bdSR_swap_123 : decode mSR_swap.2.2.1 123 = .ok (.ireturn, 1) := by decide +kernel
theorem cSR_swap {sg : zSig} {f t : Int32} (ob : okS sg 1) (h0 : 0 ≤ sg 36 2) (h1 : sg 36 2 < 8) (u0 : 0 ≤ sg 36 3) (u1 : sg 36 3 ≤ 8) (t0 : 0 ≤ sg 34 1) (t1 : sg 34 1 ≤ 400) : zG mSR_swap 411 (fun rr h' => (rr = some (.int (-1)) ∧ h' = zN (hRfC sg (-1)) ∧ (¬ ((0 ≤ f ∧ f < t ∧ t ≤ sg 1 2) ∧ yAL sg))) ∨ (rr = some (.int (yWhy sg)) ∧ h' = zN (hRfC sg (yWhy sg)) ∧ (((0 ≤ f ∧ f < t ∧ t ≤ sg 1 2) ∧ yAL sg) ∧ yWhy sg ≠ 0)) ∨ ((0 ≤ f ∧ f < t ∧ t ≤ sg 1 2) ∧ yAL sg ∧ yWhy sg = 0 ∧ ∃ sg1 sg2 sg3 sg4, hBeg sg sg1 12 f t (sg 34 1) ∧ hPut sg1 sg2 (f + 1) (sg 34 1) ∧ hGo sg2 sg3 f (f + 1) ∧ hGo0 sg3 sg4 (f + sg 34 1) (t - 1 + sg 34 1) ∧ rr = some (.int (sg4 1 2)) ∧ h' = zN (hGrC (zup sg4 34 1 0)))) 0 [(0, .ref 0), (1, .int f), (2, .int t)] [] (zN sg) := by
  obtain ⟨⟨n0, n1⟩, ⟨g0, g1⟩, ⟨a0, a1⟩, -⟩ := id ob
  refine zG_run bkSR_swap_0 (lv' := [(0, .ref 0), (1, .int f), (2, .int t)]) (st' := [.int t, .int f, .ref 1]) (h' := zN sg) (Ps := [zOb (zN sg) 0 9 ∧ (zN sg).2.2 0 0 = true]) rfl (zA ⟨zob_0, rfl⟩ trivial) ?_
  refine zG_callv (a := 1) (c := 5) (As := [.int f, .int t]) (rest := []) (N2 := 411) bdSR_swap_6 okShe_isRange lk9_114 (And.intro (by decide) (by decide)) (by decide) rfl rfl rfl (Nat.le_of_ble_eq_true rfl) (Nat.le_of_ble_eq_true rfl) (Nat.le_refl 411) (Nat.le_refl 411) zob_1 cShe_isRange ?_
  rintro rr h' ⟨rfl, rfl⟩ -
  refine zb_ifeq (tgt := 22) bkSR_swap_9 bdSR_swap_9 (by decide) (lv' := [(0, .ref 0), (1, .int f), (2, .int t)]) (st' := []) (h' := zN sg) (x := if 0 ≤ f ∧ f < t ∧ t ≤ sg 1 2 then 1 else 0) (Ps := []) rfl trivial (fun c1 => ?_) (fun c1 => ?_)
  · skip
    refine zG_run bkSR_swap_22 (lv' := [(0, .ref 0), (1, .int f), (2, .int t)]) (st' := [.int (-1), .ref 0]) (h' := zN sg) (Ps := []) rfl trivial ?_
    refine zG_callv (a := 0) (c := 9) (As := [.int (-1)]) (rest := []) (N2 := 411) bdSR_swap_24 okSR_refused lk9_93 (And.intro (by decide) (by decide)) (by decide) rfl rfl rfl (Nat.le_of_ble_eq_true rfl) (Nat.le_of_ble_eq_true rfl) (Nat.le_refl 411) (Nat.le_refl 411) zob_0 (cSR_refused (by decide) (by decide)) ?_
    rintro rr h' ⟨rfl, rfl⟩ -
    refine zb_iret bkSR_swap_27 bdSR_swap_27 rfl (x := (-1)) (h' := zN (hRfC sg (-1))) (Ps := []) rfl trivial rfl ?_
    exact Or.inl ⟨rfl, rfl, by intro q; first | (exact absurd q.1 (by lia)) | (rcases hv with hv | ⟨_, j, j0, j1, j2⟩; lia; exact j2 (q.2 j j0 j1))⟩
  · skip
    refine zG_run bkSR_swap_12 (lv' := [(0, .ref 0), (1, .int f), (2, .int t)]) (st' := [.ref 34]) (h' := zN sg) (Ps := [zOb (zN sg) 0 9 ∧ (zN sg).2.2 0 1 = true]) rfl (zA ⟨zob_0, rfl⟩ trivial) ?_
    refine zG_callv (a := 34) (c := 7) (As := []) (rest := []) (N2 := 411) bdSR_swap_16 okTap_areLetters lk9_89 (And.intro (by decide) (by decide)) (by decide) rfl rfl rfl (Nat.le_of_ble_eq_true rfl) (Nat.le_of_ble_eq_true rfl) (Nat.le_refl 411) (Nat.le_refl 411) zob_34 (cTap_areLetters (by lia) (by lia)) ?_
    rintro rr h' ⟨v2, rfl, rfl, hv⟩ -
    refine zb_ifne (tgt := 28) bkSR_swap_19 bdSR_swap_19 (by decide) (lv' := [(0, .ref 0), (1, .int f), (2, .int t)]) (st' := []) (h' := zN sg) (x := v2) (Ps := []) rfl trivial (fun c3 => ?_) (fun c3 => ?_)
    · skip
      have hal : yAL sg := by rcases hv with hv | hv; exact hv.2; lia
      have hc : (0 ≤ f ∧ f < t ∧ t ≤ sg 1 2) ∧ yAL sg := ⟨by lia, hal⟩
      refine zG_run bkSR_swap_28 (lv' := [(0, .ref 0), (1, .int f), (2, .int t)]) (st' := [.ref 0]) (h' := zN sg) (Ps := []) rfl trivial ?_
      refine zG_callv (a := 0) (c := 9) (As := []) (rest := []) (N2 := 411) bdSR_swap_29 okSR_whyNoRoomForTape lk9_96 (And.intro (by decide) (by decide)) (by decide) rfl rfl rfl (Nat.le_of_ble_eq_true rfl) (Nat.le_of_ble_eq_true rfl) (Nat.le_refl 411) (Nat.le_refl 411) zob_0 cSR_whyNoRoomForTape ?_
      rintro rr h' ⟨rfl, rfl⟩ -
      refine zb_ifeq (tgt := 43) bkSR_swap_32 bdSR_swap_34 (by decide) (lv' := [(3, .int (yWhy sg)), (0, .ref 0), (1, .int f), (2, .int t)]) (st' := []) (h' := zN sg) (x := yWhy sg) (Ps := []) rfl trivial (fun c4 => ?_) (fun c4 => ?_)
      · skip
        have hw := yWhy_0 t0 (by lia)
        refine zG_run bkSR_swap_43 (lv' := [(4, .int (sg 34 1)), (3, .int (yWhy sg)), (0, .ref 0), (1, .int f), (2, .int t)]) (st' := [.int (sg 34 1), .int t, .int f, .int 12, .ref 0]) (h' := zN sg) (Ps := [zOb (zN sg) 0 9 ∧ (zN sg).2.2 0 1 = true, zOb (zN sg) 34 7]) rfl (zA ⟨zob_0, rfl⟩ (zA zob_34 trivial)) ?_
        refine zG_callv (a := 0) (c := 9) (As := [.int 12, .int f, .int t, .int (sg 34 1)]) (rest := []) (N2 := 411) bdSR_swap_59 okSR_begin lk9_100 (And.intro (by decide) (by decide)) (by decide) rfl rfl rfl (Nat.le_of_ble_eq_true rfl) (Nat.le_of_ble_eq_true rfl) (Nat.le_refl 411) (Nat.le_refl 411) zob_0 (cSR_begin ob h0 h1 u0 u1) ?_
        rintro rr h' ⟨sg5, rfl, rfl, hb⟩ -
        have fb := hBeg_fr h0 h1 hb
        have x2 : sg5 1 2 = sg 1 2 := fb 1 2 (by decide) (by decide)
        have x4 : sg5 1 4 = sg 1 4 := fb 1 4 (by decide) (by decide)
        have x6 : sg5 1 6 = sg 1 6 := fb 1 6 (by decide) (by decide)
        have xt : sg5 34 1 = sg 34 1 := fb 34 1 (by decide) (by decide)
        refine zG_run bkSR_swap_62 (lv' := [(4, .int (sg 34 1)), (3, .int (yWhy sg)), (0, .ref 0), (1, .int f), (2, .int t)]) (st' := [.ref 34, .int (f + 1), .ref 1]) (h' := zN sg5) (Ps := [zOb (zN sg5) 0 9 ∧ (zN sg5).2.2 0 0 = true, zOb (zN sg5) 0 9 ∧ (zN sg5).2.2 0 1 = true]) rfl (zA ⟨zob_0, rfl⟩ (zA ⟨zob_0, rfl⟩ trivial)) ?_
        refine zG_callv (a := 1) (c := 5) (As := [.int (f + 1), .ref 34]) (rest := []) (N2 := 411) bdSR_swap_73 okShe_put lk9_104 (And.intro (by decide) (by decide)) (by decide) rfl rfl rfl (Nat.le_of_ble_eq_true rfl) (Nat.le_of_ble_eq_true rfl) (Nat.le_refl 411) (Nat.le_refl 411) zob_1 (cShe_put (p := f + 1) (m := sg 34 1) (by lia) (by lia) (by lia) (by lia) (by lia) (by lia) (by lia) (by lia) (by lia) (by lia) (by lia) (by lia)) ?_
        rintro rr h' ⟨sg6, rfl, rfl, hp⟩ -
        have z2 : sg6 1 2 = sg5 1 2 + sg 34 1 := hp.2.1
        have z4 := hp.1.2.1
        have z6 := hp.1.2.2.1
        refine zG_run bkSR_swap_76 (lv' := [(4, .int (sg 34 1)), (3, .int (yWhy sg)), (0, .ref 0), (1, .int f), (2, .int t)]) (st' := [.int (f + 1), .int f, .ref 1]) (h' := zN sg6) (Ps := [zOb (zN sg6) 0 9 ∧ (zN sg6).2.2 0 0 = true]) rfl (zA ⟨zob_0, rfl⟩ trivial) ?_
        refine zG_callv (a := 1) (c := 5) (As := [.int f, .int (f + 1)]) (rest := []) (N2 := 411) bdSR_swap_84 okShe_lettersGo lk9_118 (And.intro (by decide) (by decide)) (by decide) rfl rfl rfl (Nat.le_of_ble_eq_true rfl) (Nat.le_of_ble_eq_true rfl) (Nat.le_refl 411) (Nat.le_refl 411) zob_1 (cShe_lettersGo (p := f) (q := f + 1) (by lia) (by lia) (by lia) (by lia) (by lia) (by lia) (by lia) (by lia) (by lia)) ?_
        rintro rr h' ⟨sg8, rfl, rfl, hg⟩ -
        have y2 : sg8 1 2 = sg6 1 2 - (f + 1 - f) := hg.2.1
        have y4 := hg.1.2.1
        have y6 := hg.1.2.2.1
        refine zG_run bkSR_swap_87 (lv' := [(4, .int (sg 34 1)), (3, .int (yWhy sg)), (0, .ref 0), (1, .int f), (2, .int t)]) (st' := [.int ((t - 1) + (sg 34 1)), .int (f + (sg 34 1)), .ref 1]) (h' := zN sg8) (Ps := [zOb (zN sg8) 0 9 ∧ (zN sg8).2.2 0 0 = true]) rfl (zA ⟨zob_0, rfl⟩ trivial) ?_
        refine zG_callv (a := 1) (c := 5) (As := [.int (f + (sg 34 1)), .int ((t - 1) + (sg 34 1))]) (rest := []) (N2 := 411) bdSR_swap_101 okShe_lettersGo lk9_118 (And.intro (by decide) (by decide)) (by decide) rfl rfl rfl (Nat.le_of_ble_eq_true rfl) (Nat.le_of_ble_eq_true rfl) (Nat.le_refl 411) (Nat.le_refl 411) zob_1 (cSwapGo (sg := sg8) (p := f + (sg 34 1)) (q := (t - 1) + (sg 34 1)) (by lia) (by lia) (by lia) (by lia) (by lia) (by lia) (by lia) (by lia) (by lia)) ?_
        rintro rr h' ⟨sg9, rfl, rfl, hg2⟩ -
        refine zG_run bkSR_swap_104 (lv' := [(4, .int (sg 34 1)), (3, .int (yWhy sg)), (0, .ref 0), (1, .int f), (2, .int t)]) (st' := [.int ((zup sg9 34 1 0) 1 2), .ref 0]) (h' := zN (zup sg9 34 1 0)) (Ps := [zOb (zN sg9) 0 9 ∧ (zN sg9).2.2 0 1 = true, zOb (zN sg9) 34 7, zOb (zN (zup sg9 34 1 0)) 0 9 ∧ (zN (zup sg9 34 1 0)).2.2 0 0 = true, zOb (zN (zup sg9 34 1 0)) 1 5]) rfl (zA ⟨zob_0, rfl⟩ (zA zob_34 (zA ⟨zob_0, rfl⟩ (zA zob_1 trivial)))) ?_
        refine zG_callv (a := 0) (c := 9) (As := [.int ((zup sg9 34 1 0) 1 2)]) (rest := []) (N2 := 411) bdSR_swap_120 okSR_granted lk9_111 (And.intro (by decide) (by decide)) (by decide) rfl rfl rfl (Nat.le_of_ble_eq_true rfl) (Nat.le_of_ble_eq_true rfl) (Nat.le_refl 411) (Nat.le_refl 411) zob_0 cSR_granted ?_
        rintro rr h' ⟨rfl, rfl⟩ -
        refine zb_iret bkSR_swap_123 bdSR_swap_123 rfl (x := (zup sg9 34 1 0) 1 2) (h' := zN (hGrC (zup sg9 34 1 0))) (Ps := []) rfl trivial rfl ?_
        exact Or.inr (Or.inr (⟨hc.1, hc.2, by lia, _, _, _, _, hb, hp, hg, hg2, by rw [zup_a (by decide)], rfl⟩))
      · skip
        refine zG_run bkSR_swap_37 (lv' := [(3, .int (yWhy sg)), (0, .ref 0), (1, .int f), (2, .int t)]) (st' := [.int (yWhy sg), .ref 0]) (h' := zN sg) (Ps := []) rfl trivial ?_
        refine zG_callv (a := 0) (c := 9) (As := [.int (yWhy sg)]) (rest := []) (N2 := 411) bdSR_swap_39 okSR_refused lk9_93 (And.intro (by decide) (by decide)) (by decide) rfl rfl rfl (Nat.le_of_ble_eq_true rfl) (Nat.le_of_ble_eq_true rfl) (Nat.le_refl 411) (Nat.le_refl 411) zob_0 (cSR_refused (by have := yWhy_rng (sg := sg); lia) (by have := yWhy_rng (sg := sg); lia)) ?_
        rintro rr h' ⟨rfl, rfl⟩ -
        refine zb_iret bkSR_swap_42 bdSR_swap_42 rfl (x := yWhy sg) (h' := zN (hRfC sg (yWhy sg))) (Ps := []) rfl trivial rfl ?_
        exact Or.inr (Or.inl ⟨rfl, rfl, ⟨hc, by lia⟩⟩)
    · skip
      refine zG_run bkSR_swap_22 (lv' := [(0, .ref 0), (1, .int f), (2, .int t)]) (st' := [.int (-1), .ref 0]) (h' := zN sg) (Ps := []) rfl trivial ?_
      refine zG_callv (a := 0) (c := 9) (As := [.int (-1)]) (rest := []) (N2 := 411) bdSR_swap_24 okSR_refused lk9_93 (And.intro (by decide) (by decide)) (by decide) rfl rfl rfl (Nat.le_of_ble_eq_true rfl) (Nat.le_of_ble_eq_true rfl) (Nat.le_refl 411) (Nat.le_refl 411) zob_0 (cSR_refused (by decide) (by decide)) ?_
      rintro rr h' ⟨rfl, rfl⟩ -
      refine zb_iret bkSR_swap_27 bdSR_swap_27 rfl (x := (-1)) (h' := zN (hRfC sg (-1))) (Ps := []) rfl trivial rfl ?_
      exact Or.inl ⟨rfl, rfl, by intro q; first | (exact absurd q.1 (by lia)) | (rcases hv with hv | ⟨_, j, j0, j1, j2⟩; lia; exact j2 (q.2 j j0 j1))⟩
def nPt (sg : zSig) (f on of co gr i a : Int32) : Int32 := if f ≤ i ∧ fBr (sg 3 i) on of co gr ≠ sg 3 i then a + 1 else a
theorem bkSR_paint_0 : zBk mSR_paint 0 [(1, 0, 1, 0, 0), (5, 9, 0, 1, 0), (1, 1, 0, 0, 0), (1, 2, 0, 0, 0)] = some 6 := by decide +kernel
theorem bkSR_paint_9 : zBk mSR_paint 9 [] = some 9 := by decide +kernel
theorem bkSR_paint_25 : zBk mSR_paint 25 [(1, 0, 1, 0, 0), (0, 0, 0, 0, -1)] = some 27 := by decide +kernel
theorem bkSR_paint_30 : zBk mSR_paint 30 [] = some 30 := by decide +kernel
theorem bkSR_paint_12 : zBk mSR_paint 12 [(1, 3, 0, 0, 0), (1, 4, 0, 0, 0), (1, 5, 0, 0, 0), (1, 6, 0, 0, 0)] = some 19 := by decide +kernel
theorem bkSR_paint_22 : zBk mSR_paint 22 [] = some 22 := by decide +kernel
theorem bkSR_paint_31 : zBk mSR_paint 31 [(1, 0, 1, 0, 0), (0, 0, 0, 0, 7), (0, 0, 0, 0, 0), (0, 0, 0, 0, 0), (0, 0, 0, 0, 0)] = some 37 := by decide +kernel
theorem bkSR_paint_40 : zBk mSR_paint 40 [(0, 0, 0, 0, 0), (2, 7, 0, 0, 0), (1, 1, 0, 0, 0), (2, 8, 0, 0, 0)] = some 46 := by decide +kernel
theorem bkSR_paint_46 : zBk mSR_paint 46 [(1, 8, 0, 0, 0), (1, 2, 0, 0, 0)] = some 49 := by decide +kernel
theorem bkSR_paint_110 : zBk mSR_paint 110 [(1, 0, 1, 0, 0), (1, 7, 0, 0, 0)] = some 113 := by decide +kernel
theorem bkSR_paint_116 : zBk mSR_paint 116 [] = some 116 := by decide +kernel
theorem bkSR_paint_52 : zBk mSR_paint 52 [(1, 0, 1, 0, 0), (5, 9, 0, 1, 0), (5, 5, 1, 2, 1), (1, 8, 0, 0, 0), (7, 0, 0, 0, 0), (1, 3, 0, 0, 0), (1, 4, 0, 0, 0), (1, 5, 0, 0, 0), (1, 6, 0, 0, 0)] = some 69 := by decide +kernel
theorem bkSR_paint_72 : zBk mSR_paint 72 [(2, 9, 0, 0, 0), (1, 9, 0, 0, 0), (1, 0, 1, 0, 0), (5, 9, 0, 1, 0), (5, 5, 1, 2, 1), (1, 8, 0, 0, 0), (7, 0, 0, 0, 0)] = some 86 := by decide +kernel
theorem bkSR_paint_92 : zBk mSR_paint 92 [(1, 0, 1, 0, 0), (5, 9, 0, 1, 0), (5, 5, 1, 2, 1), (1, 8, 0, 0, 0), (1, 9, 0, 0, 0), (8, 0, 0, 0, 0), (3, 8, 0, 0, 1), (22, 46, 0, 0, 0)] = some 46 := by decide +kernel
theorem bkSR_paint_89 : zBk mSR_paint 89 [(3, 7, 0, 0, 1), (1, 0, 1, 0, 0), (5, 9, 0, 1, 0), (5, 5, 1, 2, 1), (1, 8, 0, 0, 0), (1, 9, 0, 0, 0), (8, 0, 0, 0, 0), (3, 8, 0, 0, 1), (22, 46, 0, 0, 0)] = some 46 := by decide +kernel
theorem bdSR_paint_6 : decode mSR_paint.2.2.1 6 = .ok (.invokevirtual 114, 3) := by decide +kernel
theorem bdSR_paint_9 : decode mSR_paint.2.2.1 9 = .ok (.ifCond .eq 16, 3) := by decide +kernel
theorem bdSR_paint_19 : decode mSR_paint.2.2.1 19 = .ok (.invokestatic 129, 3) := by decide +kernel
theorem bdSR_paint_22 : decode mSR_paint.2.2.1 22 = .ok (.ifCond .ne 9, 3) := by decide +kernel
theorem bdSR_paint_27 : decode mSR_paint.2.2.1 27 = .ok (.invokevirtual 93, 3) := by decide +kernel
theorem bdSR_paint_30 : decode mSR_paint.2.2.1 30 = .ok (.ireturn, 1) := by decide +kernel
theorem bdSR_paint_37 : decode mSR_paint.2.2.1 37 = .ok (.invokevirtual 100, 3) := by decide +kernel
theorem bdSR_paint_49 : decode mSR_paint.2.2.1 49 = .ok (.if_icmp .ge 61, 3) := by decide +kernel
theorem bdSR_paint_69 : decode mSR_paint.2.2.1 69 = .ok (.invokestatic 178, 3) := by decide +kernel
theorem bdSR_paint_86 : decode mSR_paint.2.2.1 86 = .ok (.if_icmp .eq 6, 3) := by decide +kernel
theorem bdSR_paint_113 : decode mSR_paint.2.2.1 113 = .ok (.invokevirtual 111, 3) := by decide +kernel
theorem bdSR_paint_116 : decode mSR_paint.2.2.1 116 = .ok (.ireturn, 1) := by decide +kernel
theorem lSR_paint {sg : zSig} {f t on of co gr : Int32} (ob : okS sg 1) (h0 : 0 ≤ sg 36 2) (h1 : sg 36 2 < 8) (u0 : 0 ≤ sg 36 3) (u1 : sg 36 3 ≤ 8) {Q : Option Value → zHp → Prop} (hq : ∀ rr h', ((rr = some (.int (-1)) ∧ h' = zN (hRfC sg (-1)) ∧ (¬ ((0 ≤ f ∧ f < t ∧ t ≤ sg 1 2) ∧ (0 ≤ on ∧ on ≤ 15) ∧ (0 ≤ of ∧ of ≤ 15) ∧ (co = -1 ∨ (0 ≤ co ∧ co ≤ 7)) ∧ -3 ≤ gr ∧ gr ≤ 3))) ∨ (((0 ≤ f ∧ f < t ∧ t ≤ sg 1 2) ∧ (0 ≤ on ∧ on ≤ 15) ∧ (0 ≤ of ∧ of ≤ 15) ∧ (co = -1 ∨ (0 ≤ co ∧ co ≤ 7)) ∧ -3 ≤ gr ∧ gr ≤ 3) ∧ ∃ sg1 sg2, hBeg sg sg1 7 0 0 0 ∧ (∀ c j, c ≠ 3 → sg2 c j = sg1 c j) ∧ (∀ j, sg2 3 j = if f ≤ j ∧ j < t then fBr (sg1 3 j) on of co gr else sg1 3 j) ∧ rr = some (.int (zit (nPt sg f on of co gr) 0 t)) ∧ h' = zN (hGrC sg2))) → Q rr h') : zG mSR_paint 411 Q 0 [(0, .ref 0), (1, .int f), (2, .int t), (3, .int on), (4, .int of), (5, .int co), (6, .int gr)] [] (zN sg) := by
  obtain ⟨⟨n0, n1⟩, ⟨g0, g1⟩, ⟨a0, a1⟩, -⟩ := id ob
  refine zG_run bkSR_paint_0 (lv' := [(0, .ref 0), (1, .int f), (2, .int t), (3, .int on), (4, .int of), (5, .int co), (6, .int gr)]) (st' := [.int t, .int f, .ref 1]) (h' := zN sg) (Ps := [zOb (zN sg) 0 9 ∧ (zN sg).2.2 0 0 = true]) rfl (zA ⟨zob_0, rfl⟩ trivial) ?_
  refine zG_callv (a := 1) (c := 5) (As := [.int f, .int t]) (rest := []) (N2 := 411) bdSR_paint_6 okShe_isRange lk9_114 (And.intro (by decide) (by decide)) (by decide) rfl rfl rfl (Nat.le_of_ble_eq_true rfl) (Nat.le_of_ble_eq_true rfl) (Nat.le_refl 411) (Nat.le_refl 411) zob_1 cShe_isRange ?_
  rintro rr h' ⟨rfl, rfl⟩ -
  refine zb_ifeq (tgt := 25) bkSR_paint_9 bdSR_paint_9 (by decide) (lv' := [(0, .ref 0), (1, .int f), (2, .int t), (3, .int on), (4, .int of), (5, .int co), (6, .int gr)]) (st' := []) (h' := zN sg) (x := if 0 ≤ f ∧ f < t ∧ t ≤ sg 1 2 then 1 else 0) (Ps := []) rfl trivial (fun c1 => ?_) (fun c1 => ?_)
  · skip
    refine zG_run bkSR_paint_25 (lv' := [(0, .ref 0), (1, .int f), (2, .int t), (3, .int on), (4, .int of), (5, .int co), (6, .int gr)]) (st' := [.int (-1), .ref 0]) (h' := zN sg) (Ps := []) rfl trivial ?_
    refine zG_callv (a := 0) (c := 9) (As := [.int (-1)]) (rest := []) (N2 := 411) bdSR_paint_27 okSR_refused lk9_93 (And.intro (by decide) (by decide)) (by decide) rfl rfl rfl (Nat.le_of_ble_eq_true rfl) (Nat.le_of_ble_eq_true rfl) (Nat.le_refl 411) (Nat.le_refl 411) zob_0 (cSR_refused (by decide) (by decide)) ?_
    rintro rr h' ⟨rfl, rfl⟩ -
    refine zb_iret bkSR_paint_30 bdSR_paint_30 rfl (x := (-1)) (h' := zN (hRfC sg (-1))) (Ps := []) rfl trivial rfl ?_
    refine hq _ _ ?_
    exact Or.inl ⟨rfl, rfl, by grind⟩
  · skip
    refine zG_run bkSR_paint_12 (lv' := [(0, .ref 0), (1, .int f), (2, .int t), (3, .int on), (4, .int of), (5, .int co), (6, .int gr)]) (st' := [.int gr, .int co, .int of, .int on]) (h' := zN sg) (Ps := []) rfl trivial ?_
    refine zG_calls (As := [.int on, .int of, .int co, .int gr]) (rest := []) (N2 := 411) bdSR_paint_19 okSR_isBrush lk9_129 (And.intro (by decide) (by decide)) rfl rfl (Nat.le_of_ble_eq_true rfl) (Nat.le_of_ble_eq_true rfl) (Nat.le_refl 411) (Nat.le_refl 411) cSR_isBrush ?_
    rintro rr h' ⟨rfl, rfl⟩ -
    refine zb_ifne (tgt := 31) bkSR_paint_22 bdSR_paint_22 (by decide) (lv' := [(0, .ref 0), (1, .int f), (2, .int t), (3, .int on), (4, .int of), (5, .int co), (6, .int gr)]) (st' := []) (h' := zN sg) (x := if (0 ≤ on ∧ on ≤ 15) ∧ (0 ≤ of ∧ of ≤ 15) ∧ (co = -1 ∨ (0 ≤ co ∧ co ≤ 7)) ∧ -3 ≤ gr ∧ gr ≤ 3 then 1 else 0) (Ps := []) rfl trivial (fun c2 => ?_) (fun c2 => ?_)
    · skip
      have hc : (0 ≤ f ∧ f < t ∧ t ≤ sg 1 2) ∧ (0 ≤ on ∧ on ≤ 15) ∧ (0 ≤ of ∧ of ≤ 15) ∧ (co = -1 ∨ (0 ≤ co ∧ co ≤ 7)) ∧ -3 ≤ gr ∧ gr ≤ 3 := by grind (splits := 30)
      refine zG_run bkSR_paint_31 (lv' := [(0, .ref 0), (1, .int f), (2, .int t), (3, .int on), (4, .int of), (5, .int co), (6, .int gr)]) (st' := [.int 0, .int 0, .int 0, .int 7, .ref 0]) (h' := zN sg) (Ps := []) rfl trivial ?_
      refine zG_callv (a := 0) (c := 9) (As := [.int 7, .int 0, .int 0, .int 0]) (rest := []) (N2 := 411) bdSR_paint_37 okSR_begin lk9_100 (And.intro (by decide) (by decide)) (by decide) rfl rfl rfl (Nat.le_of_ble_eq_true rfl) (Nat.le_of_ble_eq_true rfl) (Nat.le_refl 411) (Nat.le_refl 411) zob_0 (cSR_begin ob h0 h1 u0 u1) ?_
      rintro rr h' ⟨sg3, rfl, rfl, hb⟩ -
      have fb := hBeg_fr h0 h1 hb
      have x2 : sg3 1 2 = sg 1 2 := fb 1 2 (by decide) (by decide)
      have x4 : sg3 1 4 = sg 1 4 := fb 1 4 (by decide) (by decide)
      have x6 : sg3 1 6 = sg 1 6 := fb 1 6 (by decide) (by decide)
      have xt : sg3 34 1 = sg 34 1 := fb 34 1 (by decide) (by decide)
      refine zG_run bkSR_paint_40 (lv' := [(8, .int f), (7, .int 0), (0, .ref 0), (1, .int f), (2, .int t), (3, .int on), (4, .int of), (5, .int co), (6, .int gr)]) (st' := []) (h' := zN sg3) (Ps := []) rfl trivial ?_
      refine zG_pick (lv' := [(0, .ref 0), (1, .int f), (2, .int t), (3, .int on), (4, .int of), (5, .int co), (6, .int gr), (7, .int 0), (8, .int f)]) [2, 3, 4, 5, 6, 7, 8, 1, 0] rfl ?_
      refine zlp3 (fun (n : Int32) (i : Int32) (sg2 : zSig) => zG mSR_paint 411 Q 46 [(0, .ref 0), (1, .int f), (2, .int t), (3, .int on), (4, .int of), (5, .int co), (6, .int gr), (7, .int n), (8, .int i)] [] (zN sg2)) (fun (n : Int32) (i : Int32) (sg2 : zSig) => (f ≤ i) ∧ (i ≤ t) ∧ (n = zit (nPt sg f on of co gr) 0 i) ∧ (∀ c j, c ≠ 3 → sg2 c j = sg3 c j) ∧ (∀ j, sg2 3 j = if f ≤ j ∧ j < i then fBr (sg3 3 j) on of co gr else sg3 3 j)) (fun (n : Int32) (i : Int32) (sg2 : zSig) => zmu t i) ?_ 0 f sg3 ?_
      · intro n i sg2 hI ih
        obtain ⟨i0, i1, ic, iff, ip⟩ := hI
        refine zb_icge (tgt := 110) bkSR_paint_46 bdSR_paint_49 (by decide) (lv' := [(0, .ref 0), (1, .int f), (2, .int t), (3, .int on), (4, .int of), (5, .int co), (6, .int gr), (7, .int n), (8, .int i)]) (st' := []) (h' := zN sg2) (x := i) (y := t) (Ps := []) rfl trivial (fun c4 => ?_) (fun c4 => ?_)
        · skip
          refine zG_run bkSR_paint_110 (lv' := [(0, .ref 0), (1, .int f), (2, .int t), (3, .int on), (4, .int of), (5, .int co), (6, .int gr), (7, .int n), (8, .int i)]) (st' := [.int n, .ref 0]) (h' := zN sg2) (Ps := []) rfl trivial ?_
          refine zG_callv (a := 0) (c := 9) (As := [.int n]) (rest := []) (N2 := 411) bdSR_paint_113 okSR_granted lk9_111 (And.intro (by decide) (by decide)) (by decide) rfl rfl rfl (Nat.le_of_ble_eq_true rfl) (Nat.le_of_ble_eq_true rfl) (Nat.le_refl 411) (Nat.le_refl 411) zob_0 cSR_granted ?_
          rintro rr h' ⟨rfl, rfl⟩ -
          refine zb_iret bkSR_paint_116 bdSR_paint_116 rfl (x := n) (h' := zN (hGrC sg2)) (Ps := []) rfl trivial rfl ?_
          refine hq _ _ ?_
          have ei : i = t := by lia
          subst ei
          exact Or.inr (⟨hc, _, _, hb, iff, ip, by rw [ic], rfl⟩)
        · skip
          refine zG_run bkSR_paint_52 (lv' := [(0, .ref 0), (1, .int f), (2, .int t), (3, .int on), (4, .int of), (5, .int co), (6, .int gr), (7, .int n), (8, .int i)]) (st' := [.int gr, .int co, .int of, .int on, .int (sg2 3 i)]) (h' := zN sg2) (Ps := [zOb (zN sg2) 0 9 ∧ (zN sg2).2.2 0 0 = true, zOb (zN sg2) 1 5 ∧ (zN sg2).2.2 1 1 = true, zInL (zN sg2) 3 i]) rfl (zA ⟨zob_0, rfl⟩ (zA ⟨zob_1, rfl⟩ (zA (zinL_3 (i := i) (by lia) (by lia)) trivial))) ?_
          refine zG_calls (As := [.int (sg2 3 i), .int on, .int of, .int co, .int gr]) (rest := []) (N2 := 411) bdSR_paint_69 okSty_brushed lk9_178 (And.intro (by decide) (by decide)) rfl rfl (Nat.le_of_ble_eq_true rfl) (Nat.le_of_ble_eq_true rfl) (Nat.le_refl 411) (Nat.le_refl 411) cSty_brushed ?_
          rintro rr h' ⟨rfl, rfl⟩ -
          refine zb_iceq (tgt := 92) bkSR_paint_72 bdSR_paint_86 (by decide) (lv' := [(9, .int (fBr (sg2 3 i) on of co gr)), (0, .ref 0), (1, .int f), (2, .int t), (3, .int on), (4, .int of), (5, .int co), (6, .int gr), (7, .int n), (8, .int i)]) (st' := []) (h' := zN sg2) (x := fBr (sg2 3 i) on of co gr) (y := sg2 3 i) (Ps := [zOb (zN sg2) 0 9 ∧ (zN sg2).2.2 0 0 = true, zOb (zN sg2) 1 5 ∧ (zN sg2).2.2 1 1 = true, zInL (zN sg2) 3 i]) rfl (zA ⟨zob_0, rfl⟩ (zA ⟨zob_1, rfl⟩ (zA (zinL_3 (i := i) (by lia) (by lia)) trivial))) (fun c5 => ?_) (fun c5 => ?_)
          · skip
            refine zG_run bkSR_paint_92 (lv' := [(8, .int (i + 1)), (9, .int (fBr (sg2 3 i) on of co gr)), (0, .ref 0), (1, .int f), (2, .int t), (3, .int on), (4, .int of), (5, .int co), (6, .int gr), (7, .int n)]) (st' := []) (h' := zN (zup sg2 3 i (fBr (sg2 3 i) on of co gr))) (Ps := [zOb (zN sg2) 0 9 ∧ (zN sg2).2.2 0 0 = true, zOb (zN sg2) 1 5 ∧ (zN sg2).2.2 1 1 = true, zIn (zN sg2) 3 0 i]) rfl (zA ⟨zob_0, rfl⟩ (zA ⟨zob_1, rfl⟩ (zA (zin_3 (i := i) (by lia) (by lia)) trivial))) ?_
            refine zG_pick (lv' := [(0, .ref 0), (1, .int f), (2, .int t), (3, .int on), (4, .int of), (5, .int co), (6, .int gr), (7, .int n), (8, .int (i + 1))]) [2, 3, 4, 5, 6, 7, 8, 9, 0] rfl ?_
            refine ih n (i + 1) (zup sg2 3 i (fBr (sg2 3 i) on of co gr)) ?_ ?_
            · refine ⟨?_, ?_, ?_, ?_, ?_⟩
              · lia
              · lia
              · rw [zit_s _ _ (by lia : 0 ≤ i) (by lia : i < t), ← ic]; have e1 := ip i; rw [if_neg (by lia), fb 3 i (by decide) (by decide)] at e1; unfold nPt; clear ih hq ip iff hb fb; grind
              · intro c j h; rw [zup_a h]; exact iff c j h
              · intro j; rw [zup_e]; have e1 := ip i; rw [if_neg (by lia)] at e1; have e2 := ip j
                by_cases hj : j = i
                · subst hj; rw [if_pos ⟨rfl, rfl⟩, if_pos (by lia), e1]
                · rw [if_neg (fun q => hj q.2), e2]; by_cases hk : f ≤ j ∧ j < i
                  · rw [if_pos hk, if_pos (by lia)]
                  · rw [if_neg hk, if_neg (by lia)]
            · exact zmu_up (by lia)
          · skip
            refine zG_run bkSR_paint_89 (lv' := [(8, .int (i + 1)), (7, .int (n + 1)), (9, .int (fBr (sg2 3 i) on of co gr)), (0, .ref 0), (1, .int f), (2, .int t), (3, .int on), (4, .int of), (5, .int co), (6, .int gr)]) (st' := []) (h' := zN (zup sg2 3 i (fBr (sg2 3 i) on of co gr))) (Ps := [zOb (zN sg2) 0 9 ∧ (zN sg2).2.2 0 0 = true, zOb (zN sg2) 1 5 ∧ (zN sg2).2.2 1 1 = true, zIn (zN sg2) 3 0 i]) rfl (zA ⟨zob_0, rfl⟩ (zA ⟨zob_1, rfl⟩ (zA (zin_3 (i := i) (by lia) (by lia)) trivial))) ?_
            refine zG_pick (lv' := [(0, .ref 0), (1, .int f), (2, .int t), (3, .int on), (4, .int of), (5, .int co), (6, .int gr), (7, .int (n + 1)), (8, .int (i + 1))]) [3, 4, 5, 6, 7, 8, 9, 1, 0] rfl ?_
            refine ih (n + 1) (i + 1) (zup sg2 3 i (fBr (sg2 3 i) on of co gr)) ?_ ?_
            · refine ⟨?_, ?_, ?_, ?_, ?_⟩
              · lia
              · lia
              · rw [zit_s _ _ (by lia : 0 ≤ i) (by lia : i < t), ← ic]; have e1 := ip i; rw [if_neg (by lia), fb 3 i (by decide) (by decide)] at e1; unfold nPt; clear ih hq ip iff hb fb; grind
              · intro c j h; rw [zup_a h]; exact iff c j h
              · intro j; rw [zup_e]; have e1 := ip i; rw [if_neg (by lia)] at e1; have e2 := ip j
                by_cases hj : j = i
                · subst hj; rw [if_pos ⟨rfl, rfl⟩, if_pos (by lia), e1]
                · rw [if_neg (fun q => hj q.2), e2]; by_cases hk : f ≤ j ∧ j < i
                  · rw [if_pos hk, if_pos (by lia)]
                  · rw [if_neg hk, if_neg (by lia)]
            · exact zmu_up (by lia)
      · refine ⟨?_, ?_, ?_, ?_, ?_⟩
        · lia
        · lia
        · rw [zit_id (by lia)]; intro i x h1 h2; unfold nPt; rw [if_neg (by lia)]
        · intro c j _; rfl
        · intro j; rw [if_neg (by lia)]
    · skip
      refine zG_run bkSR_paint_25 (lv' := [(0, .ref 0), (1, .int f), (2, .int t), (3, .int on), (4, .int of), (5, .int co), (6, .int gr)]) (st' := [.int (-1), .ref 0]) (h' := zN sg) (Ps := []) rfl trivial ?_
      refine zG_callv (a := 0) (c := 9) (As := [.int (-1)]) (rest := []) (N2 := 411) bdSR_paint_27 okSR_refused lk9_93 (And.intro (by decide) (by decide)) (by decide) rfl rfl rfl (Nat.le_of_ble_eq_true rfl) (Nat.le_of_ble_eq_true rfl) (Nat.le_refl 411) (Nat.le_refl 411) zob_0 (cSR_refused (by decide) (by decide)) ?_
      rintro rr h' ⟨rfl, rfl⟩ -
      refine zb_iret bkSR_paint_30 bdSR_paint_30 rfl (x := (-1)) (h' := zN (hRfC sg (-1))) (Ps := []) rfl trivial rfl ?_
      refine hq _ _ ?_
      exact Or.inl ⟨rfl, rfl, by grind⟩
theorem cSR_paint {sg : zSig} {f t on of co gr : Int32} (ob : okS sg 1) (h0 : 0 ≤ sg 36 2) (h1 : sg 36 2 < 8) (u0 : 0 ≤ sg 36 3) (u1 : sg 36 3 ≤ 8) : zG mSR_paint 411 (fun rr h' => (rr = some (.int (-1)) ∧ h' = zN (hRfC sg (-1)) ∧ (¬ ((0 ≤ f ∧ f < t ∧ t ≤ sg 1 2) ∧ (0 ≤ on ∧ on ≤ 15) ∧ (0 ≤ of ∧ of ≤ 15) ∧ (co = -1 ∨ (0 ≤ co ∧ co ≤ 7)) ∧ -3 ≤ gr ∧ gr ≤ 3))) ∨ (((0 ≤ f ∧ f < t ∧ t ≤ sg 1 2) ∧ (0 ≤ on ∧ on ≤ 15) ∧ (0 ≤ of ∧ of ≤ 15) ∧ (co = -1 ∨ (0 ≤ co ∧ co ≤ 7)) ∧ -3 ≤ gr ∧ gr ≤ 3) ∧ ∃ sg1 sg2, hBeg sg sg1 7 0 0 0 ∧ (∀ c j, c ≠ 3 → sg2 c j = sg1 c j) ∧ (∀ j, sg2 3 j = if f ≤ j ∧ j < t then fBr (sg1 3 j) on of co gr else sg1 3 j) ∧ rr = some (.int (zit (nPt sg f on of co gr) 0 t)) ∧ h' = zN (hGrC sg2))) 0 [(0, .ref 0), (1, .int f), (2, .int t), (3, .int on), (4, .int of), (5, .int co), (6, .int gr)] [] (zN sg) := lSR_paint ob h0 h1 u0 u1 (fun _ _ q => q)
theorem hLk_fr {sg sg1 : zSig} (h : hLk sg sg1) : ∀ c j, 1 ≤ c → c ≠ 313 → c ≠ 314 → sg1 c j = sg c j := fun c j h1 h2 h3 => h.1 c j h2 h3 (by omega)
theorem hBeg_14 {sg sg1 : zSig} {k x y z : Int32} (h0 : 0 ≤ sg 36 2) (h1 : sg 36 2 < 8) (h : hBeg sg sg1 k x y z) : ∀ j, sg1 314 j = sg 314 j := by
  obtain ⟨s, ⟨hk, -⟩, rfl⟩ := h
  have hr := zel37_rng h0 h1
  intro j
  rw [zup_a (by omega)]
  exact hk 314 j (by omega) (by omega)
theorem bkSR_fast_0 : zBk mSR_fast 0 [(1, 0, 1, 0, 0)] = some 1 := by decide +kernel
theorem bkSR_fast_4 : zBk mSR_fast 4 [(2, 1, 1, 0, 0), (1, 0, 1, 0, 0), (0, 0, 0, 0, 8), (0, 0, 0, 0, 0), (0, 0, 0, 0, 0), (0, 0, 0, 0, 0)] = some 11 := by decide +kernel
theorem bkSR_fast_14 : zBk mSR_fast 14 [(0, 0, 0, 0, 0), (2, 2, 0, 0, 0)] = some 16 := by decide +kernel
theorem bkSR_fast_16 : zBk mSR_fast 16 [(1, 2, 0, 0, 0), (1, 0, 1, 0, 0), (5, 9, 0, 1, 0), (5, 5, 2, 0, 2)] = some 24 := by decide +kernel
theorem bkSR_fast_48 : zBk mSR_fast 48 [(1, 0, 1, 0, 0), (5, 9, 0, 1, 0)] = some 52 := by decide +kernel
theorem bkSR_fast_55 : zBk mSR_fast 55 [(2, 2, 0, 0, 0), (0, 0, 0, 0, 0), (2, 3, 0, 0, 0)] = some 58 := by decide +kernel
theorem bkSR_fast_58 : zBk mSR_fast 58 [(1, 3, 0, 0, 0), (0, 0, 0, 0, 16)] = some 61 := by decide +kernel
theorem bkSR_fast_83 : zBk mSR_fast 83 [(1, 2, 0, 0, 0)] = some 84 := by decide +kernel
theorem bkSR_fast_64 : zBk mSR_fast 64 [(1, 0, 1, 0, 0), (5, 9, 0, 1, 0), (5, 5, 3, 3, 3), (1, 3, 0, 0, 0), (9, 0, 0, 0, 0), (0, 0, 0, 0, 0), (6, 6, 0, 1, 0), (3, 3, 0, 0, 1), (22, 58, 0, 0, 0)] = some 58 := by decide +kernel
theorem bkSR_fast_27 : zBk mSR_fast 27 [(1, 0, 1, 0, 0), (5, 9, 0, 1, 0), (5, 5, 1, 2, 1), (1, 2, 0, 0, 0), (1, 1, 1, 0, 0), (5, 3, 0, 1, 0), (1, 2, 0, 0, 0), (7, 0, 0, 0, 0), (8, 0, 0, 0, 0), (3, 2, 0, 0, 1), (22, 16, 0, 0, 0)] = some 16 := by decide +kernel
theorem bdSR_fast_1 : decode mSR_fast.2.2.1 1 = .ok (.invokevirtual 184, 3) := by decide +kernel
theorem bdSR_fast_11 : decode mSR_fast.2.2.1 11 = .ok (.invokevirtual 100, 3) := by decide +kernel
theorem bdSR_fast_24 : decode mSR_fast.2.2.1 24 = .ok (.if_icmp .ge 24, 3) := by decide +kernel
theorem bdSR_fast_52 : decode mSR_fast.2.2.1 52 = .ok (.invokevirtual 172, 3) := by decide +kernel
theorem bdSR_fast_61 : decode mSR_fast.2.2.1 61 = .ok (.if_icmp .ge 22, 3) := by decide +kernel
theorem bdSR_fast_84 : decode mSR_fast.2.2.1 84 = .ok (.ireturn, 1) := by decide +kernel
theorem lSR_fast {sg : zSig}  (ob : okS sg 1) (h0 : 0 ≤ sg 36 2) (h1 : sg 36 2 < 8) (u0 : 0 ≤ sg 36 3) (u1 : sg 36 3 ≤ 8) (hf : okF sg) {Q : Option Value → zHp → Prop} (hq : ∀ rr h', (∃ sg0 sg1 sg3, hLk sg sg0 ∧ hBeg sg0 sg1 8 0 0 0 ∧ (∀ c j, c ≠ 3 → (c < 6 ∨ 22 ≤ c) → sg3 c j = sg1 c j) ∧ (∀ j, 0 ≤ j → j < sg 1 2 → sg3 3 j = cS sg (-1) (-1) 0 j) ∧ (∀ k, 0 ≤ k → k < 16 → sg3 (zel 4 k) 0 = 0) ∧ rr = some (.int (zit (nSp sg) 0 (sg 1 4))) ∧ h' = zN sg3) → Q rr h') : zG mSR_fast 411 Q 0 [(0, .ref 0)] [] (zN sg) := by
  obtain ⟨⟨n0, n1⟩, ⟨g0, g1⟩, ⟨a0, a1⟩, -⟩ := id ob
  refine zG_run bkSR_fast_0 (lv' := [(0, .ref 0)]) (st' := [.ref 0]) (h' := zN sg) (Ps := []) rfl trivial ?_
  refine zG_callv (a := 0) (c := 9) (As := []) (rest := []) (N2 := 411) bdSR_fast_1 okSR_looksNow lk9_184 (And.intro (by decide) (by decide)) (by decide) rfl rfl rfl (Nat.le_of_ble_eq_true rfl) (Nat.le_of_ble_eq_true rfl) (Nat.le_refl 411) (Nat.le_refl 411) zob_0 (cSR_looksNow ob hf) ?_
  rintro rr h' ⟨sg0, rfl, rfl, hl⟩ -
  have fl := hLk_fr hl
  have k0 : sg0 36 2 = sg 36 2 := fl 36 2 (by decide) (by decide) (by decide)
  have k1 : sg0 36 3 = sg 36 3 := fl 36 3 (by decide) (by decide) (by decide)
  have y2 : sg0 1 2 = sg 1 2 := fl 1 2 (by decide) (by decide) (by decide)
  have y4 : sg0 1 4 = sg 1 4 := fl 1 4 (by decide) (by decide) (by decide)
  have y6 : sg0 1 6 = sg 1 6 := fl 1 6 (by decide) (by decide) (by decide)
  have ob0 : okS sg0 1 := okS_move iSh_1 ob (fun c j g1 g2 => fl c j (by omega) (by omega) (by omega))
  refine zG_run bkSR_fast_4 (lv' := [(1, .ref 313), (0, .ref 0)]) (st' := [.int 0, .int 0, .int 0, .int 8, .ref 0]) (h' := zN sg0) (Ps := []) rfl trivial ?_
  refine zG_callv (a := 0) (c := 9) (As := [.int 8, .int 0, .int 0, .int 0]) (rest := []) (N2 := 411) bdSR_fast_11 okSR_begin lk9_100 (And.intro (by decide) (by decide)) (by decide) rfl rfl rfl (Nat.le_of_ble_eq_true rfl) (Nat.le_of_ble_eq_true rfl) (Nat.le_refl 411) (Nat.le_refl 411) zob_0 (cSR_begin ob0 (by lia) (by lia) (by lia) (by lia)) ?_
  rintro rr h' ⟨sg1, rfl, rfl, hb⟩ -
  have fb := hBeg_fr (by lia) (by lia) hb
  have f14 : ∀ j, sg1 314 j = sg0 314 j := hBeg_14 (by lia) (by lia) hb
  have x2 : sg1 1 2 = sg0 1 2 := fb 1 2 (by decide) (by decide)
  have x4 : sg1 1 4 = sg0 1 4 := fb 1 4 (by decide) (by decide)
  refine zG_run bkSR_fast_14 (lv' := [(2, .int 0), (1, .ref 313), (0, .ref 0)]) (st' := []) (h' := zN sg1) (Ps := []) rfl trivial ?_
  refine zG_pick (lv' := [(0, .ref 0), (1, .ref 313), (2, .int 0)]) [2, 1, 0] rfl ?_
  refine zlp2 (fun (i : Int32) (sg2 : zSig) => zG mSR_fast 411 Q 16 [(0, .ref 0), (1, .ref 313), (2, .int i)] [] (zN sg2)) (fun (i : Int32) (sg2 : zSig) => (0 ≤ i) ∧ (i ≤ sg 1 2) ∧ (∀ c j, c ≠ 3 → sg2 c j = sg1 c j) ∧ (∀ j, 0 ≤ j → j < i → sg2 3 j = sg0 314 j)) (fun (i : Int32) (sg2 : zSig) => zmu (sg 1 2) i) ?_ 0 sg1 ?_
  · intro i sg2 hI ih
    obtain ⟨i0, i1, fi, ip⟩ := hI
    have i2 : sg2 1 2 = sg 1 2 := by rw [fi 1 2 (by decide), x2]; exact y2
    refine zb_icge (tgt := 48) bkSR_fast_16 bdSR_fast_24 (by decide) (lv' := [(0, .ref 0), (1, .ref 313), (2, .int i)]) (st' := []) (h' := zN sg2) (x := i) (y := sg2 1 2) (Ps := [zOb (zN sg2) 0 9 ∧ (zN sg2).2.2 0 0 = true, zOb (zN sg2) 1 5]) rfl (zA ⟨zob_0, rfl⟩ (zA zob_1 trivial)) (fun c1 => ?_) (fun c1 => ?_)
    · skip
      refine zG_run bkSR_fast_48 (lv' := [(0, .ref 0), (1, .ref 313), (2, .int i)]) (st' := [.ref 1]) (h' := zN sg2) (Ps := [zOb (zN sg2) 0 9 ∧ (zN sg2).2.2 0 0 = true]) rfl (zA ⟨zob_0, rfl⟩ trivial) ?_
      refine zG_callv (a := 1) (c := 5) (As := []) (rest := []) (N2 := 411) bdSR_fast_52 okShe_standingSpans lk9_172 (And.intro (by decide) (by decide)) (by decide) rfl rfl rfl (Nat.le_of_ble_eq_true rfl) (Nat.le_of_ble_eq_true rfl) (Nat.le_refl 411) (Nat.le_refl 411) zob_1 (cShe_standingSpans (by rw [fi 1 4 (by decide)]; lia) (by rw [fi 1 4 (by decide)]; lia)) ?_
      rintro rr h' ⟨rfl, rfl⟩ -
      refine zG_run bkSR_fast_55 (lv' := [(3, .int 0), (2, .int (zit (nSp sg2) 0 (sg2 1 4))), (0, .ref 0), (1, .ref 313)]) (st' := []) (h' := zN sg2) (Ps := []) rfl trivial ?_
      refine zG_pick (lv' := [(0, .ref 0), (1, .ref 313), (2, .int (zit (nSp sg2) 0 (sg2 1 4))), (3, .int 0)]) [2, 3, 1, 0] rfl ?_
      refine zlp2 (fun (k : Int32) (sg3 : zSig) => zG mSR_fast 411 Q 58 [(0, .ref 0), (1, .ref 313), (2, .int (zit (nSp sg2) 0 (sg2 1 4))), (3, .int k)] [] (zN sg3)) (fun (k : Int32) (sg3 : zSig) => (0 ≤ k) ∧ (k ≤ 16) ∧ (iSp (fun s x => zup s x 0 0) sg2 sg3 k)) (fun (k : Int32) (sg3 : zSig) => zmu 16 k) ?_ 0 sg2 ?_
      · intro k sg3 hk ihk
        obtain ⟨m0, m1, mi⟩ := hk
        refine zb_icge (tgt := 83) bkSR_fast_58 bdSR_fast_61 (by decide) (lv' := [(0, .ref 0), (1, .ref 313), (2, .int (zit (nSp sg2) 0 (sg2 1 4))), (3, .int k)]) (st' := []) (h' := zN sg3) (x := k) (y := 16) (Ps := []) rfl trivial (fun c2 => ?_) (fun c2 => ?_)
        · skip
          refine zb_iret bkSR_fast_83 bdSR_fast_84 rfl (x := zit (nSp sg2) 0 (sg2 1 4)) (h' := zN sg3) (Ps := []) rfl trivial rfl ?_
          refine hq _ _ ?_
          have ek : k = 16 := by lia
          have ei : i = sg 1 2 := by lia
          refine ⟨sg0, sg1, sg3, hl, hb, fun c j h3 hc => ?_, fun j h1 h2 => ?_, fun k2 h1 h2 => ?_, ?_, rfl⟩
          · rw [mi.1 c j hc]; exact fi c j h3
          · rw [mi.1 3 j (by decide), ip j h1 (by lia)]; exact hl.2.2.2 j h1 h2
          · rw [mi.2 k2 0 h1 h2, if_pos (by lia)]; exact zup_s
          · rw [fi 1 4 (by decide), x4, y4]; congr 2; refine zit_congr ob.2.1.1 (fun q a q0 q1 => ?_); have hz := zel4_rng q0 (by lia : q < 16); unfold nSp; rw [fi _ _ (by omega), fb _ _ (by omega) (by omega), fl _ _ (by omega) (by omega) (by omega)]
        · skip
          refine zG_run bkSR_fast_64 (lv' := [(3, .int (k + 1)), (0, .ref 0), (1, .ref 313), (2, .int (zit (nSp sg2) 0 (sg2 1 4)))]) (st' := []) (h' := zN (zup sg3 (zel 4 k) 0 0)) (Ps := [zOb (zN sg3) 0 9 ∧ (zN sg3).2.2 0 0 = true, zOb (zN sg3) 1 5 ∧ (zN sg3).2.2 1 3 = true, zInR (zN sg3) 4 k, zOb (zN sg3) (zel 4 k) 6, 0 = 0 ∨ 0 = 1]) rfl (zA ⟨zob_0, rfl⟩ (zA ⟨zob_1, rfl⟩ (zA (zinR_4 (i := k) (by lia) (by lia)) (zA (zel_ob4 (i := k) (by lia) (by lia)) (zA (Or.inl rfl) trivial))))) ?_
          refine zG_pick (lv' := [(0, .ref 0), (1, .ref 313), (2, .int (zit (nSp sg2) 0 (sg2 1 4))), (3, .int (k + 1))]) [1, 2, 3, 0] rfl ?_
          refine ihk (k + 1) (zup sg3 (zel 4 k) 0 0) ?_ ?_
          · refine ⟨?_, ?_, ?_⟩
            · lia
            · lia
            · exact iSp_s loc_Z mi m0 (by lia)
          · exact zmu_up (by lia)
      · refine ⟨?_, ?_, ?_⟩
        · lia
        · lia
        · exact iSp_0
    · skip
      refine zG_run bkSR_fast_27 (lv' := [(2, .int (i + 1)), (0, .ref 0), (1, .ref 313)]) (st' := []) (h' := zN (zup sg2 3 i (sg2 314 i))) (Ps := [zOb (zN sg2) 0 9 ∧ (zN sg2).2.2 0 0 = true, zOb (zN sg2) 1 5 ∧ (zN sg2).2.2 1 1 = true, zOb (zN sg2) 313 3 ∧ (zN sg2).2.2 313 0 = true, zInL (zN sg2) 314 i, zIn (zN sg2) 3 0 i]) rfl (zA ⟨zob_0, rfl⟩ (zA ⟨zob_1, rfl⟩ (zA ⟨zob_313, rfl⟩ (zA (zinL_314 (i := i) (by lia) (by lia)) (zA (zin_3 (i := i) (by lia) (by lia)) trivial))))) ?_
      refine zG_pick (lv' := [(0, .ref 0), (1, .ref 313), (2, .int (i + 1))]) [1, 2, 0] rfl ?_
      refine ih (i + 1) (zup sg2 3 i (sg2 314 i)) ?_ ?_
      · refine ⟨?_, ?_, ?_, ?_⟩
        · lia
        · lia
        · intro c j h; rw [zup_a h]; exact fi c j h
        · intro j h1 h2; rw [zup_e]; by_cases hj : j = i
          · rw [if_pos ⟨rfl, hj⟩, hj, fi 314 i (by decide)]; exact f14 i
          · rw [if_neg (fun q => hj q.2)]; exact ip j h1 (by lia)
      · exact zmu_up (by lia)
  · refine ⟨?_, ?_, ?_, ?_⟩
    · lia
    · lia
    · intro c j _; rfl
    · intro j h1 h2; exfalso; lia
theorem cSR_fast {sg : zSig}  (ob : okS sg 1) (h0 : 0 ≤ sg 36 2) (h1 : sg 36 2 < 8) (u0 : 0 ≤ sg 36 3) (u1 : sg 36 3 ≤ 8) (hf : okF sg) : zG mSR_fast 411 (fun rr h' => ∃ sg0 sg1 sg3, hLk sg sg0 ∧ hBeg sg0 sg1 8 0 0 0 ∧ (∀ c j, c ≠ 3 → (c < 6 ∨ 22 ≤ c) → sg3 c j = sg1 c j) ∧ (∀ j, 0 ≤ j → j < sg 1 2 → sg3 3 j = cS sg (-1) (-1) 0 j) ∧ (∀ k, 0 ≤ k → k < 16 → sg3 (zel 4 k) 0 = 0) ∧ rr = some (.int (zit (nSp sg) 0 (sg 1 4))) ∧ h' = zN sg3) 0 [(0, .ref 0)] [] (zN sg) := lSR_fast ob h0 h1 u0 u1 hf (fun _ _ q => q)
