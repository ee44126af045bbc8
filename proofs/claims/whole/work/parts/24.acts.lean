/-! the class's acts: printed by wip/whole/p24.py -/
theorem hBeg_fr {sg sg1 : zSig} {k x y z : Int32} (h0 : 0 ≤ sg 36 2) (h1 : sg 36 2 < 8) (h : hBeg sg sg1 k x y z) : ∀ c j, 1 ≤ c → c < 36 → sg1 c j = sg c j := by
  obtain ⟨s, ⟨hk, -⟩, rfl⟩ := h
  have hr := zel37_rng h0 h1
  intro c j g1 g2
  rw [zup_a (by omega)]
  exact hk c j (by omega) (by omega)
def hGo (sg sg' : zSig) (p q : Int32) : Prop := hShF sg sg' (fun s x => hSpG s x p q) (fun s x => hAnG s x p q) ∧ sg' 1 2 = sg 1 2 - (q - p) ∧ (∀ j, 0 ≤ j → j < sg 1 2 - (q - p) → sg' 2 j = lOut (sg 2) p q j) ∧ ∀ j, 0 ≤ j → j < sg 1 2 - (q - p) → sg' 3 j = lOut (sg 3) p q j
def hPut (sg sg' : zSig) (p m : Int32) : Prop := hShF sg sg' (fun s x => hSpC s x p m) (fun s x => hAnC s x p m) ∧ sg' 1 2 = sg 1 2 + m ∧ (∀ j, 0 ≤ j → j < sg 1 2 + m → sg' 2 j = lIn (sg 2) (sg 35) p m j) ∧ ∀ j, 0 ≤ j → j < sg 1 2 + m → sg' 3 j = lIn (sg 3) (fun _ => if 0 < p then sg 3 (p - 1) else 4) p m j
def hMov (sg sg' : zSig) (p q r : Int32) : Prop := hShF sg sg' (fun s x => hSpMs s x p q r) (fun s x => hAnM s x p q r) ∧ sg' 1 2 = sg 1 2 ∧ (∀ j, 0 ≤ j → j < sg 1 2 → sg' 2 j = lMv (sg 2) p q (pLd p q r) j) ∧ ∀ j, 0 ≤ j → j < sg 1 2 → sg' 3 j = lMv (sg 3) p q (pLd p q r) j
theorem bkSR_cut_0 : zBk mSR_cut 0 [(1, 0, 1, 0, 0), (5, 9, 0, 1, 0), (1, 1, 0, 0, 0), (1, 2, 0, 0, 0)] = some 6 := by decide +kernel
theorem bkSR_cut_9 : zBk mSR_cut 9 [] = some 9 := by decide +kernel
theorem bkSR_cut_18 : zBk mSR_cut 18 [(1, 0, 1, 0, 0), (0, 0, 0, 0, 1), (1, 1, 0, 0, 0), (1, 2, 0, 0, 0), (0, 0, 0, 0, 0)] = some 23 := by decide +kernel
theorem bkSR_cut_26 : zBk mSR_cut 26 [(1, 0, 1, 0, 0), (5, 9, 0, 1, 0), (1, 1, 0, 0, 0), (1, 2, 0, 0, 0)] = some 32 := by decide +kernel
theorem bkSR_cut_35 : zBk mSR_cut 35 [(1, 0, 1, 0, 0), (1, 0, 1, 0, 0), (5, 9, 0, 1, 0), (5, 5, 2, 0, 2)] = some 43 := by decide +kernel
theorem bkSR_cut_46 : zBk mSR_cut 46 [] = some 46 := by decide +kernel
theorem bkSR_cut_12 : zBk mSR_cut 12 [(1, 0, 1, 0, 0), (0, 0, 0, 0, -1)] = some 14 := by decide +kernel
theorem bkSR_cut_17 : zBk mSR_cut 17 [] = some 17 := by decide +kernel
theorem bdSR_cut_6 : decode mSR_cut.2.2.1 6 = .ok (.invokevirtual 114, 3) := by decide +kernel
theorem bdSR_cut_9 : decode mSR_cut.2.2.1 9 = .ok (.ifCond .ne 9, 3) := by decide +kernel
theorem bdSR_cut_14 : decode mSR_cut.2.2.1 14 = .ok (.invokevirtual 93, 3) := by decide +kernel
theorem bdSR_cut_17 : decode mSR_cut.2.2.1 17 = .ok (.ireturn, 1) := by decide +kernel
theorem bdSR_cut_23 : decode mSR_cut.2.2.1 23 = .ok (.invokevirtual 100, 3) := by decide +kernel
theorem bdSR_cut_32 : decode mSR_cut.2.2.1 32 = .ok (.invokevirtual 118, 3) := by decide +kernel
theorem bdSR_cut_43 : decode mSR_cut.2.2.1 43 = .ok (.invokevirtual 111, 3) := by decide +kernel
theorem bdSR_cut_46 : decode mSR_cut.2.2.1 46 = .ok (.ireturn, 1) := by decide +kernel
theorem cSR_cut {sg : zSig} {f t : Int32} (ob : okS sg 1) (h0 : 0 ≤ sg 36 2) (h1 : sg 36 2 < 8) (u0 : 0 ≤ sg 36 3) (u1 : sg 36 3 ≤ 8) : zG mSR_cut 411 (fun rr h' => (rr = some (.int (-1)) ∧ h' = zN (hRfC sg (-1)) ∧ (¬ (0 ≤ f ∧ f < t ∧ t ≤ sg 1 2))) ∨ ((0 ≤ f ∧ f < t ∧ t ≤ sg 1 2) ∧ ∃ sg1 sg2, hBeg sg sg1 1 f t 0 ∧ hGo sg1 sg2 f t ∧ rr = some (.int (sg2 1 2)) ∧ h' = zN (hGrC sg2))) 0 [(0, .ref 0), (1, .int f), (2, .int t)] [] (zN sg) := by
  obtain ⟨⟨n0, n1⟩, ⟨g0, g1⟩, ⟨a0, a1⟩, -⟩ := id ob
  refine zG_run bkSR_cut_0 (lv' := [(0, .ref 0), (1, .int f), (2, .int t)]) (st' := [.int t, .int f, .ref 1]) (h' := zN sg) (Ps := [zOb (zN sg) 0 9 ∧ (zN sg).2.2 0 0 = true]) rfl (zA ⟨zob_0, rfl⟩ trivial) ?_
  refine zG_callv (a := 1) (c := 5) (As := [.int f, .int t]) (rest := []) (N2 := 411) bdSR_cut_6 okShe_isRange lk9_114 (And.intro (by decide) (by decide)) (by decide) rfl rfl rfl (Nat.le_of_ble_eq_true rfl) (Nat.le_of_ble_eq_true rfl) (Nat.le_refl 411) (Nat.le_refl 411) zob_1 cShe_isRange ?_
  rintro rr h' ⟨rfl, rfl⟩ -
  refine zb_ifne (tgt := 18) bkSR_cut_9 bdSR_cut_9 (by decide) (lv' := [(0, .ref 0), (1, .int f), (2, .int t)]) (st' := []) (h' := zN sg) (x := if 0 ≤ f ∧ f < t ∧ t ≤ sg 1 2 then 1 else 0) (Ps := []) rfl trivial (fun c1 => ?_) (fun c1 => ?_)
  · skip
    have hc : 0 ≤ f ∧ f < t ∧ t ≤ sg 1 2 := by grind
    refine zG_run bkSR_cut_18 (lv' := [(0, .ref 0), (1, .int f), (2, .int t)]) (st' := [.int 0, .int t, .int f, .int 1, .ref 0]) (h' := zN sg) (Ps := []) rfl trivial ?_
    refine zG_callv (a := 0) (c := 9) (As := [.int 1, .int f, .int t, .int 0]) (rest := []) (N2 := 411) bdSR_cut_23 okSR_begin lk9_100 (And.intro (by decide) (by decide)) (by decide) rfl rfl rfl (Nat.le_of_ble_eq_true rfl) (Nat.le_of_ble_eq_true rfl) (Nat.le_refl 411) (Nat.le_refl 411) zob_0 (cSR_begin ob h0 h1 u0 u1) ?_
    rintro rr h' ⟨sg2, rfl, rfl, hb⟩ -
    have fb := hBeg_fr h0 h1 hb
    have x2 : sg2 1 2 = sg 1 2 := fb 1 2 (by decide) (by decide)
    have x4 : sg2 1 4 = sg 1 4 := fb 1 4 (by decide) (by decide)
    have x6 : sg2 1 6 = sg 1 6 := fb 1 6 (by decide) (by decide)
    have xt : sg2 34 1 = sg 34 1 := fb 34 1 (by decide) (by decide)
    refine zG_run bkSR_cut_26 (lv' := [(0, .ref 0), (1, .int f), (2, .int t)]) (st' := [.int t, .int f, .ref 1]) (h' := zN sg2) (Ps := [zOb (zN sg2) 0 9 ∧ (zN sg2).2.2 0 0 = true]) rfl (zA ⟨zob_0, rfl⟩ trivial) ?_
    refine zG_callv (a := 1) (c := 5) (As := [.int f, .int t]) (rest := []) (N2 := 411) bdSR_cut_32 okShe_lettersGo lk9_118 (And.intro (by decide) (by decide)) (by decide) rfl rfl rfl (Nat.le_of_ble_eq_true rfl) (Nat.le_of_ble_eq_true rfl) (Nat.le_refl 411) (Nat.le_refl 411) zob_1 (cShe_lettersGo (p := f) (q := t) (by lia) (by lia) (by lia) (by lia) (by lia) (by lia) (by lia) (by lia) (by lia)) ?_
    rintro rr h' ⟨sg3, rfl, rfl, hg⟩ -
    refine zG_run bkSR_cut_35 (lv' := [(0, .ref 0), (1, .int f), (2, .int t)]) (st' := [.int (sg3 1 2), .ref 0]) (h' := zN sg3) (Ps := [zOb (zN sg3) 0 9 ∧ (zN sg3).2.2 0 0 = true, zOb (zN sg3) 1 5]) rfl (zA ⟨zob_0, rfl⟩ (zA zob_1 trivial)) ?_
    refine zG_callv (a := 0) (c := 9) (As := [.int (sg3 1 2)]) (rest := []) (N2 := 411) bdSR_cut_43 okSR_granted lk9_111 (And.intro (by decide) (by decide)) (by decide) rfl rfl rfl (Nat.le_of_ble_eq_true rfl) (Nat.le_of_ble_eq_true rfl) (Nat.le_refl 411) (Nat.le_refl 411) zob_0 cSR_granted ?_
    rintro rr h' ⟨rfl, rfl⟩ -
    refine zb_iret bkSR_cut_46 bdSR_cut_46 rfl (x := sg3 1 2) (h' := zN (hGrC sg3)) (Ps := []) rfl trivial rfl ?_
    exact Or.inr (⟨hc, _, _, hb, hg, rfl, rfl⟩)
  · skip
    refine zG_run bkSR_cut_12 (lv' := [(0, .ref 0), (1, .int f), (2, .int t)]) (st' := [.int (-1), .ref 0]) (h' := zN sg) (Ps := []) rfl trivial ?_
    refine zG_callv (a := 0) (c := 9) (As := [.int (-1)]) (rest := []) (N2 := 411) bdSR_cut_14 okSR_refused lk9_93 (And.intro (by decide) (by decide)) (by decide) rfl rfl rfl (Nat.le_of_ble_eq_true rfl) (Nat.le_of_ble_eq_true rfl) (Nat.le_refl 411) (Nat.le_refl 411) zob_0 (cSR_refused (by decide) (by decide)) ?_
    rintro rr h' ⟨rfl, rfl⟩ -
    refine zb_iret bkSR_cut_17 bdSR_cut_17 rfl (x := (-1)) (h' := zN (hRfC sg (-1))) (Ps := []) rfl trivial rfl ?_
    exact Or.inl ⟨rfl, rfl, by grind⟩
theorem bkSR_move_0 : zBk mSR_move 0 [(1, 0, 1, 0, 0), (5, 9, 0, 1, 0), (1, 1, 0, 0, 0), (1, 2, 0, 0, 0)] = some 6 := by decide +kernel
theorem bkSR_move_9 : zBk mSR_move 9 [] = some 9 := by decide +kernel
theorem bkSR_move_23 : zBk mSR_move 23 [(1, 0, 1, 0, 0), (0, 0, 0, 0, -1)] = some 25 := by decide +kernel
theorem bkSR_move_28 : zBk mSR_move 28 [] = some 28 := by decide +kernel
theorem bkSR_move_12 : zBk mSR_move 12 [(1, 0, 1, 0, 0), (5, 9, 0, 1, 0), (1, 3, 0, 0, 0)] = some 17 := by decide +kernel
theorem bkSR_move_20 : zBk mSR_move 20 [] = some 20 := by decide +kernel
theorem bkSR_move_29 : zBk mSR_move 29 [(1, 1, 0, 0, 0), (1, 3, 0, 0, 0)] = some 31 := by decide +kernel
theorem bkSR_move_46 : zBk mSR_move 46 [(1, 0, 1, 0, 0), (0, 0, 0, 0, 2), (1, 1, 0, 0, 0), (1, 2, 0, 0, 0), (1, 3, 0, 0, 0)] = some 51 := by decide +kernel
theorem bkSR_move_54 : zBk mSR_move 54 [(1, 0, 1, 0, 0), (1, 0, 1, 0, 0), (5, 9, 0, 1, 0), (1, 1, 0, 0, 0), (1, 2, 0, 0, 0), (1, 3, 0, 0, 0)] = some 62 := by decide +kernel
theorem bkSR_move_65 : zBk mSR_move 65 [] = some 65 := by decide +kernel
theorem bkSR_move_68 : zBk mSR_move 68 [] = some 68 := by decide +kernel
theorem bkSR_move_34 : zBk mSR_move 34 [(1, 3, 0, 0, 0), (1, 2, 0, 0, 0)] = some 36 := by decide +kernel
theorem bkSR_move_39 : zBk mSR_move 39 [(1, 0, 1, 0, 0), (0, 0, 0, 0, -4)] = some 42 := by decide +kernel
theorem bkSR_move_45 : zBk mSR_move 45 [] = some 45 := by decide +kernel
theorem bdSR_move_6 : decode mSR_move.2.2.1 6 = .ok (.invokevirtual 114, 3) := by decide +kernel
theorem bdSR_move_9 : decode mSR_move.2.2.1 9 = .ok (.ifCond .eq 14, 3) := by decide +kernel
theorem bdSR_move_17 : decode mSR_move.2.2.1 17 = .ok (.invokevirtual 85, 3) := by decide +kernel
theorem bdSR_move_20 : decode mSR_move.2.2.1 20 = .ok (.ifCond .ne 9, 3) := by decide +kernel
theorem bdSR_move_25 : decode mSR_move.2.2.1 25 = .ok (.invokevirtual 93, 3) := by decide +kernel
theorem bdSR_move_28 : decode mSR_move.2.2.1 28 = .ok (.ireturn, 1) := by decide +kernel
theorem bdSR_move_31 : decode mSR_move.2.2.1 31 = .ok (.if_icmp .gt 15, 3) := by decide +kernel
theorem bdSR_move_36 : decode mSR_move.2.2.1 36 = .ok (.if_icmp .gt 10, 3) := by decide +kernel
theorem bdSR_move_42 : decode mSR_move.2.2.1 42 = .ok (.invokevirtual 93, 3) := by decide +kernel
theorem bdSR_move_45 : decode mSR_move.2.2.1 45 = .ok (.ireturn, 1) := by decide +kernel
theorem bdSR_move_51 : decode mSR_move.2.2.1 51 = .ok (.invokevirtual 100, 3) := by decide +kernel
theorem bdSR_move_62 : decode mSR_move.2.2.1 62 = .ok (.invokevirtual 122, 3) := by decide +kernel
theorem bdSR_move_65 : decode mSR_move.2.2.1 65 = .ok (.invokevirtual 111, 3) := by decide +kernel
theorem bdSR_move_68 : decode mSR_move.2.2.1 68 = .ok (.ireturn, 1) := by decide +kernel
theorem cSR_move {sg : zSig} {f t r : Int32} (ob : okS sg 1) (h0 : 0 ≤ sg 36 2) (h1 : sg 36 2 < 8) (u0 : 0 ≤ sg 36 3) (u1 : sg 36 3 ≤ 8) : zG mSR_move 411 (fun rr h' => (rr = some (.int (-1)) ∧ h' = zN (hRfC sg (-1)) ∧ (¬ ((0 ≤ f ∧ f < t ∧ t ≤ sg 1 2) ∧ 0 ≤ r ∧ r ≤ sg 1 2))) ∨ (rr = some (.int (-4)) ∧ h' = zN (hRfC sg (-4)) ∧ (((0 ≤ f ∧ f < t ∧ t ≤ sg 1 2) ∧ 0 ≤ r ∧ r ≤ sg 1 2) ∧ f ≤ r ∧ r ≤ t)) ∨ (((0 ≤ f ∧ f < t ∧ t ≤ sg 1 2) ∧ 0 ≤ r ∧ r ≤ sg 1 2) ∧ ¬ (f ≤ r ∧ r ≤ t) ∧ ∃ sg1 sg2, hBeg sg sg1 2 f t r ∧ hMov sg1 sg2 f t r ∧ rr = some (.int (zit (nMv sg1 f t) 0 (sg1 1 4))) ∧ h' = zN (hGrC sg2))) 0 [(0, .ref 0), (1, .int f), (2, .int t), (3, .int r)] [] (zN sg) := by
  obtain ⟨⟨n0, n1⟩, ⟨g0, g1⟩, ⟨a0, a1⟩, -⟩ := id ob
  refine zG_run bkSR_move_0 (lv' := [(0, .ref 0), (1, .int f), (2, .int t), (3, .int r)]) (st' := [.int t, .int f, .ref 1]) (h' := zN sg) (Ps := [zOb (zN sg) 0 9 ∧ (zN sg).2.2 0 0 = true]) rfl (zA ⟨zob_0, rfl⟩ trivial) ?_
  refine zG_callv (a := 1) (c := 5) (As := [.int f, .int t]) (rest := []) (N2 := 411) bdSR_move_6 okShe_isRange lk9_114 (And.intro (by decide) (by decide)) (by decide) rfl rfl rfl (Nat.le_of_ble_eq_true rfl) (Nat.le_of_ble_eq_true rfl) (Nat.le_refl 411) (Nat.le_refl 411) zob_1 cShe_isRange ?_
  rintro rr h' ⟨rfl, rfl⟩ -
  refine zb_ifeq (tgt := 23) bkSR_move_9 bdSR_move_9 (by decide) (lv' := [(0, .ref 0), (1, .int f), (2, .int t), (3, .int r)]) (st' := []) (h' := zN sg) (x := if 0 ≤ f ∧ f < t ∧ t ≤ sg 1 2 then 1 else 0) (Ps := []) rfl trivial (fun c1 => ?_) (fun c1 => ?_)
  · skip
    refine zG_run bkSR_move_23 (lv' := [(0, .ref 0), (1, .int f), (2, .int t), (3, .int r)]) (st' := [.int (-1), .ref 0]) (h' := zN sg) (Ps := []) rfl trivial ?_
    refine zG_callv (a := 0) (c := 9) (As := [.int (-1)]) (rest := []) (N2 := 411) bdSR_move_25 okSR_refused lk9_93 (And.intro (by decide) (by decide)) (by decide) rfl rfl rfl (Nat.le_of_ble_eq_true rfl) (Nat.le_of_ble_eq_true rfl) (Nat.le_refl 411) (Nat.le_refl 411) zob_0 (cSR_refused (by decide) (by decide)) ?_
    rintro rr h' ⟨rfl, rfl⟩ -
    refine zb_iret bkSR_move_28 bdSR_move_28 rfl (x := (-1)) (h' := zN (hRfC sg (-1))) (Ps := []) rfl trivial rfl ?_
    exact Or.inl ⟨rfl, rfl, by grind⟩
  · skip
    refine zG_run bkSR_move_12 (lv' := [(0, .ref 0), (1, .int f), (2, .int t), (3, .int r)]) (st' := [.int r, .ref 1]) (h' := zN sg) (Ps := [zOb (zN sg) 0 9 ∧ (zN sg).2.2 0 0 = true]) rfl (zA ⟨zob_0, rfl⟩ trivial) ?_
    refine zG_callv (a := 1) (c := 5) (As := [.int r]) (rest := []) (N2 := 411) bdSR_move_17 okShe_hasPlace lk9_85 (And.intro (by decide) (by decide)) (by decide) rfl rfl rfl (Nat.le_of_ble_eq_true rfl) (Nat.le_of_ble_eq_true rfl) (Nat.le_refl 411) (Nat.le_refl 411) zob_1 (cShe_hasPlace zob_1) ?_
    rintro rr h' ⟨rfl, rfl⟩ -
    refine zb_ifne (tgt := 29) bkSR_move_20 bdSR_move_20 (by decide) (lv' := [(0, .ref 0), (1, .int f), (2, .int t), (3, .int r)]) (st' := []) (h' := zN sg) (x := if 0 ≤ r ∧ r ≤ sg 1 2 then 1 else 0) (Ps := []) rfl trivial (fun c2 => ?_) (fun c2 => ?_)
    · skip
      have hc : (0 ≤ f ∧ f < t ∧ t ≤ sg 1 2) ∧ 0 ≤ r ∧ r ≤ sg 1 2 := by grind
      refine zb_icgt (tgt := 46) bkSR_move_29 bdSR_move_31 (by decide) (lv' := [(0, .ref 0), (1, .int f), (2, .int t), (3, .int r)]) (st' := []) (h' := zN sg) (x := f) (y := r) (Ps := []) rfl trivial (fun c3 => ?_) (fun c3 => ?_)
      · skip
        refine zG_run bkSR_move_46 (lv' := [(0, .ref 0), (1, .int f), (2, .int t), (3, .int r)]) (st' := [.int r, .int t, .int f, .int 2, .ref 0]) (h' := zN sg) (Ps := []) rfl trivial ?_
        refine zG_callv (a := 0) (c := 9) (As := [.int 2, .int f, .int t, .int r]) (rest := []) (N2 := 411) bdSR_move_51 okSR_begin lk9_100 (And.intro (by decide) (by decide)) (by decide) rfl rfl rfl (Nat.le_of_ble_eq_true rfl) (Nat.le_of_ble_eq_true rfl) (Nat.le_refl 411) (Nat.le_refl 411) zob_0 (cSR_begin ob h0 h1 u0 u1) ?_
        rintro rr h' ⟨sg4, rfl, rfl, hb⟩ -
        have fb := hBeg_fr h0 h1 hb
        have x2 : sg4 1 2 = sg 1 2 := fb 1 2 (by decide) (by decide)
        have x4 : sg4 1 4 = sg 1 4 := fb 1 4 (by decide) (by decide)
        have x6 : sg4 1 6 = sg 1 6 := fb 1 6 (by decide) (by decide)
        have xt : sg4 34 1 = sg 34 1 := fb 34 1 (by decide) (by decide)
        refine zG_run bkSR_move_54 (lv' := [(0, .ref 0), (1, .int f), (2, .int t), (3, .int r)]) (st' := [.int r, .int t, .int f, .ref 1, .ref 0]) (h' := zN sg4) (Ps := [zOb (zN sg4) 0 9 ∧ (zN sg4).2.2 0 0 = true]) rfl (zA ⟨zob_0, rfl⟩ trivial) ?_
        refine zG_callv (a := 1) (c := 5) (As := [.int f, .int t, .int r]) (rest := [.ref 0]) (N2 := 411) bdSR_move_62 okShe_lettersMove lk9_122 (And.intro (by decide) (by decide)) (by decide) rfl rfl rfl (Nat.le_of_ble_eq_true rfl) (Nat.le_of_ble_eq_true rfl) (Nat.le_refl 411) (Nat.le_refl 411) zob_1 (cShe_lettersMove (p := f) (q := t) (r := r) (by lia) (by lia) (by lia) (by lia) (by lia) (by lia) (by lia) (by lia) (by lia) (by lia) (by lia) (by lia)) ?_
        rintro rr h' ⟨v6, sg5, rfl, rfl, hv, hg⟩ -
        refine zG_run bkSR_move_65 (lv' := [(0, .ref 0), (1, .int f), (2, .int t), (3, .int r)]) (st' := [.int v6, .ref 0]) (h' := zN sg5) (Ps := []) rfl trivial ?_
        refine zG_callv (a := 0) (c := 9) (As := [.int v6]) (rest := []) (N2 := 411) bdSR_move_65 okSR_granted lk9_111 (And.intro (by decide) (by decide)) (by decide) rfl rfl rfl (Nat.le_of_ble_eq_true rfl) (Nat.le_of_ble_eq_true rfl) (Nat.le_refl 411) (Nat.le_refl 411) zob_0 cSR_granted ?_
        rintro rr h' ⟨rfl, rfl⟩ -
        refine zb_iret bkSR_move_68 bdSR_move_68 rfl (x := v6) (h' := zN (hGrC sg5)) (Ps := []) rfl trivial rfl ?_
        exact Or.inr (Or.inr (⟨hc, by lia, _, _, hb, hg, by rw [hv], rfl⟩))
      · skip
        refine zb_icgt (tgt := 46) bkSR_move_34 bdSR_move_36 (by decide) (lv' := [(0, .ref 0), (1, .int f), (2, .int t), (3, .int r)]) (st' := []) (h' := zN sg) (x := r) (y := t) (Ps := []) rfl trivial (fun c7 => ?_) (fun c7 => ?_)
        · skip
          refine zG_run bkSR_move_46 (lv' := [(0, .ref 0), (1, .int f), (2, .int t), (3, .int r)]) (st' := [.int r, .int t, .int f, .int 2, .ref 0]) (h' := zN sg) (Ps := []) rfl trivial ?_
          refine zG_callv (a := 0) (c := 9) (As := [.int 2, .int f, .int t, .int r]) (rest := []) (N2 := 411) bdSR_move_51 okSR_begin lk9_100 (And.intro (by decide) (by decide)) (by decide) rfl rfl rfl (Nat.le_of_ble_eq_true rfl) (Nat.le_of_ble_eq_true rfl) (Nat.le_refl 411) (Nat.le_refl 411) zob_0 (cSR_begin ob h0 h1 u0 u1) ?_
          rintro rr h' ⟨sg8, rfl, rfl, hb⟩ -
          have fb := hBeg_fr h0 h1 hb
          have x2 : sg8 1 2 = sg 1 2 := fb 1 2 (by decide) (by decide)
          have x4 : sg8 1 4 = sg 1 4 := fb 1 4 (by decide) (by decide)
          have x6 : sg8 1 6 = sg 1 6 := fb 1 6 (by decide) (by decide)
          have xt : sg8 34 1 = sg 34 1 := fb 34 1 (by decide) (by decide)
          refine zG_run bkSR_move_54 (lv' := [(0, .ref 0), (1, .int f), (2, .int t), (3, .int r)]) (st' := [.int r, .int t, .int f, .ref 1, .ref 0]) (h' := zN sg8) (Ps := [zOb (zN sg8) 0 9 ∧ (zN sg8).2.2 0 0 = true]) rfl (zA ⟨zob_0, rfl⟩ trivial) ?_
          refine zG_callv (a := 1) (c := 5) (As := [.int f, .int t, .int r]) (rest := [.ref 0]) (N2 := 411) bdSR_move_62 okShe_lettersMove lk9_122 (And.intro (by decide) (by decide)) (by decide) rfl rfl rfl (Nat.le_of_ble_eq_true rfl) (Nat.le_of_ble_eq_true rfl) (Nat.le_refl 411) (Nat.le_refl 411) zob_1 (cShe_lettersMove (p := f) (q := t) (r := r) (by lia) (by lia) (by lia) (by lia) (by lia) (by lia) (by lia) (by lia) (by lia) (by lia) (by lia) (by lia)) ?_
          rintro rr h' ⟨v10, sg9, rfl, rfl, hv, hg⟩ -
          refine zG_run bkSR_move_65 (lv' := [(0, .ref 0), (1, .int f), (2, .int t), (3, .int r)]) (st' := [.int v10, .ref 0]) (h' := zN sg9) (Ps := []) rfl trivial ?_
          refine zG_callv (a := 0) (c := 9) (As := [.int v10]) (rest := []) (N2 := 411) bdSR_move_65 okSR_granted lk9_111 (And.intro (by decide) (by decide)) (by decide) rfl rfl rfl (Nat.le_of_ble_eq_true rfl) (Nat.le_of_ble_eq_true rfl) (Nat.le_refl 411) (Nat.le_refl 411) zob_0 cSR_granted ?_
          rintro rr h' ⟨rfl, rfl⟩ -
          refine zb_iret bkSR_move_68 bdSR_move_68 rfl (x := v10) (h' := zN (hGrC sg9)) (Ps := []) rfl trivial rfl ?_
          exact Or.inr (Or.inr (⟨hc, by lia, _, _, hb, hg, by rw [hv], rfl⟩))
        · skip
          refine zG_run bkSR_move_39 (lv' := [(0, .ref 0), (1, .int f), (2, .int t), (3, .int r)]) (st' := [.int (-4), .ref 0]) (h' := zN sg) (Ps := []) rfl trivial ?_
          refine zG_callv (a := 0) (c := 9) (As := [.int (-4)]) (rest := []) (N2 := 411) bdSR_move_42 okSR_refused lk9_93 (And.intro (by decide) (by decide)) (by decide) rfl rfl rfl (Nat.le_of_ble_eq_true rfl) (Nat.le_of_ble_eq_true rfl) (Nat.le_refl 411) (Nat.le_refl 411) zob_0 (cSR_refused (by decide) (by decide)) ?_
          rintro rr h' ⟨rfl, rfl⟩ -
          refine zb_iret bkSR_move_45 bdSR_move_45 rfl (x := (-4)) (h' := zN (hRfC sg (-4))) (Ps := []) rfl trivial rfl ?_
          exact Or.inr (Or.inl ⟨rfl, rfl, by grind⟩)
    · skip
      refine zG_run bkSR_move_23 (lv' := [(0, .ref 0), (1, .int f), (2, .int t), (3, .int r)]) (st' := [.int (-1), .ref 0]) (h' := zN sg) (Ps := []) rfl trivial ?_
      refine zG_callv (a := 0) (c := 9) (As := [.int (-1)]) (rest := []) (N2 := 411) bdSR_move_25 okSR_refused lk9_93 (And.intro (by decide) (by decide)) (by decide) rfl rfl rfl (Nat.le_of_ble_eq_true rfl) (Nat.le_of_ble_eq_true rfl) (Nat.le_refl 411) (Nat.le_refl 411) zob_0 (cSR_refused (by decide) (by decide)) ?_
      rintro rr h' ⟨rfl, rfl⟩ -
      refine zb_iret bkSR_move_28 bdSR_move_28 rfl (x := (-1)) (h' := zN (hRfC sg (-1))) (Ps := []) rfl trivial rfl ?_
      exact Or.inl ⟨rfl, rfl, by grind⟩
theorem bkSR_lift_0 : zBk mSR_lift 0 [(1, 0, 1, 0, 0), (5, 9, 0, 1, 0), (1, 1, 0, 0, 0)] = some 5 := by decide +kernel
theorem bkSR_lift_8 : zBk mSR_lift 8 [] = some 8 := by decide +kernel
theorem bkSR_lift_18 : zBk mSR_lift 18 [(1, 0, 1, 0, 0), (0, 0, 0, 0, 4), (0, 0, 0, 0, 0), (0, 0, 0, 0, 0), (0, 0, 0, 0, 0)] = some 23 := by decide +kernel
theorem bkSR_lift_26 : zBk mSR_lift 26 [(1, 0, 1, 0, 0), (5, 9, 0, 1, 0), (5, 5, 3, 3, 3), (1, 1, 0, 0, 0), (9, 0, 0, 0, 0), (0, 0, 0, 0, 0), (6, 6, 0, 1, 0), (1, 0, 1, 0, 0), (1, 0, 1, 0, 0), (5, 9, 0, 1, 0)] = some 44 := by decide +kernel
theorem bkSR_lift_47 : zBk mSR_lift 47 [] = some 47 := by decide +kernel
theorem bkSR_lift_50 : zBk mSR_lift 50 [] = some 50 := by decide +kernel
theorem bkSR_lift_11 : zBk mSR_lift 11 [(1, 0, 1, 0, 0), (0, 0, 0, 0, -2)] = some 14 := by decide +kernel
theorem bkSR_lift_17 : zBk mSR_lift 17 [] = some 17 := by decide +kernel
theorem bdSR_lift_5 : decode mSR_lift.2.2.1 5 = .ok (.invokevirtual 169, 3) := by decide +kernel
theorem bdSR_lift_8 : decode mSR_lift.2.2.1 8 = .ok (.ifCond .ne 10, 3) := by decide +kernel
theorem bdSR_lift_14 : decode mSR_lift.2.2.1 14 = .ok (.invokevirtual 93, 3) := by decide +kernel
theorem bdSR_lift_17 : decode mSR_lift.2.2.1 17 = .ok (.ireturn, 1) := by decide +kernel
theorem bdSR_lift_23 : decode mSR_lift.2.2.1 23 = .ok (.invokevirtual 100, 3) := by decide +kernel
theorem bdSR_lift_44 : decode mSR_lift.2.2.1 44 = .ok (.invokevirtual 172, 3) := by decide +kernel
theorem bdSR_lift_47 : decode mSR_lift.2.2.1 47 = .ok (.invokevirtual 111, 3) := by decide +kernel
theorem bdSR_lift_50 : decode mSR_lift.2.2.1 50 = .ok (.ireturn, 1) := by decide +kernel
theorem cSR_lift {sg : zSig} {n : Int32} (ob : okS sg 1) (h0 : 0 ≤ sg 36 2) (h1 : sg 36 2 < 8) (u0 : 0 ≤ sg 36 3) (u1 : sg 36 3 ≤ 8) : zG mSR_lift 411 (fun rr h' => (rr = some (.int (-2)) ∧ h' = zN (hRfC sg (-2)) ∧ (¬ ((0 ≤ n ∧ n < sg 1 4) ∧ sg (zel 4 n) 0 ≠ 0))) ∨ (((0 ≤ n ∧ n < sg 1 4) ∧ sg (zel 4 n) 0 ≠ 0) ∧ ∃ sg1, hBeg sg sg1 4 0 0 0 ∧ rr = some (.int (zit (nSp (zup sg1 (zel 4 n) 0 0)) 0 (sg 1 4))) ∧ h' = zN (hGrC (zup sg1 (zel 4 n) 0 0)))) 0 [(0, .ref 0), (1, .int n)] [] (zN sg) := by
  obtain ⟨⟨n0, n1⟩, ⟨g0, g1⟩, ⟨a0, a1⟩, -⟩ := id ob
  refine zG_run bkSR_lift_0 (lv' := [(0, .ref 0), (1, .int n)]) (st' := [.int n, .ref 1]) (h' := zN sg) (Ps := [zOb (zN sg) 0 9 ∧ (zN sg).2.2 0 0 = true]) rfl (zA ⟨zob_0, rfl⟩ trivial) ?_
  refine zG_callv (a := 1) (c := 5) (As := [.int n]) (rest := []) (N2 := 411) bdSR_lift_5 okShe_hasSpan lk9_169 (And.intro (by decide) (by decide)) (by decide) rfl rfl rfl (Nat.le_of_ble_eq_true rfl) (Nat.le_of_ble_eq_true rfl) (Nat.le_refl 411) (Nat.le_refl 411) zob_1 (cShe_hasSpan (by lia)) ?_
  rintro rr h' ⟨rfl, rfl⟩ -
  refine zb_ifne (tgt := 18) bkSR_lift_8 bdSR_lift_8 (by decide) (lv' := [(0, .ref 0), (1, .int n)]) (st' := []) (h' := zN sg) (x := if (0 ≤ n ∧ n < sg 1 4) ∧ sg (zel 4 n) 0 ≠ 0 then 1 else 0) (Ps := []) rfl trivial (fun c1 => ?_) (fun c1 => ?_)
  · skip
    have hc : (0 ≤ n ∧ n < sg 1 4) ∧ sg (zel 4 n) 0 ≠ 0 := by grind
    have hz := zel4_rng (i := n) (by lia) (by lia)
    refine zG_run bkSR_lift_18 (lv' := [(0, .ref 0), (1, .int n)]) (st' := [.int 0, .int 0, .int 0, .int 4, .ref 0]) (h' := zN sg) (Ps := []) rfl trivial ?_
    refine zG_callv (a := 0) (c := 9) (As := [.int 4, .int 0, .int 0, .int 0]) (rest := []) (N2 := 411) bdSR_lift_23 okSR_begin lk9_100 (And.intro (by decide) (by decide)) (by decide) rfl rfl rfl (Nat.le_of_ble_eq_true rfl) (Nat.le_of_ble_eq_true rfl) (Nat.le_refl 411) (Nat.le_refl 411) zob_0 (cSR_begin ob h0 h1 u0 u1) ?_
    rintro rr h' ⟨sg2, rfl, rfl, hb⟩ -
    have fb := hBeg_fr h0 h1 hb
    have x2 : sg2 1 2 = sg 1 2 := fb 1 2 (by decide) (by decide)
    have x4 : sg2 1 4 = sg 1 4 := fb 1 4 (by decide) (by decide)
    have x6 : sg2 1 6 = sg 1 6 := fb 1 6 (by decide) (by decide)
    have xt : sg2 34 1 = sg 34 1 := fb 34 1 (by decide) (by decide)
    refine zG_run bkSR_lift_26 (lv' := [(0, .ref 0), (1, .int n)]) (st' := [.ref 1, .ref 0]) (h' := zN (zup sg2 (zel 4 n) 0 0)) (Ps := [zOb (zN sg2) 0 9 ∧ (zN sg2).2.2 0 0 = true, zOb (zN sg2) 1 5 ∧ (zN sg2).2.2 1 3 = true, zInR (zN sg2) 4 n, zOb (zN sg2) (zel 4 n) 6, 0 = 0 ∨ 0 = 1, zOb (zN (zup sg2 (zel 4 n) 0 0)) 0 9 ∧ (zN (zup sg2 (zel 4 n) 0 0)).2.2 0 0 = true]) rfl (zA ⟨zob_0, rfl⟩ (zA ⟨zob_1, rfl⟩ (zA (zinR_4 (i := n) (by lia) (by lia)) (zA (zel_ob4 (i := n) (by lia) (by lia)) (zA (Or.inl rfl) (zA ⟨zob_0, rfl⟩ trivial)))))) ?_
    refine zG_callv (a := 1) (c := 5) (As := []) (rest := [.ref 0]) (N2 := 411) bdSR_lift_44 okShe_standingSpans lk9_172 (And.intro (by decide) (by decide)) (by decide) rfl rfl rfl (Nat.le_of_ble_eq_true rfl) (Nat.le_of_ble_eq_true rfl) (Nat.le_refl 411) (Nat.le_refl 411) zob_1 (cShe_standingSpans (by rw [zup_a (by omega)]; lia) (by rw [zup_a (by omega)]; lia)) ?_
    rintro rr h' ⟨rfl, rfl⟩ -
    refine zG_run bkSR_lift_47 (lv' := [(0, .ref 0), (1, .int n)]) (st' := [.int (zit (nSp (zup sg2 (zel 4 n) 0 0)) 0 ((zup sg2 (zel 4 n) 0 0) 1 4)), .ref 0]) (h' := zN (zup sg2 (zel 4 n) 0 0)) (Ps := []) rfl trivial ?_
    refine zG_callv (a := 0) (c := 9) (As := [.int (zit (nSp (zup sg2 (zel 4 n) 0 0)) 0 ((zup sg2 (zel 4 n) 0 0) 1 4))]) (rest := []) (N2 := 411) bdSR_lift_47 okSR_granted lk9_111 (And.intro (by decide) (by decide)) (by decide) rfl rfl rfl (Nat.le_of_ble_eq_true rfl) (Nat.le_of_ble_eq_true rfl) (Nat.le_refl 411) (Nat.le_refl 411) zob_0 cSR_granted ?_
    rintro rr h' ⟨rfl, rfl⟩ -
    refine zb_iret bkSR_lift_50 bdSR_lift_50 rfl (x := zit (nSp (zup sg2 (zel 4 n) 0 0)) 0 ((zup sg2 (zel 4 n) 0 0) 1 4)) (h' := zN (hGrC (zup sg2 (zel 4 n) 0 0))) (Ps := []) rfl trivial rfl ?_
    exact Or.inr (⟨hc, _, hb, by rw [zup_a (by omega), x4], rfl⟩)
  · skip
    refine zG_run bkSR_lift_11 (lv' := [(0, .ref 0), (1, .int n)]) (st' := [.int (-2), .ref 0]) (h' := zN sg) (Ps := []) rfl trivial ?_
    refine zG_callv (a := 0) (c := 9) (As := [.int (-2)]) (rest := []) (N2 := 411) bdSR_lift_14 okSR_refused lk9_93 (And.intro (by decide) (by decide)) (by decide) rfl rfl rfl (Nat.le_of_ble_eq_true rfl) (Nat.le_of_ble_eq_true rfl) (Nat.le_refl 411) (Nat.le_refl 411) zob_0 (cSR_refused (by decide) (by decide)) ?_
    rintro rr h' ⟨rfl, rfl⟩ -
    refine zb_iret bkSR_lift_17 bdSR_lift_17 rfl (x := (-2)) (h' := zN (hRfC sg (-2))) (Ps := []) rfl trivial rfl ?_
    exact Or.inl ⟨rfl, rfl, by grind⟩
theorem bkSR_stretch_0 : zBk mSR_stretch 0 [(1, 0, 1, 0, 0), (5, 9, 0, 1, 0), (1, 2, 0, 0, 0), (1, 3, 0, 0, 0)] = some 6 := by decide +kernel
theorem bkSR_stretch_9 : zBk mSR_stretch 9 [] = some 9 := by decide +kernel
theorem bkSR_stretch_18 : zBk mSR_stretch 18 [(1, 0, 1, 0, 0), (5, 9, 0, 1, 0), (1, 1, 0, 0, 0)] = some 23 := by decide +kernel
theorem bkSR_stretch_26 : zBk mSR_stretch 26 [] = some 26 := by decide +kernel
theorem bkSR_stretch_36 : zBk mSR_stretch 36 [(1, 0, 1, 0, 0), (0, 0, 0, 0, 6), (0, 0, 0, 0, 0), (0, 0, 0, 0, 0), (0, 0, 0, 0, 0)] = some 42 := by decide +kernel
theorem bkSR_stretch_45 : zBk mSR_stretch 45 [(1, 0, 1, 0, 0), (5, 9, 0, 1, 0), (5, 5, 3, 3, 3), (1, 1, 0, 0, 0), (9, 0, 0, 0, 0), (1, 2, 0, 0, 0), (6, 6, 1, 0, 1), (1, 0, 1, 0, 0), (5, 9, 0, 1, 0), (5, 5, 3, 3, 3), (1, 1, 0, 0, 0), (9, 0, 0, 0, 0), (1, 3, 0, 0, 0), (6, 6, 2, 0, 2), (1, 0, 1, 0, 0), (0, 0, 0, 0, 0)] = some 73 := by decide +kernel
theorem bkSR_stretch_76 : zBk mSR_stretch 76 [] = some 76 := by decide +kernel
theorem bkSR_stretch_29 : zBk mSR_stretch 29 [(1, 0, 1, 0, 0), (0, 0, 0, 0, -2)] = some 32 := by decide +kernel
theorem bkSR_stretch_35 : zBk mSR_stretch 35 [] = some 35 := by decide +kernel
theorem bkSR_stretch_12 : zBk mSR_stretch 12 [(1, 0, 1, 0, 0), (0, 0, 0, 0, -1)] = some 14 := by decide +kernel
theorem bkSR_stretch_17 : zBk mSR_stretch 17 [] = some 17 := by decide +kernel
theorem bdSR_stretch_6 : decode mSR_stretch.2.2.1 6 = .ok (.invokevirtual 114, 3) := by decide +kernel
theorem bdSR_stretch_9 : decode mSR_stretch.2.2.1 9 = .ok (.ifCond .ne 9, 3) := by decide +kernel
theorem bdSR_stretch_14 : decode mSR_stretch.2.2.1 14 = .ok (.invokevirtual 93, 3) := by decide +kernel
theorem bdSR_stretch_17 : decode mSR_stretch.2.2.1 17 = .ok (.ireturn, 1) := by decide +kernel
theorem bdSR_stretch_23 : decode mSR_stretch.2.2.1 23 = .ok (.invokevirtual 169, 3) := by decide +kernel
theorem bdSR_stretch_26 : decode mSR_stretch.2.2.1 26 = .ok (.ifCond .ne 10, 3) := by decide +kernel
theorem bdSR_stretch_32 : decode mSR_stretch.2.2.1 32 = .ok (.invokevirtual 93, 3) := by decide +kernel
theorem bdSR_stretch_35 : decode mSR_stretch.2.2.1 35 = .ok (.ireturn, 1) := by decide +kernel
theorem bdSR_stretch_42 : decode mSR_stretch.2.2.1 42 = .ok (.invokevirtual 100, 3) := by decide +kernel
theorem bdSR_stretch_73 : decode mSR_stretch.2.2.1 73 = .ok (.invokevirtual 111, 3) := by decide +kernel
theorem bdSR_stretch_76 : decode mSR_stretch.2.2.1 76 = .ok (.ireturn, 1) := by decide +kernel
theorem cSR_stretch {sg : zSig} {n f t : Int32} (ob : okS sg 1) (h0 : 0 ≤ sg 36 2) (h1 : sg 36 2 < 8) (u0 : 0 ≤ sg 36 3) (u1 : sg 36 3 ≤ 8) : zG mSR_stretch 411 (fun rr h' => (rr = some (.int (-1)) ∧ h' = zN (hRfC sg (-1)) ∧ (¬ (0 ≤ f ∧ f < t ∧ t ≤ sg 1 2))) ∨ (rr = some (.int (-2)) ∧ h' = zN (hRfC sg (-2)) ∧ ((0 ≤ f ∧ f < t ∧ t ≤ sg 1 2) ∧ ¬ ((0 ≤ n ∧ n < sg 1 4) ∧ sg (zel 4 n) 0 ≠ 0))) ∨ ((0 ≤ f ∧ f < t ∧ t ≤ sg 1 2) ∧ ((0 ≤ n ∧ n < sg 1 4) ∧ sg (zel 4 n) 0 ≠ 0) ∧ ∃ sg1, hBeg sg sg1 6 0 0 0 ∧ rr = some (.int 0) ∧ h' = zN (hGrC (zup (zup sg1 (zel 4 n) 1 f) (zel 4 n) 2 t)))) 0 [(0, .ref 0), (1, .int n), (2, .int f), (3, .int t)] [] (zN sg) := by
  obtain ⟨⟨n0, n1⟩, ⟨g0, g1⟩, ⟨a0, a1⟩, -⟩ := id ob
  refine zG_run bkSR_stretch_0 (lv' := [(0, .ref 0), (1, .int n), (2, .int f), (3, .int t)]) (st' := [.int t, .int f, .ref 1]) (h' := zN sg) (Ps := [zOb (zN sg) 0 9 ∧ (zN sg).2.2 0 0 = true]) rfl (zA ⟨zob_0, rfl⟩ trivial) ?_
  refine zG_callv (a := 1) (c := 5) (As := [.int f, .int t]) (rest := []) (N2 := 411) bdSR_stretch_6 okShe_isRange lk9_114 (And.intro (by decide) (by decide)) (by decide) rfl rfl rfl (Nat.le_of_ble_eq_true rfl) (Nat.le_of_ble_eq_true rfl) (Nat.le_refl 411) (Nat.le_refl 411) zob_1 cShe_isRange ?_
  rintro rr h' ⟨rfl, rfl⟩ -
  refine zb_ifne (tgt := 18) bkSR_stretch_9 bdSR_stretch_9 (by decide) (lv' := [(0, .ref 0), (1, .int n), (2, .int f), (3, .int t)]) (st' := []) (h' := zN sg) (x := if 0 ≤ f ∧ f < t ∧ t ≤ sg 1 2 then 1 else 0) (Ps := []) rfl trivial (fun c1 => ?_) (fun c1 => ?_)
  · skip
    have hc : 0 ≤ f ∧ f < t ∧ t ≤ sg 1 2 := by grind
    refine zG_run bkSR_stretch_18 (lv' := [(0, .ref 0), (1, .int n), (2, .int f), (3, .int t)]) (st' := [.int n, .ref 1]) (h' := zN sg) (Ps := [zOb (zN sg) 0 9 ∧ (zN sg).2.2 0 0 = true]) rfl (zA ⟨zob_0, rfl⟩ trivial) ?_
    refine zG_callv (a := 1) (c := 5) (As := [.int n]) (rest := []) (N2 := 411) bdSR_stretch_23 okShe_hasSpan lk9_169 (And.intro (by decide) (by decide)) (by decide) rfl rfl rfl (Nat.le_of_ble_eq_true rfl) (Nat.le_of_ble_eq_true rfl) (Nat.le_refl 411) (Nat.le_refl 411) zob_1 (cShe_hasSpan (by lia)) ?_
    rintro rr h' ⟨rfl, rfl⟩ -
    refine zb_ifne (tgt := 36) bkSR_stretch_26 bdSR_stretch_26 (by decide) (lv' := [(0, .ref 0), (1, .int n), (2, .int f), (3, .int t)]) (st' := []) (h' := zN sg) (x := if (0 ≤ n ∧ n < sg 1 4) ∧ sg (zel 4 n) 0 ≠ 0 then 1 else 0) (Ps := []) rfl trivial (fun c2 => ?_) (fun c2 => ?_)
    · skip
      have hd : (0 ≤ n ∧ n < sg 1 4) ∧ sg (zel 4 n) 0 ≠ 0 := by grind
      refine zG_run bkSR_stretch_36 (lv' := [(0, .ref 0), (1, .int n), (2, .int f), (3, .int t)]) (st' := [.int 0, .int 0, .int 0, .int 6, .ref 0]) (h' := zN sg) (Ps := []) rfl trivial ?_
      refine zG_callv (a := 0) (c := 9) (As := [.int 6, .int 0, .int 0, .int 0]) (rest := []) (N2 := 411) bdSR_stretch_42 okSR_begin lk9_100 (And.intro (by decide) (by decide)) (by decide) rfl rfl rfl (Nat.le_of_ble_eq_true rfl) (Nat.le_of_ble_eq_true rfl) (Nat.le_refl 411) (Nat.le_refl 411) zob_0 (cSR_begin ob h0 h1 u0 u1) ?_
      rintro rr h' ⟨sg3, rfl, rfl, hb⟩ -
      have fb := hBeg_fr h0 h1 hb
      have x2 : sg3 1 2 = sg 1 2 := fb 1 2 (by decide) (by decide)
      have x4 : sg3 1 4 = sg 1 4 := fb 1 4 (by decide) (by decide)
      have x6 : sg3 1 6 = sg 1 6 := fb 1 6 (by decide) (by decide)
      have xt : sg3 34 1 = sg 34 1 := fb 34 1 (by decide) (by decide)
      refine zG_run bkSR_stretch_45 (lv' := [(0, .ref 0), (1, .int n), (2, .int f), (3, .int t)]) (st' := [.int 0, .ref 0]) (h' := zN (zup (zup sg3 (zel 4 n) 1 f) (zel 4 n) 2 t)) (Ps := [zOb (zN sg3) 0 9 ∧ (zN sg3).2.2 0 0 = true, zOb (zN sg3) 1 5 ∧ (zN sg3).2.2 1 3 = true, zInR (zN sg3) 4 n, zOb (zN sg3) (zel 4 n) 6, zOb (zN (zup sg3 (zel 4 n) 1 f)) 0 9 ∧ (zN (zup sg3 (zel 4 n) 1 f)).2.2 0 0 = true, zOb (zN (zup sg3 (zel 4 n) 1 f)) 1 5 ∧ (zN (zup sg3 (zel 4 n) 1 f)).2.2 1 3 = true, zInR (zN (zup sg3 (zel 4 n) 1 f)) 4 n, zOb (zN (zup sg3 (zel 4 n) 1 f)) (zel 4 n) 6]) rfl (zA ⟨zob_0, rfl⟩ (zA ⟨zob_1, rfl⟩ (zA (zinR_4 (i := n) (by lia) (by lia)) (zA (zel_ob4 (i := n) (by lia) (by lia)) (zA ⟨zob_0, rfl⟩ (zA ⟨zob_1, rfl⟩ (zA (zinR_4 (i := n) (by lia) (by lia)) (zA (zel_ob4 (i := n) (by lia) (by lia)) trivial)))))))) ?_
      refine zG_callv (a := 0) (c := 9) (As := [.int 0]) (rest := []) (N2 := 411) bdSR_stretch_73 okSR_granted lk9_111 (And.intro (by decide) (by decide)) (by decide) rfl rfl rfl (Nat.le_of_ble_eq_true rfl) (Nat.le_of_ble_eq_true rfl) (Nat.le_refl 411) (Nat.le_refl 411) zob_0 cSR_granted ?_
      rintro rr h' ⟨rfl, rfl⟩ -
      refine zb_iret bkSR_stretch_76 bdSR_stretch_76 rfl (x := 0) (h' := zN (hGrC (zup (zup sg3 (zel 4 n) 1 f) (zel 4 n) 2 t))) (Ps := []) rfl trivial rfl ?_
      exact Or.inr (Or.inr (⟨hc, hd, _, hb, rfl, rfl⟩))
    · skip
      refine zG_run bkSR_stretch_29 (lv' := [(0, .ref 0), (1, .int n), (2, .int f), (3, .int t)]) (st' := [.int (-2), .ref 0]) (h' := zN sg) (Ps := []) rfl trivial ?_
      refine zG_callv (a := 0) (c := 9) (As := [.int (-2)]) (rest := []) (N2 := 411) bdSR_stretch_32 okSR_refused lk9_93 (And.intro (by decide) (by decide)) (by decide) rfl rfl rfl (Nat.le_of_ble_eq_true rfl) (Nat.le_of_ble_eq_true rfl) (Nat.le_refl 411) (Nat.le_refl 411) zob_0 (cSR_refused (by decide) (by decide)) ?_
      rintro rr h' ⟨rfl, rfl⟩ -
      refine zb_iret bkSR_stretch_35 bdSR_stretch_35 rfl (x := (-2)) (h' := zN (hRfC sg (-2))) (Ps := []) rfl trivial rfl ?_
      exact Or.inr (Or.inl ⟨rfl, rfl, by grind⟩)
  · skip
    refine zG_run bkSR_stretch_12 (lv' := [(0, .ref 0), (1, .int n), (2, .int f), (3, .int t)]) (st' := [.int (-1), .ref 0]) (h' := zN sg) (Ps := []) rfl trivial ?_
    refine zG_callv (a := 0) (c := 9) (As := [.int (-1)]) (rest := []) (N2 := 411) bdSR_stretch_14 okSR_refused lk9_93 (And.intro (by decide) (by decide)) (by decide) rfl rfl rfl (Nat.le_of_ble_eq_true rfl) (Nat.le_of_ble_eq_true rfl) (Nat.le_refl 411) (Nat.le_refl 411) zob_0 (cSR_refused (by decide) (by decide)) ?_
    rintro rr h' ⟨rfl, rfl⟩ -
    refine zb_iret bkSR_stretch_17 bdSR_stretch_17 rfl (x := (-1)) (h' := zN (hRfC sg (-1))) (Ps := []) rfl trivial rfl ?_
    exact Or.inl ⟨rfl, rfl, by grind⟩
theorem bkSR_unpin_0 : zBk mSR_unpin 0 [(1, 0, 1, 0, 0), (5, 9, 0, 1, 0), (1, 1, 0, 0, 0)] = some 5 := by decide +kernel
theorem bkSR_unpin_8 : zBk mSR_unpin 8 [] = some 8 := by decide +kernel
theorem bkSR_unpin_18 : zBk mSR_unpin 18 [(1, 0, 1, 0, 0), (0, 0, 0, 0, 10), (0, 0, 0, 0, 0), (0, 0, 0, 0, 0), (0, 0, 0, 0, 0)] = some 24 := by decide +kernel
theorem bkSR_unpin_27 : zBk mSR_unpin 27 [(1, 0, 1, 0, 0), (5, 9, 0, 1, 0), (5, 5, 5, 4, 5), (1, 1, 0, 0, 0), (9, 0, 0, 0, 0), (0, 0, 0, 0, 0), (6, 1, 0, 1, 0), (1, 0, 1, 0, 0), (1, 0, 1, 0, 0), (5, 9, 0, 1, 0), (5, 5, 5, 4, 5), (1, 1, 0, 0, 0), (9, 0, 0, 0, 0), (5, 1, 1, 0, 1)] = some 53 := by decide +kernel
theorem bkSR_unpin_56 : zBk mSR_unpin 56 [] = some 56 := by decide +kernel
theorem bkSR_unpin_11 : zBk mSR_unpin 11 [(1, 0, 1, 0, 0), (0, 0, 0, 0, -2)] = some 14 := by decide +kernel
theorem bkSR_unpin_17 : zBk mSR_unpin 17 [] = some 17 := by decide +kernel
theorem bdSR_unpin_5 : decode mSR_unpin.2.2.1 5 = .ok (.invokevirtual 210, 3) := by decide +kernel
theorem bdSR_unpin_8 : decode mSR_unpin.2.2.1 8 = .ok (.ifCond .ne 10, 3) := by decide +kernel
theorem bdSR_unpin_14 : decode mSR_unpin.2.2.1 14 = .ok (.invokevirtual 93, 3) := by decide +kernel
theorem bdSR_unpin_17 : decode mSR_unpin.2.2.1 17 = .ok (.ireturn, 1) := by decide +kernel
theorem bdSR_unpin_24 : decode mSR_unpin.2.2.1 24 = .ok (.invokevirtual 100, 3) := by decide +kernel
theorem bdSR_unpin_53 : decode mSR_unpin.2.2.1 53 = .ok (.invokevirtual 111, 3) := by decide +kernel
theorem bdSR_unpin_56 : decode mSR_unpin.2.2.1 56 = .ok (.ireturn, 1) := by decide +kernel
theorem cSR_unpin {sg : zSig} {n : Int32} (ob : okS sg 1) (h0 : 0 ≤ sg 36 2) (h1 : sg 36 2 < 8) (u0 : 0 ≤ sg 36 3) (u1 : sg 36 3 ≤ 8) : zG mSR_unpin 411 (fun rr h' => (rr = some (.int (-2)) ∧ h' = zN (hRfC sg (-2)) ∧ (¬ ((0 ≤ n ∧ n < sg 1 6) ∧ sg (zel 5 n) 0 ≠ 0))) ∨ (((0 ≤ n ∧ n < sg 1 6) ∧ sg (zel 5 n) 0 ≠ 0) ∧ ∃ sg1, hBeg sg sg1 10 0 0 0 ∧ rr = some (.int (sg (zel 5 n) 1)) ∧ h' = zN (hGrC (zup sg1 (zel 5 n) 0 0)))) 0 [(0, .ref 0), (1, .int n)] [] (zN sg) := by
  obtain ⟨⟨n0, n1⟩, ⟨g0, g1⟩, ⟨a0, a1⟩, -⟩ := id ob
  refine zG_run bkSR_unpin_0 (lv' := [(0, .ref 0), (1, .int n)]) (st' := [.int n, .ref 1]) (h' := zN sg) (Ps := [zOb (zN sg) 0 9 ∧ (zN sg).2.2 0 0 = true]) rfl (zA ⟨zob_0, rfl⟩ trivial) ?_
  refine zG_callv (a := 1) (c := 5) (As := [.int n]) (rest := []) (N2 := 411) bdSR_unpin_5 okShe_hasAnchor lk9_210 (And.intro (by decide) (by decide)) (by decide) rfl rfl rfl (Nat.le_of_ble_eq_true rfl) (Nat.le_of_ble_eq_true rfl) (Nat.le_refl 411) (Nat.le_refl 411) zob_1 (cShe_hasAnchor (by lia)) ?_
  rintro rr h' ⟨rfl, rfl⟩ -
  refine zb_ifne (tgt := 18) bkSR_unpin_8 bdSR_unpin_8 (by decide) (lv' := [(0, .ref 0), (1, .int n)]) (st' := []) (h' := zN sg) (x := if (0 ≤ n ∧ n < sg 1 6) ∧ sg (zel 5 n) 0 ≠ 0 then 1 else 0) (Ps := []) rfl trivial (fun c1 => ?_) (fun c1 => ?_)
  · skip
    have hc : (0 ≤ n ∧ n < sg 1 6) ∧ sg (zel 5 n) 0 ≠ 0 := by grind
    have hz := zel5_rng (i := n) (by lia) (by lia)
    refine zG_run bkSR_unpin_18 (lv' := [(0, .ref 0), (1, .int n)]) (st' := [.int 0, .int 0, .int 0, .int 10, .ref 0]) (h' := zN sg) (Ps := []) rfl trivial ?_
    refine zG_callv (a := 0) (c := 9) (As := [.int 10, .int 0, .int 0, .int 0]) (rest := []) (N2 := 411) bdSR_unpin_24 okSR_begin lk9_100 (And.intro (by decide) (by decide)) (by decide) rfl rfl rfl (Nat.le_of_ble_eq_true rfl) (Nat.le_of_ble_eq_true rfl) (Nat.le_refl 411) (Nat.le_refl 411) zob_0 (cSR_begin ob h0 h1 u0 u1) ?_
    rintro rr h' ⟨sg2, rfl, rfl, hb⟩ -
    have fb := hBeg_fr h0 h1 hb
    have x2 : sg2 1 2 = sg 1 2 := fb 1 2 (by decide) (by decide)
    have x4 : sg2 1 4 = sg 1 4 := fb 1 4 (by decide) (by decide)
    have x6 : sg2 1 6 = sg 1 6 := fb 1 6 (by decide) (by decide)
    have xt : sg2 34 1 = sg 34 1 := fb 34 1 (by decide) (by decide)
    refine zG_run bkSR_unpin_27 (lv' := [(0, .ref 0), (1, .int n)]) (st' := [.int ((zup sg2 (zel 5 n) 0 0) (zel 5 n) 1), .ref 0]) (h' := zN (zup sg2 (zel 5 n) 0 0)) (Ps := [zOb (zN sg2) 0 9 ∧ (zN sg2).2.2 0 0 = true, zOb (zN sg2) 1 5 ∧ (zN sg2).2.2 1 5 = true, zInR (zN sg2) 5 n, zOb (zN sg2) (zel 5 n) 1, 0 = 0 ∨ 0 = 1, zOb (zN (zup sg2 (zel 5 n) 0 0)) 0 9 ∧ (zN (zup sg2 (zel 5 n) 0 0)).2.2 0 0 = true, zOb (zN (zup sg2 (zel 5 n) 0 0)) 1 5 ∧ (zN (zup sg2 (zel 5 n) 0 0)).2.2 1 5 = true, zInR (zN (zup sg2 (zel 5 n) 0 0)) 5 n, zOb (zN (zup sg2 (zel 5 n) 0 0)) (zel 5 n) 1]) rfl (zA ⟨zob_0, rfl⟩ (zA ⟨zob_1, rfl⟩ (zA (zinR_5 (i := n) (by lia) (by lia)) (zA (zel_ob5 (i := n) (by lia) (by lia)) (zA (Or.inl rfl) (zA ⟨zob_0, rfl⟩ (zA ⟨zob_1, rfl⟩ (zA (zinR_5 (i := n) (by lia) (by lia)) (zA (zel_ob5 (i := n) (by lia) (by lia)) trivial))))))))) ?_
    refine zG_callv (a := 0) (c := 9) (As := [.int ((zup sg2 (zel 5 n) 0 0) (zel 5 n) 1)]) (rest := []) (N2 := 411) bdSR_unpin_53 okSR_granted lk9_111 (And.intro (by decide) (by decide)) (by decide) rfl rfl rfl (Nat.le_of_ble_eq_true rfl) (Nat.le_of_ble_eq_true rfl) (Nat.le_refl 411) (Nat.le_refl 411) zob_0 cSR_granted ?_
    rintro rr h' ⟨rfl, rfl⟩ -
    refine zb_iret bkSR_unpin_56 bdSR_unpin_56 rfl (x := (zup sg2 (zel 5 n) 0 0) (zel 5 n) 1) (h' := zN (hGrC (zup sg2 (zel 5 n) 0 0))) (Ps := []) rfl trivial rfl ?_
    exact Or.inr (⟨hc, _, hb, by rw [zup_i (by decide), fb _ _ (by omega) (by omega)], rfl⟩)
  · skip
    refine zG_run bkSR_unpin_11 (lv' := [(0, .ref 0), (1, .int n)]) (st' := [.int (-2), .ref 0]) (h' := zN sg) (Ps := []) rfl trivial ?_
    refine zG_callv (a := 0) (c := 9) (As := [.int (-2)]) (rest := []) (N2 := 411) bdSR_unpin_14 okSR_refused lk9_93 (And.intro (by decide) (by decide)) (by decide) rfl rfl rfl (Nat.le_of_ble_eq_true rfl) (Nat.le_of_ble_eq_true rfl) (Nat.le_refl 411) (Nat.le_refl 411) zob_0 (cSR_refused (by decide) (by decide)) ?_
    rintro rr h' ⟨rfl, rfl⟩ -
    refine zb_iret bkSR_unpin_17 bdSR_unpin_17 rfl (x := (-2)) (h' := zN (hRfC sg (-2))) (Ps := []) rfl trivial rfl ?_
    exact Or.inl ⟨rfl, rfl, by grind⟩
def hLay (sg : zSig) (n f t la on of co gr si : Int32) : zSig := zup (zup (zup (zup (zup (zup (zup (zup (zup (zup sg 1 4 (n + 1)) (zel 4 n) 0 1) (zel 4 n) 1 f) (zel 4 n) 2 t) (zel 4 n) 3 la) (zel 4 n) 8 si) (zel 4 n) 4 on) (zel 4 n) 5 of) (zel 4 n) 6 co) (zel 4 n) 7 gr
def hPin (sg : zSig) (n p l : Int32) : zSig := zup (zup (zup (zup (zup sg 1 6 (n + 1)) (zel 5 n) 0 1) (zel 5 n) 1 p) (zel 5 n) 2 l) (zel 5 n) 3 0
theorem bkSR_lay_0 : zBk mSR_lay 0 [(1, 0, 1, 0, 0), (5, 9, 0, 1, 0), (1, 1, 0, 0, 0), (1, 2, 0, 0, 0)] = some 6 := by decide +kernel
theorem bkSR_lay_9 : zBk mSR_lay 9 [] = some 9 := by decide +kernel
theorem bkSR_lay_34 : zBk mSR_lay 34 [(0, 0, 0, 0, 0), (2, 9, 0, 0, 0), (1, 9, 0, 0, 0)] = some 39 := by decide +kernel
theorem bkSR_lay_56 : zBk mSR_lay 56 [(1, 0, 1, 0, 0), (0, 0, 0, 0, -1)] = some 58 := by decide +kernel
theorem bkSR_lay_61 : zBk mSR_lay 61 [] = some 61 := by decide +kernel
theorem bkSR_lay_12 : zBk mSR_lay 12 [(1, 3, 0, 0, 0), (0, 0, 0, 0, 9)] = some 15 := by decide +kernel
theorem bkSR_lay_18 : zBk mSR_lay 18 [] = some 18 := by decide +kernel
theorem bkSR_lay_21 : zBk mSR_lay 21 [(1, 8, 0, 0, 0), (0, 0, 0, 0, 3)] = some 24 := by decide +kernel
theorem bkSR_lay_27 : zBk mSR_lay 27 [] = some 27 := by decide +kernel
theorem bkSR_lay_30 : zBk mSR_lay 30 [(0, 0, 0, 0, 1), (22, 35, 0, 0, 0), (2, 9, 0, 0, 0), (1, 9, 0, 0, 0)] = some 39 := by decide +kernel
theorem bkSR_lay_42 : zBk mSR_lay 42 [(1, 4, 0, 0, 0), (1, 5, 0, 0, 0), (1, 6, 0, 0, 0), (1, 7, 0, 0, 0)] = some 50 := by decide +kernel
theorem bkSR_lay_53 : zBk mSR_lay 53 [] = some 53 := by decide +kernel
theorem bkSR_lay_62 : zBk mSR_lay 62 [(1, 0, 1, 0, 0), (5, 9, 0, 1, 0), (5, 5, 4, 0, 4), (0, 0, 0, 0, 16)] = some 71 := by decide +kernel
theorem bkSR_lay_81 : zBk mSR_lay 81 [(1, 0, 1, 0, 0), (0, 0, 0, 0, 3), (0, 0, 0, 0, 0), (0, 0, 0, 0, 0), (0, 0, 0, 0, 0)] = some 86 := by decide +kernel
theorem bkSR_lay_89 : zBk mSR_lay 89 [(1, 0, 1, 0, 0), (5, 9, 0, 1, 0), (5, 5, 4, 0, 4), (2, 10, 0, 0, 0), (1, 0, 1, 0, 0), (5, 9, 0, 1, 0), (18, 0, 0, 0, 0), (5, 5, 4, 0, 4), (0, 0, 0, 0, 1), (4, 0, 0, 0, 0), (6, 5, 4, 0, 4), (1, 0, 1, 0, 0), (5, 9, 0, 1, 0), (5, 5, 3, 3, 3), (1, 10, 0, 0, 0), (9, 0, 0, 0, 0), (2, 11, 1, 0, 0), (1, 11, 1, 0, 0), (0, 0, 0, 0, 1), (6, 6, 0, 1, 0), (1, 11, 1, 0, 0), (1, 1, 0, 0, 0), (6, 6, 1, 0, 1), (1, 11, 1, 0, 0), (1, 2, 0, 0, 0), (6, 6, 2, 0, 2), (1, 11, 1, 0, 0), (1, 3, 0, 0, 0), (6, 6, 3, 0, 3), (1, 11, 1, 0, 0), (1, 8, 0, 0, 0), (6, 6, 8, 0, 8), (1, 11, 1, 0, 0), (1, 4, 0, 0, 0), (6, 6, 4, 0, 4), (1, 11, 1, 0, 0), (1, 5, 0, 0, 0), (6, 6, 5, 0, 5), (1, 11, 1, 0, 0), (1, 6, 0, 0, 0), (6, 6, 6, 0, 6), (1, 11, 1, 0, 0), (1, 7, 0, 0, 0), (6, 6, 7, 0, 7), (1, 0, 1, 0, 0), (1, 10, 0, 0, 0)] = some 185 := by decide +kernel
theorem bkSR_lay_188 : zBk mSR_lay 188 [] = some 188 := by decide +kernel
theorem bkSR_lay_74 : zBk mSR_lay 74 [(1, 0, 1, 0, 0), (0, 0, 0, 0, -5)] = some 77 := by decide +kernel
theorem bkSR_lay_80 : zBk mSR_lay 80 [] = some 80 := by decide +kernel
theorem bdSR_lay_6 : decode mSR_lay.2.2.1 6 = .ok (.invokevirtual 114, 3) := by decide +kernel
theorem bdSR_lay_9 : decode mSR_lay.2.2.1 9 = .ok (.ifCond .eq 25, 3) := by decide +kernel
theorem bdSR_lay_15 : decode mSR_lay.2.2.1 15 = .ok (.invokestatic 126, 3) := by decide +kernel
theorem bdSR_lay_18 : decode mSR_lay.2.2.1 18 = .ok (.ifCond .eq 16, 3) := by decide +kernel
theorem bdSR_lay_24 : decode mSR_lay.2.2.1 24 = .ok (.invokestatic 126, 3) := by decide +kernel
theorem bdSR_lay_27 : decode mSR_lay.2.2.1 27 = .ok (.ifCond .eq 7, 3) := by decide +kernel
theorem bdSR_lay_39 : decode mSR_lay.2.2.1 39 = .ok (.ifCond .eq 17, 3) := by decide +kernel
theorem bdSR_lay_50 : decode mSR_lay.2.2.1 50 = .ok (.invokestatic 129, 3) := by decide +kernel
theorem bdSR_lay_53 : decode mSR_lay.2.2.1 53 = .ok (.ifCond .ne 9, 3) := by decide +kernel
theorem bdSR_lay_58 : decode mSR_lay.2.2.1 58 = .ok (.invokevirtual 93, 3) := by decide +kernel
theorem bdSR_lay_61 : decode mSR_lay.2.2.1 61 = .ok (.ireturn, 1) := by decide +kernel
theorem bdSR_lay_71 : decode mSR_lay.2.2.1 71 = .ok (.if_icmp .lt 10, 3) := by decide +kernel
theorem bdSR_lay_77 : decode mSR_lay.2.2.1 77 = .ok (.invokevirtual 93, 3) := by decide +kernel
theorem bdSR_lay_80 : decode mSR_lay.2.2.1 80 = .ok (.ireturn, 1) := by decide +kernel
theorem bdSR_lay_86 : decode mSR_lay.2.2.1 86 = .ok (.invokevirtual 100, 3) := by decide +kernel
theorem bdSR_lay_185 : decode mSR_lay.2.2.1 185 = .ok (.invokevirtual 111, 3) := by decide +kernel
theorem bdSR_lay_188 : decode mSR_lay.2.2.1 188 = .ok (.ireturn, 1) := by decide +kernel
theorem cSR_lay {sg : zSig} {f t la on of co gr si : Int32} (ob : okS sg 1) (h0 : 0 ≤ sg 36 2) (h1 : sg 36 2 < 8) (u0 : 0 ≤ sg 36 3) (u1 : sg 36 3 ≤ 8) : zG mSR_lay 411 (fun rr h' => (rr = some (.int (-1)) ∧ h' = zN (hRfC sg (-1)) ∧ (¬ ((0 ≤ f ∧ f < t ∧ t ≤ sg 1 2) ∧ (0 ≤ la ∧ la ≤ 9) ∧ (0 ≤ si ∧ si ≤ 3) ∧ (0 ≤ on ∧ on ≤ 15) ∧ (0 ≤ of ∧ of ≤ 15) ∧ (co = -1 ∨ (0 ≤ co ∧ co ≤ 7)) ∧ -3 ≤ gr ∧ gr ≤ 3))) ∨ (rr = some (.int (-5)) ∧ h' = zN (hRfC sg (-5)) ∧ (((0 ≤ f ∧ f < t ∧ t ≤ sg 1 2) ∧ (0 ≤ la ∧ la ≤ 9) ∧ (0 ≤ si ∧ si ≤ 3) ∧ (0 ≤ on ∧ on ≤ 15) ∧ (0 ≤ of ∧ of ≤ 15) ∧ (co = -1 ∨ (0 ≤ co ∧ co ≤ 7)) ∧ -3 ≤ gr ∧ gr ≤ 3) ∧ 16 ≤ sg 1 4)) ∨ (((0 ≤ f ∧ f < t ∧ t ≤ sg 1 2) ∧ (0 ≤ la ∧ la ≤ 9) ∧ (0 ≤ si ∧ si ≤ 3) ∧ (0 ≤ on ∧ on ≤ 15) ∧ (0 ≤ of ∧ of ≤ 15) ∧ (co = -1 ∨ (0 ≤ co ∧ co ≤ 7)) ∧ -3 ≤ gr ∧ gr ≤ 3) ∧ sg 1 4 < 16 ∧ ∃ sg1, hBeg sg sg1 3 0 0 0 ∧ rr = some (.int (sg 1 4)) ∧ h' = zN (hGrC (hLay sg1 (sg 1 4) f t la on of co gr si)))) 0 [(0, .ref 0), (1, .int f), (2, .int t), (3, .int la), (4, .int on), (5, .int of), (6, .int co), (7, .int gr), (8, .int si)] [] (zN sg) := by
  obtain ⟨⟨n0, n1⟩, ⟨g0, g1⟩, ⟨a0, a1⟩, -⟩ := id ob
  refine zG_run bkSR_lay_0 (lv' := [(0, .ref 0), (1, .int f), (2, .int t), (3, .int la), (4, .int on), (5, .int of), (6, .int co), (7, .int gr), (8, .int si)]) (st' := [.int t, .int f, .ref 1]) (h' := zN sg) (Ps := [zOb (zN sg) 0 9 ∧ (zN sg).2.2 0 0 = true]) rfl (zA ⟨zob_0, rfl⟩ trivial) ?_
  refine zG_callv (a := 1) (c := 5) (As := [.int f, .int t]) (rest := []) (N2 := 411) bdSR_lay_6 okShe_isRange lk9_114 (And.intro (by decide) (by decide)) (by decide) rfl rfl rfl (Nat.le_of_ble_eq_true rfl) (Nat.le_of_ble_eq_true rfl) (Nat.le_refl 411) (Nat.le_refl 411) zob_1 cShe_isRange ?_
  rintro rr h' ⟨rfl, rfl⟩ -
  refine zb_ifeq (tgt := 34) bkSR_lay_9 bdSR_lay_9 (by decide) (lv' := [(0, .ref 0), (1, .int f), (2, .int t), (3, .int la), (4, .int on), (5, .int of), (6, .int co), (7, .int gr), (8, .int si)]) (st' := []) (h' := zN sg) (x := if 0 ≤ f ∧ f < t ∧ t ≤ sg 1 2 then 1 else 0) (Ps := []) rfl trivial (fun c1 => ?_) (fun c1 => ?_)
  · skip
    refine zb_ifeq (tgt := 56) bkSR_lay_34 bdSR_lay_39 (by decide) (lv' := [(9, .int 0), (0, .ref 0), (1, .int f), (2, .int t), (3, .int la), (4, .int on), (5, .int of), (6, .int co), (7, .int gr), (8, .int si)]) (st' := []) (h' := zN sg) (x := 0) (Ps := []) rfl trivial (fun c2 => ?_) (fun c2 => ?_)
    · skip
      refine zG_run bkSR_lay_56 (lv' := [(9, .int 0), (0, .ref 0), (1, .int f), (2, .int t), (3, .int la), (4, .int on), (5, .int of), (6, .int co), (7, .int gr), (8, .int si)]) (st' := [.int (-1), .ref 0]) (h' := zN sg) (Ps := []) rfl trivial ?_
      refine zG_callv (a := 0) (c := 9) (As := [.int (-1)]) (rest := []) (N2 := 411) bdSR_lay_58 okSR_refused lk9_93 (And.intro (by decide) (by decide)) (by decide) rfl rfl rfl (Nat.le_of_ble_eq_true rfl) (Nat.le_of_ble_eq_true rfl) (Nat.le_refl 411) (Nat.le_refl 411) zob_0 (cSR_refused (by decide) (by decide)) ?_
      rintro rr h' ⟨rfl, rfl⟩ -
      refine zb_iret bkSR_lay_61 bdSR_lay_61 rfl (x := (-1)) (h' := zN (hRfC sg (-1))) (Ps := []) rfl trivial rfl ?_
      exact Or.inl ⟨rfl, rfl, by grind⟩
    · exact absurd c2 (by decide)
  · skip
    refine zG_run bkSR_lay_12 (lv' := [(0, .ref 0), (1, .int f), (2, .int t), (3, .int la), (4, .int on), (5, .int of), (6, .int co), (7, .int gr), (8, .int si)]) (st' := [.int 9, .int la]) (h' := zN sg) (Ps := []) rfl trivial ?_
    refine zG_calls (As := [.int la, .int 9]) (rest := []) (N2 := 411) bdSR_lay_15 okSR_isWithin lk9_126 (And.intro (by decide) (by decide)) rfl rfl (Nat.le_of_ble_eq_true rfl) (Nat.le_of_ble_eq_true rfl) (Nat.le_refl 411) (Nat.le_refl 411) cSR_isWithin ?_
    rintro rr h' ⟨rfl, rfl⟩ -
    refine zb_ifeq (tgt := 34) bkSR_lay_18 bdSR_lay_18 (by decide) (lv' := [(0, .ref 0), (1, .int f), (2, .int t), (3, .int la), (4, .int on), (5, .int of), (6, .int co), (7, .int gr), (8, .int si)]) (st' := []) (h' := zN sg) (x := if 0 ≤ la ∧ la ≤ 9 then 1 else 0) (Ps := []) rfl trivial (fun c3 => ?_) (fun c3 => ?_)
    · skip
      refine zb_ifeq (tgt := 56) bkSR_lay_34 bdSR_lay_39 (by decide) (lv' := [(9, .int 0), (0, .ref 0), (1, .int f), (2, .int t), (3, .int la), (4, .int on), (5, .int of), (6, .int co), (7, .int gr), (8, .int si)]) (st' := []) (h' := zN sg) (x := 0) (Ps := []) rfl trivial (fun c4 => ?_) (fun c4 => ?_)
      · skip
        refine zG_run bkSR_lay_56 (lv' := [(9, .int 0), (0, .ref 0), (1, .int f), (2, .int t), (3, .int la), (4, .int on), (5, .int of), (6, .int co), (7, .int gr), (8, .int si)]) (st' := [.int (-1), .ref 0]) (h' := zN sg) (Ps := []) rfl trivial ?_
        refine zG_callv (a := 0) (c := 9) (As := [.int (-1)]) (rest := []) (N2 := 411) bdSR_lay_58 okSR_refused lk9_93 (And.intro (by decide) (by decide)) (by decide) rfl rfl rfl (Nat.le_of_ble_eq_true rfl) (Nat.le_of_ble_eq_true rfl) (Nat.le_refl 411) (Nat.le_refl 411) zob_0 (cSR_refused (by decide) (by decide)) ?_
        rintro rr h' ⟨rfl, rfl⟩ -
        refine zb_iret bkSR_lay_61 bdSR_lay_61 rfl (x := (-1)) (h' := zN (hRfC sg (-1))) (Ps := []) rfl trivial rfl ?_
        exact Or.inl ⟨rfl, rfl, by grind⟩
      · exact absurd c4 (by decide)
    · skip
      refine zG_run bkSR_lay_21 (lv' := [(0, .ref 0), (1, .int f), (2, .int t), (3, .int la), (4, .int on), (5, .int of), (6, .int co), (7, .int gr), (8, .int si)]) (st' := [.int 3, .int si]) (h' := zN sg) (Ps := []) rfl trivial ?_
      refine zG_calls (As := [.int si, .int 3]) (rest := []) (N2 := 411) bdSR_lay_24 okSR_isWithin lk9_126 (And.intro (by decide) (by decide)) rfl rfl (Nat.le_of_ble_eq_true rfl) (Nat.le_of_ble_eq_true rfl) (Nat.le_refl 411) (Nat.le_refl 411) cSR_isWithin ?_
      rintro rr h' ⟨rfl, rfl⟩ -
      refine zb_ifeq (tgt := 34) bkSR_lay_27 bdSR_lay_27 (by decide) (lv' := [(0, .ref 0), (1, .int f), (2, .int t), (3, .int la), (4, .int on), (5, .int of), (6, .int co), (7, .int gr), (8, .int si)]) (st' := []) (h' := zN sg) (x := if 0 ≤ si ∧ si ≤ 3 then 1 else 0) (Ps := []) rfl trivial (fun c5 => ?_) (fun c5 => ?_)
      · skip
        refine zb_ifeq (tgt := 56) bkSR_lay_34 bdSR_lay_39 (by decide) (lv' := [(9, .int 0), (0, .ref 0), (1, .int f), (2, .int t), (3, .int la), (4, .int on), (5, .int of), (6, .int co), (7, .int gr), (8, .int si)]) (st' := []) (h' := zN sg) (x := 0) (Ps := []) rfl trivial (fun c6 => ?_) (fun c6 => ?_)
        · skip
          refine zG_run bkSR_lay_56 (lv' := [(9, .int 0), (0, .ref 0), (1, .int f), (2, .int t), (3, .int la), (4, .int on), (5, .int of), (6, .int co), (7, .int gr), (8, .int si)]) (st' := [.int (-1), .ref 0]) (h' := zN sg) (Ps := []) rfl trivial ?_
          refine zG_callv (a := 0) (c := 9) (As := [.int (-1)]) (rest := []) (N2 := 411) bdSR_lay_58 okSR_refused lk9_93 (And.intro (by decide) (by decide)) (by decide) rfl rfl rfl (Nat.le_of_ble_eq_true rfl) (Nat.le_of_ble_eq_true rfl) (Nat.le_refl 411) (Nat.le_refl 411) zob_0 (cSR_refused (by decide) (by decide)) ?_
          rintro rr h' ⟨rfl, rfl⟩ -
          refine zb_iret bkSR_lay_61 bdSR_lay_61 rfl (x := (-1)) (h' := zN (hRfC sg (-1))) (Ps := []) rfl trivial rfl ?_
          exact Or.inl ⟨rfl, rfl, by grind⟩
        · exact absurd c6 (by decide)
      · skip
        refine zb_ifeq (tgt := 56) bkSR_lay_30 bdSR_lay_39 (by decide) (lv' := [(9, .int 1), (0, .ref 0), (1, .int f), (2, .int t), (3, .int la), (4, .int on), (5, .int of), (6, .int co), (7, .int gr), (8, .int si)]) (st' := []) (h' := zN sg) (x := 1) (Ps := []) rfl trivial (fun c7 => ?_) (fun c7 => ?_)
        · exact absurd c7 (by decide)
        · skip
          refine zG_run bkSR_lay_42 (lv' := [(9, .int 1), (0, .ref 0), (1, .int f), (2, .int t), (3, .int la), (4, .int on), (5, .int of), (6, .int co), (7, .int gr), (8, .int si)]) (st' := [.int gr, .int co, .int of, .int on]) (h' := zN sg) (Ps := []) rfl trivial ?_
          refine zG_calls (As := [.int on, .int of, .int co, .int gr]) (rest := []) (N2 := 411) bdSR_lay_50 okSR_isBrush lk9_129 (And.intro (by decide) (by decide)) rfl rfl (Nat.le_of_ble_eq_true rfl) (Nat.le_of_ble_eq_true rfl) (Nat.le_refl 411) (Nat.le_refl 411) cSR_isBrush ?_
          rintro rr h' ⟨rfl, rfl⟩ -
          refine zb_ifne (tgt := 62) bkSR_lay_53 bdSR_lay_53 (by decide) (lv' := [(9, .int 1), (0, .ref 0), (1, .int f), (2, .int t), (3, .int la), (4, .int on), (5, .int of), (6, .int co), (7, .int gr), (8, .int si)]) (st' := []) (h' := zN sg) (x := if (0 ≤ on ∧ on ≤ 15) ∧ (0 ≤ of ∧ of ≤ 15) ∧ (co = -1 ∨ (0 ≤ co ∧ co ≤ 7)) ∧ -3 ≤ gr ∧ gr ≤ 3 then 1 else 0) (Ps := []) rfl trivial (fun c8 => ?_) (fun c8 => ?_)
          · skip
            have hc : (0 ≤ f ∧ f < t ∧ t ≤ sg 1 2) ∧ (0 ≤ la ∧ la ≤ 9) ∧ (0 ≤ si ∧ si ≤ 3) ∧ (0 ≤ on ∧ on ≤ 15) ∧ (0 ≤ of ∧ of ≤ 15) ∧ (co = -1 ∨ (0 ≤ co ∧ co ≤ 7)) ∧ -3 ≤ gr ∧ gr ≤ 3 := by grind (splits := 40)
            refine zb_iclt (tgt := 81) bkSR_lay_62 bdSR_lay_71 (by decide) (lv' := [(9, .int 1), (0, .ref 0), (1, .int f), (2, .int t), (3, .int la), (4, .int on), (5, .int of), (6, .int co), (7, .int gr), (8, .int si)]) (st' := []) (h' := zN sg) (x := sg 1 4) (y := 16) (Ps := [zOb (zN sg) 0 9 ∧ (zN sg).2.2 0 0 = true, zOb (zN sg) 1 5]) rfl (zA ⟨zob_0, rfl⟩ (zA zob_1 trivial)) (fun c9 => ?_) (fun c9 => ?_)
            · skip
              have hd : sg 1 4 < 16 := by lia
              refine zG_run bkSR_lay_81 (lv' := [(9, .int 1), (0, .ref 0), (1, .int f), (2, .int t), (3, .int la), (4, .int on), (5, .int of), (6, .int co), (7, .int gr), (8, .int si)]) (st' := [.int 0, .int 0, .int 0, .int 3, .ref 0]) (h' := zN sg) (Ps := []) rfl trivial ?_
              refine zG_callv (a := 0) (c := 9) (As := [.int 3, .int 0, .int 0, .int 0]) (rest := []) (N2 := 411) bdSR_lay_86 okSR_begin lk9_100 (And.intro (by decide) (by decide)) (by decide) rfl rfl rfl (Nat.le_of_ble_eq_true rfl) (Nat.le_of_ble_eq_true rfl) (Nat.le_refl 411) (Nat.le_refl 411) zob_0 (cSR_begin ob h0 h1 u0 u1) ?_
              rintro rr h' ⟨sg10, rfl, rfl, hb⟩ -
              have fb := hBeg_fr h0 h1 hb
              have x2 : sg10 1 2 = sg 1 2 := fb 1 2 (by decide) (by decide)
              have x4 : sg10 1 4 = sg 1 4 := fb 1 4 (by decide) (by decide)
              have x6 : sg10 1 6 = sg 1 6 := fb 1 6 (by decide) (by decide)
              have xt : sg10 34 1 = sg 34 1 := fb 34 1 (by decide) (by decide)
              refine zG_run bkSR_lay_89 (lv' := [(11, .ref (zel 4 (sg10 1 4))), (10, .int (sg10 1 4)), (9, .int 1), (0, .ref 0), (1, .int f), (2, .int t), (3, .int la), (4, .int on), (5, .int of), (6, .int co), (7, .int gr), (8, .int si)]) (st' := [.int (sg10 1 4), .ref 0]) (h' := zN (zup (zup (zup (zup (zup (zup (zup (zup (zup (zup sg10 1 4 ((sg10 1 4) + 1)) (zel 4 (sg10 1 4)) 0 1) (zel 4 (sg10 1 4)) 1 f) (zel 4 (sg10 1 4)) 2 t) (zel 4 (sg10 1 4)) 3 la) (zel 4 (sg10 1 4)) 8 si) (zel 4 (sg10 1 4)) 4 on) (zel 4 (sg10 1 4)) 5 of) (zel 4 (sg10 1 4)) 6 co) (zel 4 (sg10 1 4)) 7 gr)) (Ps := [zOb (zN sg10) 0 9 ∧ (zN sg10).2.2 0 0 = true, zOb (zN sg10) 1 5, zOb (zN sg10) 0 9 ∧ (zN sg10).2.2 0 0 = true, zOb (zN sg10) 1 5, zOb (zN sg10) 1 5, zOb (zN (zup sg10 1 4 ((sg10 1 4) + 1))) 0 9 ∧ (zN (zup sg10 1 4 ((sg10 1 4) + 1))).2.2 0 0 = true, zOb (zN (zup sg10 1 4 ((sg10 1 4) + 1))) 1 5 ∧ (zN (zup sg10 1 4 ((sg10 1 4) + 1))).2.2 1 3 = true, zInR (zN (zup sg10 1 4 ((sg10 1 4) + 1))) 4 (sg10 1 4), zOb (zN (zup sg10 1 4 ((sg10 1 4) + 1))) (zel 4 (sg10 1 4)) 6, 1 = 0 ∨ 1 = 1, zOb (zN (zup (zup sg10 1 4 ((sg10 1 4) + 1)) (zel 4 (sg10 1 4)) 0 1)) (zel 4 (sg10 1 4)) 6, zOb (zN (zup (zup (zup sg10 1 4 ((sg10 1 4) + 1)) (zel 4 (sg10 1 4)) 0 1) (zel 4 (sg10 1 4)) 1 f)) (zel 4 (sg10 1 4)) 6, zOb (zN (zup (zup (zup (zup sg10 1 4 ((sg10 1 4) + 1)) (zel 4 (sg10 1 4)) 0 1) (zel 4 (sg10 1 4)) 1 f) (zel 4 (sg10 1 4)) 2 t)) (zel 4 (sg10 1 4)) 6, zOb (zN (zup (zup (zup (zup (zup sg10 1 4 ((sg10 1 4) + 1)) (zel 4 (sg10 1 4)) 0 1) (zel 4 (sg10 1 4)) 1 f) (zel 4 (sg10 1 4)) 2 t) (zel 4 (sg10 1 4)) 3 la)) (zel 4 (sg10 1 4)) 6, zOb (zN (zup (zup (zup (zup (zup (zup sg10 1 4 ((sg10 1 4) + 1)) (zel 4 (sg10 1 4)) 0 1) (zel 4 (sg10 1 4)) 1 f) (zel 4 (sg10 1 4)) 2 t) (zel 4 (sg10 1 4)) 3 la) (zel 4 (sg10 1 4)) 8 si)) (zel 4 (sg10 1 4)) 6, zOb (zN (zup (zup (zup (zup (zup (zup (zup sg10 1 4 ((sg10 1 4) + 1)) (zel 4 (sg10 1 4)) 0 1) (zel 4 (sg10 1 4)) 1 f) (zel 4 (sg10 1 4)) 2 t) (zel 4 (sg10 1 4)) 3 la) (zel 4 (sg10 1 4)) 8 si) (zel 4 (sg10 1 4)) 4 on)) (zel 4 (sg10 1 4)) 6, zOb (zN (zup (zup (zup (zup (zup (zup (zup (zup sg10 1 4 ((sg10 1 4) + 1)) (zel 4 (sg10 1 4)) 0 1) (zel 4 (sg10 1 4)) 1 f) (zel 4 (sg10 1 4)) 2 t) (zel 4 (sg10 1 4)) 3 la) (zel 4 (sg10 1 4)) 8 si) (zel 4 (sg10 1 4)) 4 on) (zel 4 (sg10 1 4)) 5 of)) (zel 4 (sg10 1 4)) 6, zOb (zN (zup (zup (zup (zup (zup (zup (zup (zup (zup sg10 1 4 ((sg10 1 4) + 1)) (zel 4 (sg10 1 4)) 0 1) (zel 4 (sg10 1 4)) 1 f) (zel 4 (sg10 1 4)) 2 t) (zel 4 (sg10 1 4)) 3 la) (zel 4 (sg10 1 4)) 8 si) (zel 4 (sg10 1 4)) 4 on) (zel 4 (sg10 1 4)) 5 of) (zel 4 (sg10 1 4)) 6 co)) (zel 4 (sg10 1 4)) 6]) rfl (zA ⟨zob_0, rfl⟩ (zA zob_1 (zA ⟨zob_0, rfl⟩ (zA zob_1 (zA zob_1 (zA ⟨zob_0, rfl⟩ (zA ⟨zob_1, rfl⟩ (zA (zinR_4 (i := sg10 1 4) (by lia) (by lia)) (zA (zel_ob4 (i := (sg10 1 4)) (by lia) (by lia)) (zA (Or.inr rfl) (zA (zel_ob4 (i := (sg10 1 4)) (by lia) (by lia)) (zA (zel_ob4 (i := (sg10 1 4)) (by lia) (by lia)) (zA (zel_ob4 (i := (sg10 1 4)) (by lia) (by lia)) (zA (zel_ob4 (i := (sg10 1 4)) (by lia) (by lia)) (zA (zel_ob4 (i := (sg10 1 4)) (by lia) (by lia)) (zA (zel_ob4 (i := (sg10 1 4)) (by lia) (by lia)) (zA (zel_ob4 (i := (sg10 1 4)) (by lia) (by lia)) (zA (zel_ob4 (i := (sg10 1 4)) (by lia) (by lia)) trivial)))))))))))))))))) ?_
              refine zG_callv (a := 0) (c := 9) (As := [.int (sg10 1 4)]) (rest := []) (N2 := 411) bdSR_lay_185 okSR_granted lk9_111 (And.intro (by decide) (by decide)) (by decide) rfl rfl rfl (Nat.le_of_ble_eq_true rfl) (Nat.le_of_ble_eq_true rfl) (Nat.le_refl 411) (Nat.le_refl 411) zob_0 cSR_granted ?_
              rintro rr h' ⟨rfl, rfl⟩ -
              refine zb_iret bkSR_lay_188 bdSR_lay_188 rfl (x := sg10 1 4) (h' := zN (hGrC (zup (zup (zup (zup (zup (zup (zup (zup (zup (zup sg10 1 4 ((sg10 1 4) + 1)) (zel 4 (sg10 1 4)) 0 1) (zel 4 (sg10 1 4)) 1 f) (zel 4 (sg10 1 4)) 2 t) (zel 4 (sg10 1 4)) 3 la) (zel 4 (sg10 1 4)) 8 si) (zel 4 (sg10 1 4)) 4 on) (zel 4 (sg10 1 4)) 5 of) (zel 4 (sg10 1 4)) 6 co) (zel 4 (sg10 1 4)) 7 gr))) (Ps := []) rfl trivial rfl ?_
              exact Or.inr (Or.inr (⟨hc, hd, _, hb, by rw [x4], by rw [x4]; rfl⟩))
            · skip
              refine zG_run bkSR_lay_74 (lv' := [(9, .int 1), (0, .ref 0), (1, .int f), (2, .int t), (3, .int la), (4, .int on), (5, .int of), (6, .int co), (7, .int gr), (8, .int si)]) (st' := [.int (-5), .ref 0]) (h' := zN sg) (Ps := []) rfl trivial ?_
              refine zG_callv (a := 0) (c := 9) (As := [.int (-5)]) (rest := []) (N2 := 411) bdSR_lay_77 okSR_refused lk9_93 (And.intro (by decide) (by decide)) (by decide) rfl rfl rfl (Nat.le_of_ble_eq_true rfl) (Nat.le_of_ble_eq_true rfl) (Nat.le_refl 411) (Nat.le_refl 411) zob_0 (cSR_refused (by decide) (by decide)) ?_
              rintro rr h' ⟨rfl, rfl⟩ -
              refine zb_iret bkSR_lay_80 bdSR_lay_80 rfl (x := (-5)) (h' := zN (hRfC sg (-5))) (Ps := []) rfl trivial rfl ?_
              exact Or.inr (Or.inl ⟨rfl, rfl, by grind⟩)
          · skip
            refine zG_run bkSR_lay_56 (lv' := [(9, .int 1), (0, .ref 0), (1, .int f), (2, .int t), (3, .int la), (4, .int on), (5, .int of), (6, .int co), (7, .int gr), (8, .int si)]) (st' := [.int (-1), .ref 0]) (h' := zN sg) (Ps := []) rfl trivial ?_
            refine zG_callv (a := 0) (c := 9) (As := [.int (-1)]) (rest := []) (N2 := 411) bdSR_lay_58 okSR_refused lk9_93 (And.intro (by decide) (by decide)) (by decide) rfl rfl rfl (Nat.le_of_ble_eq_true rfl) (Nat.le_of_ble_eq_true rfl) (Nat.le_refl 411) (Nat.le_refl 411) zob_0 (cSR_refused (by decide) (by decide)) ?_
            rintro rr h' ⟨rfl, rfl⟩ -
            refine zb_iret bkSR_lay_61 bdSR_lay_61 rfl (x := (-1)) (h' := zN (hRfC sg (-1))) (Ps := []) rfl trivial rfl ?_
            exact Or.inl ⟨rfl, rfl, by grind⟩
theorem bkSR_pin_0 : zBk mSR_pin 0 [(1, 0, 1, 0, 0), (5, 9, 0, 1, 0), (1, 1, 0, 0, 0)] = some 5 := by decide +kernel
theorem bkSR_pin_8 : zBk mSR_pin 8 [] = some 8 := by decide +kernel
theorem bkSR_pin_19 : zBk mSR_pin 19 [(1, 0, 1, 0, 0), (0, 0, 0, 0, -1)] = some 21 := by decide +kernel
theorem bkSR_pin_24 : zBk mSR_pin 24 [] = some 24 := by decide +kernel
theorem bkSR_pin_11 : zBk mSR_pin 11 [(1, 2, 0, 0, 0), (0, 0, 0, 0, 1)] = some 13 := by decide +kernel
theorem bkSR_pin_16 : zBk mSR_pin 16 [] = some 16 := by decide +kernel
theorem bkSR_pin_25 : zBk mSR_pin 25 [(1, 0, 1, 0, 0), (5, 9, 0, 1, 0), (5, 5, 6, 0, 6), (0, 0, 0, 0, 12)] = some 34 := by decide +kernel
theorem bkSR_pin_44 : zBk mSR_pin 44 [(1, 0, 1, 0, 0), (0, 0, 0, 0, 9), (0, 0, 0, 0, 0), (0, 0, 0, 0, 0), (0, 0, 0, 0, 0)] = some 50 := by decide +kernel
theorem bkSR_pin_53 : zBk mSR_pin 53 [(1, 0, 1, 0, 0), (5, 9, 0, 1, 0), (5, 5, 6, 0, 6), (2, 3, 0, 0, 0), (1, 0, 1, 0, 0), (5, 9, 0, 1, 0), (18, 0, 0, 0, 0), (5, 5, 6, 0, 6), (0, 0, 0, 0, 1), (4, 0, 0, 0, 0), (6, 5, 6, 0, 6), (1, 0, 1, 0, 0), (5, 9, 0, 1, 0), (5, 5, 5, 4, 5), (1, 3, 0, 0, 0), (9, 0, 0, 0, 0), (2, 4, 1, 0, 0), (1, 4, 1, 0, 0), (0, 0, 0, 0, 1), (6, 1, 0, 1, 0), (1, 4, 1, 0, 0), (1, 1, 0, 0, 0), (6, 1, 1, 0, 1), (1, 4, 1, 0, 0), (1, 2, 0, 0, 0), (6, 1, 2, 0, 2), (1, 4, 1, 0, 0), (0, 0, 0, 0, 0), (6, 1, 3, 0, 3), (1, 0, 1, 0, 0), (1, 3, 0, 0, 0)] = some 111 := by decide +kernel
theorem bkSR_pin_114 : zBk mSR_pin 114 [] = some 114 := by decide +kernel
theorem bkSR_pin_37 : zBk mSR_pin 37 [(1, 0, 1, 0, 0), (0, 0, 0, 0, -5)] = some 40 := by decide +kernel
theorem bkSR_pin_43 : zBk mSR_pin 43 [] = some 43 := by decide +kernel
theorem bdSR_pin_5 : decode mSR_pin.2.2.1 5 = .ok (.invokevirtual 85, 3) := by decide +kernel
theorem bdSR_pin_8 : decode mSR_pin.2.2.1 8 = .ok (.ifCond .eq 11, 3) := by decide +kernel
theorem bdSR_pin_13 : decode mSR_pin.2.2.1 13 = .ok (.invokestatic 126, 3) := by decide +kernel
theorem bdSR_pin_16 : decode mSR_pin.2.2.1 16 = .ok (.ifCond .ne 9, 3) := by decide +kernel
theorem bdSR_pin_21 : decode mSR_pin.2.2.1 21 = .ok (.invokevirtual 93, 3) := by decide +kernel
theorem bdSR_pin_24 : decode mSR_pin.2.2.1 24 = .ok (.ireturn, 1) := by decide +kernel
theorem bdSR_pin_34 : decode mSR_pin.2.2.1 34 = .ok (.if_icmp .lt 10, 3) := by decide +kernel
theorem bdSR_pin_40 : decode mSR_pin.2.2.1 40 = .ok (.invokevirtual 93, 3) := by decide +kernel
theorem bdSR_pin_43 : decode mSR_pin.2.2.1 43 = .ok (.ireturn, 1) := by decide +kernel
theorem bdSR_pin_50 : decode mSR_pin.2.2.1 50 = .ok (.invokevirtual 100, 3) := by decide +kernel
theorem bdSR_pin_111 : decode mSR_pin.2.2.1 111 = .ok (.invokevirtual 111, 3) := by decide +kernel
theorem bdSR_pin_114 : decode mSR_pin.2.2.1 114 = .ok (.ireturn, 1) := by decide +kernel
theorem cSR_pin {sg : zSig} {p l : Int32} (ob : okS sg 1) (h0 : 0 ≤ sg 36 2) (h1 : sg 36 2 < 8) (u0 : 0 ≤ sg 36 3) (u1 : sg 36 3 ≤ 8) : zG mSR_pin 411 (fun rr h' => (rr = some (.int (-1)) ∧ h' = zN (hRfC sg (-1)) ∧ (¬ ((0 ≤ p ∧ p ≤ sg 1 2) ∧ 0 ≤ l ∧ l ≤ 1))) ∨ (rr = some (.int (-5)) ∧ h' = zN (hRfC sg (-5)) ∧ (((0 ≤ p ∧ p ≤ sg 1 2) ∧ 0 ≤ l ∧ l ≤ 1) ∧ 12 ≤ sg 1 6)) ∨ (((0 ≤ p ∧ p ≤ sg 1 2) ∧ 0 ≤ l ∧ l ≤ 1) ∧ sg 1 6 < 12 ∧ ∃ sg1, hBeg sg sg1 9 0 0 0 ∧ rr = some (.int (sg 1 6)) ∧ h' = zN (hGrC (hPin sg1 (sg 1 6) p l)))) 0 [(0, .ref 0), (1, .int p), (2, .int l)] [] (zN sg) := by
  obtain ⟨⟨n0, n1⟩, ⟨g0, g1⟩, ⟨a0, a1⟩, -⟩ := id ob
  refine zG_run bkSR_pin_0 (lv' := [(0, .ref 0), (1, .int p), (2, .int l)]) (st' := [.int p, .ref 1]) (h' := zN sg) (Ps := [zOb (zN sg) 0 9 ∧ (zN sg).2.2 0 0 = true]) rfl (zA ⟨zob_0, rfl⟩ trivial) ?_
  refine zG_callv (a := 1) (c := 5) (As := [.int p]) (rest := []) (N2 := 411) bdSR_pin_5 okShe_hasPlace lk9_85 (And.intro (by decide) (by decide)) (by decide) rfl rfl rfl (Nat.le_of_ble_eq_true rfl) (Nat.le_of_ble_eq_true rfl) (Nat.le_refl 411) (Nat.le_refl 411) zob_1 (cShe_hasPlace zob_1) ?_
  rintro rr h' ⟨rfl, rfl⟩ -
  refine zb_ifeq (tgt := 19) bkSR_pin_8 bdSR_pin_8 (by decide) (lv' := [(0, .ref 0), (1, .int p), (2, .int l)]) (st' := []) (h' := zN sg) (x := if 0 ≤ p ∧ p ≤ sg 1 2 then 1 else 0) (Ps := []) rfl trivial (fun c1 => ?_) (fun c1 => ?_)
  · skip
    refine zG_run bkSR_pin_19 (lv' := [(0, .ref 0), (1, .int p), (2, .int l)]) (st' := [.int (-1), .ref 0]) (h' := zN sg) (Ps := []) rfl trivial ?_
    refine zG_callv (a := 0) (c := 9) (As := [.int (-1)]) (rest := []) (N2 := 411) bdSR_pin_21 okSR_refused lk9_93 (And.intro (by decide) (by decide)) (by decide) rfl rfl rfl (Nat.le_of_ble_eq_true rfl) (Nat.le_of_ble_eq_true rfl) (Nat.le_refl 411) (Nat.le_refl 411) zob_0 (cSR_refused (by decide) (by decide)) ?_
    rintro rr h' ⟨rfl, rfl⟩ -
    refine zb_iret bkSR_pin_24 bdSR_pin_24 rfl (x := (-1)) (h' := zN (hRfC sg (-1))) (Ps := []) rfl trivial rfl ?_
    exact Or.inl ⟨rfl, rfl, by grind⟩
  · skip
    refine zG_run bkSR_pin_11 (lv' := [(0, .ref 0), (1, .int p), (2, .int l)]) (st' := [.int 1, .int l]) (h' := zN sg) (Ps := []) rfl trivial ?_
    refine zG_calls (As := [.int l, .int 1]) (rest := []) (N2 := 411) bdSR_pin_13 okSR_isWithin lk9_126 (And.intro (by decide) (by decide)) rfl rfl (Nat.le_of_ble_eq_true rfl) (Nat.le_of_ble_eq_true rfl) (Nat.le_refl 411) (Nat.le_refl 411) cSR_isWithin ?_
    rintro rr h' ⟨rfl, rfl⟩ -
    refine zb_ifne (tgt := 25) bkSR_pin_16 bdSR_pin_16 (by decide) (lv' := [(0, .ref 0), (1, .int p), (2, .int l)]) (st' := []) (h' := zN sg) (x := if 0 ≤ l ∧ l ≤ 1 then 1 else 0) (Ps := []) rfl trivial (fun c2 => ?_) (fun c2 => ?_)
    · skip
      have hc : (0 ≤ p ∧ p ≤ sg 1 2) ∧ 0 ≤ l ∧ l ≤ 1 := by grind
      refine zb_iclt (tgt := 44) bkSR_pin_25 bdSR_pin_34 (by decide) (lv' := [(0, .ref 0), (1, .int p), (2, .int l)]) (st' := []) (h' := zN sg) (x := sg 1 6) (y := 12) (Ps := [zOb (zN sg) 0 9 ∧ (zN sg).2.2 0 0 = true, zOb (zN sg) 1 5]) rfl (zA ⟨zob_0, rfl⟩ (zA zob_1 trivial)) (fun c3 => ?_) (fun c3 => ?_)
      · skip
        have hd : sg 1 6 < 12 := by lia
        refine zG_run bkSR_pin_44 (lv' := [(0, .ref 0), (1, .int p), (2, .int l)]) (st' := [.int 0, .int 0, .int 0, .int 9, .ref 0]) (h' := zN sg) (Ps := []) rfl trivial ?_
        refine zG_callv (a := 0) (c := 9) (As := [.int 9, .int 0, .int 0, .int 0]) (rest := []) (N2 := 411) bdSR_pin_50 okSR_begin lk9_100 (And.intro (by decide) (by decide)) (by decide) rfl rfl rfl (Nat.le_of_ble_eq_true rfl) (Nat.le_of_ble_eq_true rfl) (Nat.le_refl 411) (Nat.le_refl 411) zob_0 (cSR_begin ob h0 h1 u0 u1) ?_
        rintro rr h' ⟨sg4, rfl, rfl, hb⟩ -
        have fb := hBeg_fr h0 h1 hb
        have x2 : sg4 1 2 = sg 1 2 := fb 1 2 (by decide) (by decide)
        have x4 : sg4 1 4 = sg 1 4 := fb 1 4 (by decide) (by decide)
        have x6 : sg4 1 6 = sg 1 6 := fb 1 6 (by decide) (by decide)
        have xt : sg4 34 1 = sg 34 1 := fb 34 1 (by decide) (by decide)
        refine zG_run bkSR_pin_53 (lv' := [(4, .ref (zel 5 (sg4 1 6))), (3, .int (sg4 1 6)), (0, .ref 0), (1, .int p), (2, .int l)]) (st' := [.int (sg4 1 6), .ref 0]) (h' := zN (zup (zup (zup (zup (zup sg4 1 6 ((sg4 1 6) + 1)) (zel 5 (sg4 1 6)) 0 1) (zel 5 (sg4 1 6)) 1 p) (zel 5 (sg4 1 6)) 2 l) (zel 5 (sg4 1 6)) 3 0)) (Ps := [zOb (zN sg4) 0 9 ∧ (zN sg4).2.2 0 0 = true, zOb (zN sg4) 1 5, zOb (zN sg4) 0 9 ∧ (zN sg4).2.2 0 0 = true, zOb (zN sg4) 1 5, zOb (zN sg4) 1 5, zOb (zN (zup sg4 1 6 ((sg4 1 6) + 1))) 0 9 ∧ (zN (zup sg4 1 6 ((sg4 1 6) + 1))).2.2 0 0 = true, zOb (zN (zup sg4 1 6 ((sg4 1 6) + 1))) 1 5 ∧ (zN (zup sg4 1 6 ((sg4 1 6) + 1))).2.2 1 5 = true, zInR (zN (zup sg4 1 6 ((sg4 1 6) + 1))) 5 (sg4 1 6), zOb (zN (zup sg4 1 6 ((sg4 1 6) + 1))) (zel 5 (sg4 1 6)) 1, 1 = 0 ∨ 1 = 1, zOb (zN (zup (zup sg4 1 6 ((sg4 1 6) + 1)) (zel 5 (sg4 1 6)) 0 1)) (zel 5 (sg4 1 6)) 1, zOb (zN (zup (zup (zup sg4 1 6 ((sg4 1 6) + 1)) (zel 5 (sg4 1 6)) 0 1) (zel 5 (sg4 1 6)) 1 p)) (zel 5 (sg4 1 6)) 1, zOb (zN (zup (zup (zup (zup sg4 1 6 ((sg4 1 6) + 1)) (zel 5 (sg4 1 6)) 0 1) (zel 5 (sg4 1 6)) 1 p) (zel 5 (sg4 1 6)) 2 l)) (zel 5 (sg4 1 6)) 1]) rfl (zA ⟨zob_0, rfl⟩ (zA zob_1 (zA ⟨zob_0, rfl⟩ (zA zob_1 (zA zob_1 (zA ⟨zob_0, rfl⟩ (zA ⟨zob_1, rfl⟩ (zA (zinR_5 (i := sg4 1 6) (by lia) (by lia)) (zA (zel_ob5 (i := (sg4 1 6)) (by lia) (by lia)) (zA (Or.inr rfl) (zA (zel_ob5 (i := (sg4 1 6)) (by lia) (by lia)) (zA (zel_ob5 (i := (sg4 1 6)) (by lia) (by lia)) (zA (zel_ob5 (i := (sg4 1 6)) (by lia) (by lia)) trivial))))))))))))) ?_
        refine zG_callv (a := 0) (c := 9) (As := [.int (sg4 1 6)]) (rest := []) (N2 := 411) bdSR_pin_111 okSR_granted lk9_111 (And.intro (by decide) (by decide)) (by decide) rfl rfl rfl (Nat.le_of_ble_eq_true rfl) (Nat.le_of_ble_eq_true rfl) (Nat.le_refl 411) (Nat.le_refl 411) zob_0 cSR_granted ?_
        rintro rr h' ⟨rfl, rfl⟩ -
        refine zb_iret bkSR_pin_114 bdSR_pin_114 rfl (x := sg4 1 6) (h' := zN (hGrC (zup (zup (zup (zup (zup sg4 1 6 ((sg4 1 6) + 1)) (zel 5 (sg4 1 6)) 0 1) (zel 5 (sg4 1 6)) 1 p) (zel 5 (sg4 1 6)) 2 l) (zel 5 (sg4 1 6)) 3 0))) (Ps := []) rfl trivial rfl ?_
        exact Or.inr (Or.inr (⟨hc, hd, _, hb, by rw [x6], by rw [x6]; rfl⟩))
      · skip
        refine zG_run bkSR_pin_37 (lv' := [(0, .ref 0), (1, .int p), (2, .int l)]) (st' := [.int (-5), .ref 0]) (h' := zN sg) (Ps := []) rfl trivial ?_
        refine zG_callv (a := 0) (c := 9) (As := [.int (-5)]) (rest := []) (N2 := 411) bdSR_pin_40 okSR_refused lk9_93 (And.intro (by decide) (by decide)) (by decide) rfl rfl rfl (Nat.le_of_ble_eq_true rfl) (Nat.le_of_ble_eq_true rfl) (Nat.le_refl 411) (Nat.le_refl 411) zob_0 (cSR_refused (by decide) (by decide)) ?_
        rintro rr h' ⟨rfl, rfl⟩ -
        refine zb_iret bkSR_pin_43 bdSR_pin_43 rfl (x := (-5)) (h' := zN (hRfC sg (-5))) (Ps := []) rfl trivial rfl ?_
        exact Or.inr (Or.inl ⟨rfl, rfl, by grind⟩)
    · skip
      refine zG_run bkSR_pin_19 (lv' := [(0, .ref 0), (1, .int p), (2, .int l)]) (st' := [.int (-1), .ref 0]) (h' := zN sg) (Ps := []) rfl trivial ?_
      refine zG_callv (a := 0) (c := 9) (As := [.int (-1)]) (rest := []) (N2 := 411) bdSR_pin_21 okSR_refused lk9_93 (And.intro (by decide) (by decide)) (by decide) rfl rfl rfl (Nat.le_of_ble_eq_true rfl) (Nat.le_of_ble_eq_true rfl) (Nat.le_refl 411) (Nat.le_refl 411) zob_0 (cSR_refused (by decide) (by decide)) ?_
      rintro rr h' ⟨rfl, rfl⟩ -
      refine zb_iret bkSR_pin_24 bdSR_pin_24 rfl (x := (-1)) (h' := zN (hRfC sg (-1))) (Ps := []) rfl trivial rfl ?_
      exact Or.inl ⟨rfl, rfl, by grind⟩
theorem bkSR_set_0 : zBk mSR_set 0 [(1, 2, 0, 0, 0)] = some 1 := by decide +kernel
theorem bkSR_set_17 : zBk mSR_set 17 [(0, 0, 0, 0, 0), (2, 4, 0, 0, 0), (1, 2, 0, 0, 0), (0, 0, 0, 0, 1)] = some 22 := by decide +kernel
theorem bkSR_set_37 : zBk mSR_set 37 [(0, 0, 0, 0, 0), (2, 5, 0, 0, 0), (1, 4, 0, 0, 0)] = some 42 := by decide +kernel
theorem bkSR_set_45 : zBk mSR_set 45 [(1, 5, 0, 0, 0)] = some 47 := by decide +kernel
theorem bkSR_set_50 : zBk mSR_set 50 [(1, 0, 1, 0, 0), (0, 0, 0, 0, -1)] = some 52 := by decide +kernel
theorem bkSR_set_55 : zBk mSR_set 55 [] = some 55 := by decide +kernel
theorem bkSR_set_25 : zBk mSR_set 25 [(1, 3, 0, 0, 0), (0, 0, 0, 0, 3)] = some 27 := by decide +kernel
theorem bkSR_set_30 : zBk mSR_set 30 [] = some 30 := by decide +kernel
theorem bkSR_set_33 : zBk mSR_set 33 [(0, 0, 0, 0, 1), (22, 38, 0, 0, 0), (2, 5, 0, 0, 0), (1, 4, 0, 0, 0)] = some 42 := by decide +kernel
theorem bkSR_set_56 : zBk mSR_set 56 [(1, 0, 1, 0, 0), (5, 9, 0, 1, 0), (1, 1, 0, 0, 0)] = some 61 := by decide +kernel
theorem bkSR_set_64 : zBk mSR_set 64 [] = some 64 := by decide +kernel
theorem bkSR_set_74 : zBk mSR_set 74 [(1, 0, 1, 0, 0), (0, 0, 0, 0, 5), (0, 0, 0, 0, 0), (0, 0, 0, 0, 0), (0, 0, 0, 0, 0)] = some 79 := by decide +kernel
theorem bkSR_set_82 : zBk mSR_set 82 [(1, 0, 1, 0, 0), (5, 9, 0, 1, 0), (5, 5, 3, 3, 3), (1, 1, 0, 0, 0), (9, 0, 0, 0, 0), (2, 6, 1, 0, 0), (1, 4, 0, 0, 0)] = some 95 := by decide +kernel
theorem bkSR_set_106 : zBk mSR_set 106 [(1, 6, 1, 0, 0), (5, 6, 8, 0, 8), (2, 7, 0, 0, 0), (1, 4, 0, 0, 0)] = some 115 := by decide +kernel
theorem bkSR_set_127 : zBk mSR_set 127 [(1, 6, 1, 0, 0), (1, 3, 0, 0, 0), (6, 6, 8, 0, 8), (1, 0, 1, 0, 0), (1, 7, 0, 0, 0)] = some 136 := by decide +kernel
theorem bkSR_set_139 : zBk mSR_set 139 [] = some 139 := by decide +kernel
theorem bkSR_set_67 : zBk mSR_set 67 [(1, 0, 1, 0, 0), (0, 0, 0, 0, -2)] = some 70 := by decide +kernel
theorem bkSR_set_73 : zBk mSR_set 73 [] = some 73 := by decide +kernel
theorem bkSR_set_4 : zBk mSR_set 4 [(1, 3, 0, 0, 0), (0, 0, 0, 0, 9)] = some 7 := by decide +kernel
theorem bkSR_set_10 : zBk mSR_set 10 [] = some 10 := by decide +kernel
theorem bkSR_set_13 : zBk mSR_set 13 [(0, 0, 0, 0, 1), (22, 18, 0, 0, 0), (2, 4, 0, 0, 0), (1, 2, 0, 0, 0), (0, 0, 0, 0, 1)] = some 22 := by decide +kernel
theorem bkSR_set_98 : zBk mSR_set 98 [(1, 6, 1, 0, 0), (5, 6, 3, 0, 3), (22, 111, 0, 0, 0), (2, 7, 0, 0, 0), (1, 4, 0, 0, 0)] = some 115 := by decide +kernel
theorem bkSR_set_118 : zBk mSR_set 118 [(1, 6, 1, 0, 0), (1, 3, 0, 0, 0), (6, 6, 3, 0, 3), (22, 133, 0, 0, 0), (1, 0, 1, 0, 0), (1, 7, 0, 0, 0)] = some 136 := by decide +kernel
theorem bdSR_set_1 : decode mSR_set.2.2.1 1 = .ok (.ifCond .ne 16, 3) := by decide +kernel
theorem bdSR_set_7 : decode mSR_set.2.2.1 7 = .ok (.invokestatic 126, 3) := by decide +kernel
theorem bdSR_set_10 : decode mSR_set.2.2.1 10 = .ok (.ifCond .eq 7, 3) := by decide +kernel
theorem bdSR_set_22 : decode mSR_set.2.2.1 22 = .ok (.if_icmp .ne 15, 3) := by decide +kernel
theorem bdSR_set_27 : decode mSR_set.2.2.1 27 = .ok (.invokestatic 126, 3) := by decide +kernel
theorem bdSR_set_30 : decode mSR_set.2.2.1 30 = .ok (.ifCond .eq 7, 3) := by decide +kernel
theorem bdSR_set_42 : decode mSR_set.2.2.1 42 = .ok (.ifCond .ne 14, 3) := by decide +kernel
theorem bdSR_set_47 : decode mSR_set.2.2.1 47 = .ok (.ifCond .ne 9, 3) := by decide +kernel
theorem bdSR_set_52 : decode mSR_set.2.2.1 52 = .ok (.invokevirtual 93, 3) := by decide +kernel
theorem bdSR_set_55 : decode mSR_set.2.2.1 55 = .ok (.ireturn, 1) := by decide +kernel
theorem bdSR_set_61 : decode mSR_set.2.2.1 61 = .ok (.invokevirtual 169, 3) := by decide +kernel
theorem bdSR_set_64 : decode mSR_set.2.2.1 64 = .ok (.ifCond .ne 10, 3) := by decide +kernel
theorem bdSR_set_70 : decode mSR_set.2.2.1 70 = .ok (.invokevirtual 93, 3) := by decide +kernel
theorem bdSR_set_73 : decode mSR_set.2.2.1 73 = .ok (.ireturn, 1) := by decide +kernel
theorem bdSR_set_79 : decode mSR_set.2.2.1 79 = .ok (.invokevirtual 100, 3) := by decide +kernel
theorem bdSR_set_95 : decode mSR_set.2.2.1 95 = .ok (.ifCond .eq 11, 3) := by decide +kernel
theorem bdSR_set_115 : decode mSR_set.2.2.1 115 = .ok (.ifCond .eq 12, 3) := by decide +kernel
theorem bdSR_set_136 : decode mSR_set.2.2.1 136 = .ok (.invokevirtual 111, 3) := by decide +kernel
theorem bdSR_set_139 : decode mSR_set.2.2.1 139 = .ok (.ireturn, 1) := by decide +kernel
theorem cSR_set {sg : zSig} {n w v : Int32} (ob : okS sg 1) (h0 : 0 ≤ sg 36 2) (h1 : sg 36 2 < 8) (u0 : 0 ≤ sg 36 3) (u1 : sg 36 3 ≤ 8) : zG mSR_set 411 (fun rr h' => (rr = some (.int (-1)) ∧ h' = zN (hRfC sg (-1)) ∧ (¬ ((w = 0 ∧ 0 ≤ v ∧ v ≤ 9) ∨ (w = 1 ∧ 0 ≤ v ∧ v ≤ 3)))) ∨ (rr = some (.int (-2)) ∧ h' = zN (hRfC sg (-2)) ∧ (((w = 0 ∧ 0 ≤ v ∧ v ≤ 9) ∨ (w = 1 ∧ 0 ≤ v ∧ v ≤ 3)) ∧ ¬ ((0 ≤ n ∧ n < sg 1 4) ∧ sg (zel 4 n) 0 ≠ 0))) ∨ (((w = 0 ∧ 0 ≤ v ∧ v ≤ 9) ∨ (w = 1 ∧ 0 ≤ v ∧ v ≤ 3)) ∧ ((0 ≤ n ∧ n < sg 1 4) ∧ sg (zel 4 n) 0 ≠ 0) ∧ ∃ sg1, hBeg sg sg1 5 0 0 0 ∧ rr = some (.int (sg (zel 4 n) (if w = 0 then 3 else 8))) ∧ h' = zN (hGrC (zup sg1 (zel 4 n) (if w = 0 then 3 else 8) v)))) 0 [(0, .ref 0), (1, .int n), (2, .int w), (3, .int v)] [] (zN sg) := by
  obtain ⟨⟨n0, n1⟩, ⟨g0, g1⟩, ⟨a0, a1⟩, -⟩ := id ob
  refine zb_ifne (tgt := 17) bkSR_set_0 bdSR_set_1 (by decide) (lv' := [(0, .ref 0), (1, .int n), (2, .int w), (3, .int v)]) (st' := []) (h' := zN sg) (x := w) (Ps := []) rfl trivial (fun c1 => ?_) (fun c1 => ?_)
  · skip
    refine zb_icne (tgt := 37) bkSR_set_17 bdSR_set_22 (by decide) (lv' := [(4, .int 0), (0, .ref 0), (1, .int n), (2, .int w), (3, .int v)]) (st' := []) (h' := zN sg) (x := w) (y := 1) (Ps := []) rfl trivial (fun c2 => ?_) (fun c2 => ?_)
    · skip
      refine zb_ifne (tgt := 56) bkSR_set_37 bdSR_set_42 (by decide) (lv' := [(5, .int 0), (4, .int 0), (0, .ref 0), (1, .int n), (2, .int w), (3, .int v)]) (st' := []) (h' := zN sg) (x := 0) (Ps := []) rfl trivial (fun c3 => ?_) (fun c3 => ?_)
      · exact absurd c3 (by decide)
      · skip
        refine zb_ifne (tgt := 56) bkSR_set_45 bdSR_set_47 (by decide) (lv' := [(5, .int 0), (4, .int 0), (0, .ref 0), (1, .int n), (2, .int w), (3, .int v)]) (st' := []) (h' := zN sg) (x := 0) (Ps := []) rfl trivial (fun c4 => ?_) (fun c4 => ?_)
        · exact absurd c4 (by decide)
        · skip
          refine zG_run bkSR_set_50 (lv' := [(5, .int 0), (4, .int 0), (0, .ref 0), (1, .int n), (2, .int w), (3, .int v)]) (st' := [.int (-1), .ref 0]) (h' := zN sg) (Ps := []) rfl trivial ?_
          refine zG_callv (a := 0) (c := 9) (As := [.int (-1)]) (rest := []) (N2 := 411) bdSR_set_52 okSR_refused lk9_93 (And.intro (by decide) (by decide)) (by decide) rfl rfl rfl (Nat.le_of_ble_eq_true rfl) (Nat.le_of_ble_eq_true rfl) (Nat.le_refl 411) (Nat.le_refl 411) zob_0 (cSR_refused (by decide) (by decide)) ?_
          rintro rr h' ⟨rfl, rfl⟩ -
          refine zb_iret bkSR_set_55 bdSR_set_55 rfl (x := (-1)) (h' := zN (hRfC sg (-1))) (Ps := []) rfl trivial rfl ?_
          exact Or.inl ⟨rfl, rfl, by grind⟩
    · skip
      refine zG_run bkSR_set_25 (lv' := [(4, .int 0), (0, .ref 0), (1, .int n), (2, .int w), (3, .int v)]) (st' := [.int 3, .int v]) (h' := zN sg) (Ps := []) rfl trivial ?_
      refine zG_calls (As := [.int v, .int 3]) (rest := []) (N2 := 411) bdSR_set_27 okSR_isWithin lk9_126 (And.intro (by decide) (by decide)) rfl rfl (Nat.le_of_ble_eq_true rfl) (Nat.le_of_ble_eq_true rfl) (Nat.le_refl 411) (Nat.le_refl 411) cSR_isWithin ?_
      rintro rr h' ⟨rfl, rfl⟩ -
      refine zb_ifeq (tgt := 37) bkSR_set_30 bdSR_set_30 (by decide) (lv' := [(4, .int 0), (0, .ref 0), (1, .int n), (2, .int w), (3, .int v)]) (st' := []) (h' := zN sg) (x := if 0 ≤ v ∧ v ≤ 3 then 1 else 0) (Ps := []) rfl trivial (fun c5 => ?_) (fun c5 => ?_)
      · skip
        refine zb_ifne (tgt := 56) bkSR_set_37 bdSR_set_42 (by decide) (lv' := [(5, .int 0), (4, .int 0), (0, .ref 0), (1, .int n), (2, .int w), (3, .int v)]) (st' := []) (h' := zN sg) (x := 0) (Ps := []) rfl trivial (fun c6 => ?_) (fun c6 => ?_)
        · exact absurd c6 (by decide)
        · skip
          refine zb_ifne (tgt := 56) bkSR_set_45 bdSR_set_47 (by decide) (lv' := [(5, .int 0), (4, .int 0), (0, .ref 0), (1, .int n), (2, .int w), (3, .int v)]) (st' := []) (h' := zN sg) (x := 0) (Ps := []) rfl trivial (fun c7 => ?_) (fun c7 => ?_)
          · exact absurd c7 (by decide)
          · skip
            refine zG_run bkSR_set_50 (lv' := [(5, .int 0), (4, .int 0), (0, .ref 0), (1, .int n), (2, .int w), (3, .int v)]) (st' := [.int (-1), .ref 0]) (h' := zN sg) (Ps := []) rfl trivial ?_
            refine zG_callv (a := 0) (c := 9) (As := [.int (-1)]) (rest := []) (N2 := 411) bdSR_set_52 okSR_refused lk9_93 (And.intro (by decide) (by decide)) (by decide) rfl rfl rfl (Nat.le_of_ble_eq_true rfl) (Nat.le_of_ble_eq_true rfl) (Nat.le_refl 411) (Nat.le_refl 411) zob_0 (cSR_refused (by decide) (by decide)) ?_
            rintro rr h' ⟨rfl, rfl⟩ -
            refine zb_iret bkSR_set_55 bdSR_set_55 rfl (x := (-1)) (h' := zN (hRfC sg (-1))) (Ps := []) rfl trivial rfl ?_
            exact Or.inl ⟨rfl, rfl, by grind⟩
      · skip
        refine zb_ifne (tgt := 56) bkSR_set_33 bdSR_set_42 (by decide) (lv' := [(5, .int 1), (4, .int 0), (0, .ref 0), (1, .int n), (2, .int w), (3, .int v)]) (st' := []) (h' := zN sg) (x := 0) (Ps := []) rfl trivial (fun c8 => ?_) (fun c8 => ?_)
        · exact absurd c8 (by decide)
        · skip
          refine zb_ifne (tgt := 56) bkSR_set_45 bdSR_set_47 (by decide) (lv' := [(5, .int 1), (4, .int 0), (0, .ref 0), (1, .int n), (2, .int w), (3, .int v)]) (st' := []) (h' := zN sg) (x := 1) (Ps := []) rfl trivial (fun c9 => ?_) (fun c9 => ?_)
          · skip
            have hc : (w = 0 ∧ 0 ≤ v ∧ v ≤ 9) ∨ (w = 1 ∧ 0 ≤ v ∧ v ≤ 3) := by grind
            refine zG_run bkSR_set_56 (lv' := [(5, .int 1), (4, .int 0), (0, .ref 0), (1, .int n), (2, .int w), (3, .int v)]) (st' := [.int n, .ref 1]) (h' := zN sg) (Ps := [zOb (zN sg) 0 9 ∧ (zN sg).2.2 0 0 = true]) rfl (zA ⟨zob_0, rfl⟩ trivial) ?_
            refine zG_callv (a := 1) (c := 5) (As := [.int n]) (rest := []) (N2 := 411) bdSR_set_61 okShe_hasSpan lk9_169 (And.intro (by decide) (by decide)) (by decide) rfl rfl rfl (Nat.le_of_ble_eq_true rfl) (Nat.le_of_ble_eq_true rfl) (Nat.le_refl 411) (Nat.le_refl 411) zob_1 (cShe_hasSpan (by lia)) ?_
            rintro rr h' ⟨rfl, rfl⟩ -
            refine zb_ifne (tgt := 74) bkSR_set_64 bdSR_set_64 (by decide) (lv' := [(5, .int 1), (4, .int 0), (0, .ref 0), (1, .int n), (2, .int w), (3, .int v)]) (st' := []) (h' := zN sg) (x := if (0 ≤ n ∧ n < sg 1 4) ∧ sg (zel 4 n) 0 ≠ 0 then 1 else 0) (Ps := []) rfl trivial (fun c10 => ?_) (fun c10 => ?_)
            · skip
              have hd : (0 ≤ n ∧ n < sg 1 4) ∧ sg (zel 4 n) 0 ≠ 0 := by grind
              refine zG_run bkSR_set_74 (lv' := [(5, .int 1), (4, .int 0), (0, .ref 0), (1, .int n), (2, .int w), (3, .int v)]) (st' := [.int 0, .int 0, .int 0, .int 5, .ref 0]) (h' := zN sg) (Ps := []) rfl trivial ?_
              refine zG_callv (a := 0) (c := 9) (As := [.int 5, .int 0, .int 0, .int 0]) (rest := []) (N2 := 411) bdSR_set_79 okSR_begin lk9_100 (And.intro (by decide) (by decide)) (by decide) rfl rfl rfl (Nat.le_of_ble_eq_true rfl) (Nat.le_of_ble_eq_true rfl) (Nat.le_refl 411) (Nat.le_refl 411) zob_0 (cSR_begin ob h0 h1 u0 u1) ?_
              rintro rr h' ⟨sg11, rfl, rfl, hb⟩ -
              have fb := hBeg_fr h0 h1 hb
              have x2 : sg11 1 2 = sg 1 2 := fb 1 2 (by decide) (by decide)
              have x4 : sg11 1 4 = sg 1 4 := fb 1 4 (by decide) (by decide)
              have x6 : sg11 1 6 = sg 1 6 := fb 1 6 (by decide) (by decide)
              have xt : sg11 34 1 = sg 34 1 := fb 34 1 (by decide) (by decide)
              refine zb_ifeq (tgt := 106) bkSR_set_82 bdSR_set_95 (by decide) (lv' := [(6, .ref (zel 4 n)), (5, .int 1), (4, .int 0), (0, .ref 0), (1, .int n), (2, .int w), (3, .int v)]) (st' := []) (h' := zN sg11) (x := 0) (Ps := [zOb (zN sg11) 0 9 ∧ (zN sg11).2.2 0 0 = true, zOb (zN sg11) 1 5 ∧ (zN sg11).2.2 1 3 = true, zInR (zN sg11) 4 n]) rfl (zA ⟨zob_0, rfl⟩ (zA ⟨zob_1, rfl⟩ (zA (zinR_4 (i := n) (by lia) (by lia)) trivial))) (fun c12 => ?_) (fun c12 => ?_)
              · skip
                refine zb_ifeq (tgt := 127) bkSR_set_106 bdSR_set_115 (by decide) (lv' := [(7, .int (sg11 (zel 4 n) 8)), (6, .ref (zel 4 n)), (5, .int 1), (4, .int 0), (0, .ref 0), (1, .int n), (2, .int w), (3, .int v)]) (st' := []) (h' := zN sg11) (x := 0) (Ps := [zOb (zN sg11) (zel 4 n) 6]) rfl (zA (zel_ob4 (i := n) (by lia) (by lia)) trivial) (fun c13 => ?_) (fun c13 => ?_)
                · skip
                  refine zG_run bkSR_set_127 (lv' := [(7, .int (sg11 (zel 4 n) 8)), (6, .ref (zel 4 n)), (5, .int 1), (4, .int 0), (0, .ref 0), (1, .int n), (2, .int w), (3, .int v)]) (st' := [.int (sg11 (zel 4 n) 8), .ref 0]) (h' := zN (zup sg11 (zel 4 n) 8 v)) (Ps := [zOb (zN sg11) (zel 4 n) 6]) rfl (zA (zel_ob4 (i := n) (by lia) (by lia)) trivial) ?_
                  refine zG_callv (a := 0) (c := 9) (As := [.int (sg11 (zel 4 n) 8)]) (rest := []) (N2 := 411) bdSR_set_136 okSR_granted lk9_111 (And.intro (by decide) (by decide)) (by decide) rfl rfl rfl (Nat.le_of_ble_eq_true rfl) (Nat.le_of_ble_eq_true rfl) (Nat.le_refl 411) (Nat.le_refl 411) zob_0 cSR_granted ?_
                  rintro rr h' ⟨rfl, rfl⟩ -
                  refine zb_iret bkSR_set_139 bdSR_set_139 rfl (x := sg11 (zel 4 n) 8) (h' := zN (hGrC (zup sg11 (zel 4 n) 8 v))) (Ps := []) rfl trivial rfl ?_
                  have hz := zel4_rng (i := n) (by lia) (by lia)
                  have hw : ¬ w = 0 := by lia
                  exact Or.inr (Or.inr (⟨hc, hd, sg11, hb, by rw [if_neg hw, fb _ _ (by omega) (by omega)], by rw [if_neg hw]⟩))
                · exact absurd c13 (by decide)
              · exact absurd c12 (by decide)
            · skip
              refine zG_run bkSR_set_67 (lv' := [(5, .int 1), (4, .int 0), (0, .ref 0), (1, .int n), (2, .int w), (3, .int v)]) (st' := [.int (-2), .ref 0]) (h' := zN sg) (Ps := []) rfl trivial ?_
              refine zG_callv (a := 0) (c := 9) (As := [.int (-2)]) (rest := []) (N2 := 411) bdSR_set_70 okSR_refused lk9_93 (And.intro (by decide) (by decide)) (by decide) rfl rfl rfl (Nat.le_of_ble_eq_true rfl) (Nat.le_of_ble_eq_true rfl) (Nat.le_refl 411) (Nat.le_refl 411) zob_0 (cSR_refused (by decide) (by decide)) ?_
              rintro rr h' ⟨rfl, rfl⟩ -
              refine zb_iret bkSR_set_73 bdSR_set_73 rfl (x := (-2)) (h' := zN (hRfC sg (-2))) (Ps := []) rfl trivial rfl ?_
              exact Or.inr (Or.inl ⟨rfl, rfl, by grind⟩)
          · exact absurd c9 (by decide)
  · skip
    refine zG_run bkSR_set_4 (lv' := [(0, .ref 0), (1, .int n), (2, .int w), (3, .int v)]) (st' := [.int 9, .int v]) (h' := zN sg) (Ps := []) rfl trivial ?_
    refine zG_calls (As := [.int v, .int 9]) (rest := []) (N2 := 411) bdSR_set_7 okSR_isWithin lk9_126 (And.intro (by decide) (by decide)) rfl rfl (Nat.le_of_ble_eq_true rfl) (Nat.le_of_ble_eq_true rfl) (Nat.le_refl 411) (Nat.le_refl 411) cSR_isWithin ?_
    rintro rr h' ⟨rfl, rfl⟩ -
    refine zb_ifeq (tgt := 17) bkSR_set_10 bdSR_set_10 (by decide) (lv' := [(0, .ref 0), (1, .int n), (2, .int w), (3, .int v)]) (st' := []) (h' := zN sg) (x := if 0 ≤ v ∧ v ≤ 9 then 1 else 0) (Ps := []) rfl trivial (fun c14 => ?_) (fun c14 => ?_)
    · skip
      refine zb_icne (tgt := 37) bkSR_set_17 bdSR_set_22 (by decide) (lv' := [(4, .int 0), (0, .ref 0), (1, .int n), (2, .int w), (3, .int v)]) (st' := []) (h' := zN sg) (x := w) (y := 1) (Ps := []) rfl trivial (fun c15 => ?_) (fun c15 => ?_)
      · skip
        refine zb_ifne (tgt := 56) bkSR_set_37 bdSR_set_42 (by decide) (lv' := [(5, .int 0), (4, .int 0), (0, .ref 0), (1, .int n), (2, .int w), (3, .int v)]) (st' := []) (h' := zN sg) (x := 0) (Ps := []) rfl trivial (fun c16 => ?_) (fun c16 => ?_)
        · exact absurd c16 (by decide)
        · skip
          refine zb_ifne (tgt := 56) bkSR_set_45 bdSR_set_47 (by decide) (lv' := [(5, .int 0), (4, .int 0), (0, .ref 0), (1, .int n), (2, .int w), (3, .int v)]) (st' := []) (h' := zN sg) (x := 0) (Ps := []) rfl trivial (fun c17 => ?_) (fun c17 => ?_)
          · exact absurd c17 (by decide)
          · skip
            refine zG_run bkSR_set_50 (lv' := [(5, .int 0), (4, .int 0), (0, .ref 0), (1, .int n), (2, .int w), (3, .int v)]) (st' := [.int (-1), .ref 0]) (h' := zN sg) (Ps := []) rfl trivial ?_
            refine zG_callv (a := 0) (c := 9) (As := [.int (-1)]) (rest := []) (N2 := 411) bdSR_set_52 okSR_refused lk9_93 (And.intro (by decide) (by decide)) (by decide) rfl rfl rfl (Nat.le_of_ble_eq_true rfl) (Nat.le_of_ble_eq_true rfl) (Nat.le_refl 411) (Nat.le_refl 411) zob_0 (cSR_refused (by decide) (by decide)) ?_
            rintro rr h' ⟨rfl, rfl⟩ -
            refine zb_iret bkSR_set_55 bdSR_set_55 rfl (x := (-1)) (h' := zN (hRfC sg (-1))) (Ps := []) rfl trivial rfl ?_
            exact Or.inl ⟨rfl, rfl, by grind⟩
      · skip
        refine zG_run bkSR_set_25 (lv' := [(4, .int 0), (0, .ref 0), (1, .int n), (2, .int w), (3, .int v)]) (st' := [.int 3, .int v]) (h' := zN sg) (Ps := []) rfl trivial ?_
        refine zG_calls (As := [.int v, .int 3]) (rest := []) (N2 := 411) bdSR_set_27 okSR_isWithin lk9_126 (And.intro (by decide) (by decide)) rfl rfl (Nat.le_of_ble_eq_true rfl) (Nat.le_of_ble_eq_true rfl) (Nat.le_refl 411) (Nat.le_refl 411) cSR_isWithin ?_
        rintro rr h' ⟨rfl, rfl⟩ -
        refine zb_ifeq (tgt := 37) bkSR_set_30 bdSR_set_30 (by decide) (lv' := [(4, .int 0), (0, .ref 0), (1, .int n), (2, .int w), (3, .int v)]) (st' := []) (h' := zN sg) (x := if 0 ≤ v ∧ v ≤ 3 then 1 else 0) (Ps := []) rfl trivial (fun c18 => ?_) (fun c18 => ?_)
        · skip
          refine zb_ifne (tgt := 56) bkSR_set_37 bdSR_set_42 (by decide) (lv' := [(5, .int 0), (4, .int 0), (0, .ref 0), (1, .int n), (2, .int w), (3, .int v)]) (st' := []) (h' := zN sg) (x := 0) (Ps := []) rfl trivial (fun c19 => ?_) (fun c19 => ?_)
          · exact absurd c19 (by decide)
          · skip
            refine zb_ifne (tgt := 56) bkSR_set_45 bdSR_set_47 (by decide) (lv' := [(5, .int 0), (4, .int 0), (0, .ref 0), (1, .int n), (2, .int w), (3, .int v)]) (st' := []) (h' := zN sg) (x := 0) (Ps := []) rfl trivial (fun c20 => ?_) (fun c20 => ?_)
            · exact absurd c20 (by decide)
            · skip
              refine zG_run bkSR_set_50 (lv' := [(5, .int 0), (4, .int 0), (0, .ref 0), (1, .int n), (2, .int w), (3, .int v)]) (st' := [.int (-1), .ref 0]) (h' := zN sg) (Ps := []) rfl trivial ?_
              refine zG_callv (a := 0) (c := 9) (As := [.int (-1)]) (rest := []) (N2 := 411) bdSR_set_52 okSR_refused lk9_93 (And.intro (by decide) (by decide)) (by decide) rfl rfl rfl (Nat.le_of_ble_eq_true rfl) (Nat.le_of_ble_eq_true rfl) (Nat.le_refl 411) (Nat.le_refl 411) zob_0 (cSR_refused (by decide) (by decide)) ?_
              rintro rr h' ⟨rfl, rfl⟩ -
              refine zb_iret bkSR_set_55 bdSR_set_55 rfl (x := (-1)) (h' := zN (hRfC sg (-1))) (Ps := []) rfl trivial rfl ?_
              exact Or.inl ⟨rfl, rfl, by grind⟩
        · skip
          refine zb_ifne (tgt := 56) bkSR_set_33 bdSR_set_42 (by decide) (lv' := [(5, .int 1), (4, .int 0), (0, .ref 0), (1, .int n), (2, .int w), (3, .int v)]) (st' := []) (h' := zN sg) (x := 0) (Ps := []) rfl trivial (fun c21 => ?_) (fun c21 => ?_)
          · exact absurd c21 (by decide)
          · skip
            refine zb_ifne (tgt := 56) bkSR_set_45 bdSR_set_47 (by decide) (lv' := [(5, .int 1), (4, .int 0), (0, .ref 0), (1, .int n), (2, .int w), (3, .int v)]) (st' := []) (h' := zN sg) (x := 1) (Ps := []) rfl trivial (fun c22 => ?_) (fun c22 => ?_)
            · skip
              have hc : (w = 0 ∧ 0 ≤ v ∧ v ≤ 9) ∨ (w = 1 ∧ 0 ≤ v ∧ v ≤ 3) := by grind
              refine zG_run bkSR_set_56 (lv' := [(5, .int 1), (4, .int 0), (0, .ref 0), (1, .int n), (2, .int w), (3, .int v)]) (st' := [.int n, .ref 1]) (h' := zN sg) (Ps := [zOb (zN sg) 0 9 ∧ (zN sg).2.2 0 0 = true]) rfl (zA ⟨zob_0, rfl⟩ trivial) ?_
              refine zG_callv (a := 1) (c := 5) (As := [.int n]) (rest := []) (N2 := 411) bdSR_set_61 okShe_hasSpan lk9_169 (And.intro (by decide) (by decide)) (by decide) rfl rfl rfl (Nat.le_of_ble_eq_true rfl) (Nat.le_of_ble_eq_true rfl) (Nat.le_refl 411) (Nat.le_refl 411) zob_1 (cShe_hasSpan (by lia)) ?_
              rintro rr h' ⟨rfl, rfl⟩ -
              refine zb_ifne (tgt := 74) bkSR_set_64 bdSR_set_64 (by decide) (lv' := [(5, .int 1), (4, .int 0), (0, .ref 0), (1, .int n), (2, .int w), (3, .int v)]) (st' := []) (h' := zN sg) (x := if (0 ≤ n ∧ n < sg 1 4) ∧ sg (zel 4 n) 0 ≠ 0 then 1 else 0) (Ps := []) rfl trivial (fun c23 => ?_) (fun c23 => ?_)
              · skip
                have hd : (0 ≤ n ∧ n < sg 1 4) ∧ sg (zel 4 n) 0 ≠ 0 := by grind
                refine zG_run bkSR_set_74 (lv' := [(5, .int 1), (4, .int 0), (0, .ref 0), (1, .int n), (2, .int w), (3, .int v)]) (st' := [.int 0, .int 0, .int 0, .int 5, .ref 0]) (h' := zN sg) (Ps := []) rfl trivial ?_
                refine zG_callv (a := 0) (c := 9) (As := [.int 5, .int 0, .int 0, .int 0]) (rest := []) (N2 := 411) bdSR_set_79 okSR_begin lk9_100 (And.intro (by decide) (by decide)) (by decide) rfl rfl rfl (Nat.le_of_ble_eq_true rfl) (Nat.le_of_ble_eq_true rfl) (Nat.le_refl 411) (Nat.le_refl 411) zob_0 (cSR_begin ob h0 h1 u0 u1) ?_
                rintro rr h' ⟨sg24, rfl, rfl, hb⟩ -
                have fb := hBeg_fr h0 h1 hb
                have x2 : sg24 1 2 = sg 1 2 := fb 1 2 (by decide) (by decide)
                have x4 : sg24 1 4 = sg 1 4 := fb 1 4 (by decide) (by decide)
                have x6 : sg24 1 6 = sg 1 6 := fb 1 6 (by decide) (by decide)
                have xt : sg24 34 1 = sg 34 1 := fb 34 1 (by decide) (by decide)
                refine zb_ifeq (tgt := 106) bkSR_set_82 bdSR_set_95 (by decide) (lv' := [(6, .ref (zel 4 n)), (5, .int 1), (4, .int 0), (0, .ref 0), (1, .int n), (2, .int w), (3, .int v)]) (st' := []) (h' := zN sg24) (x := 0) (Ps := [zOb (zN sg24) 0 9 ∧ (zN sg24).2.2 0 0 = true, zOb (zN sg24) 1 5 ∧ (zN sg24).2.2 1 3 = true, zInR (zN sg24) 4 n]) rfl (zA ⟨zob_0, rfl⟩ (zA ⟨zob_1, rfl⟩ (zA (zinR_4 (i := n) (by lia) (by lia)) trivial))) (fun c25 => ?_) (fun c25 => ?_)
                · skip
                  refine zb_ifeq (tgt := 127) bkSR_set_106 bdSR_set_115 (by decide) (lv' := [(7, .int (sg24 (zel 4 n) 8)), (6, .ref (zel 4 n)), (5, .int 1), (4, .int 0), (0, .ref 0), (1, .int n), (2, .int w), (3, .int v)]) (st' := []) (h' := zN sg24) (x := 0) (Ps := [zOb (zN sg24) (zel 4 n) 6]) rfl (zA (zel_ob4 (i := n) (by lia) (by lia)) trivial) (fun c26 => ?_) (fun c26 => ?_)
                  · skip
                    refine zG_run bkSR_set_127 (lv' := [(7, .int (sg24 (zel 4 n) 8)), (6, .ref (zel 4 n)), (5, .int 1), (4, .int 0), (0, .ref 0), (1, .int n), (2, .int w), (3, .int v)]) (st' := [.int (sg24 (zel 4 n) 8), .ref 0]) (h' := zN (zup sg24 (zel 4 n) 8 v)) (Ps := [zOb (zN sg24) (zel 4 n) 6]) rfl (zA (zel_ob4 (i := n) (by lia) (by lia)) trivial) ?_
                    refine zG_callv (a := 0) (c := 9) (As := [.int (sg24 (zel 4 n) 8)]) (rest := []) (N2 := 411) bdSR_set_136 okSR_granted lk9_111 (And.intro (by decide) (by decide)) (by decide) rfl rfl rfl (Nat.le_of_ble_eq_true rfl) (Nat.le_of_ble_eq_true rfl) (Nat.le_refl 411) (Nat.le_refl 411) zob_0 cSR_granted ?_
                    rintro rr h' ⟨rfl, rfl⟩ -
                    refine zb_iret bkSR_set_139 bdSR_set_139 rfl (x := sg24 (zel 4 n) 8) (h' := zN (hGrC (zup sg24 (zel 4 n) 8 v))) (Ps := []) rfl trivial rfl ?_
                    have hz := zel4_rng (i := n) (by lia) (by lia)
                    have hw : ¬ w = 0 := by lia
                    exact Or.inr (Or.inr (⟨hc, hd, sg24, hb, by rw [if_neg hw, fb _ _ (by omega) (by omega)], by rw [if_neg hw]⟩))
                  · exact absurd c26 (by decide)
                · exact absurd c25 (by decide)
              · skip
                refine zG_run bkSR_set_67 (lv' := [(5, .int 1), (4, .int 0), (0, .ref 0), (1, .int n), (2, .int w), (3, .int v)]) (st' := [.int (-2), .ref 0]) (h' := zN sg) (Ps := []) rfl trivial ?_
                refine zG_callv (a := 0) (c := 9) (As := [.int (-2)]) (rest := []) (N2 := 411) bdSR_set_70 okSR_refused lk9_93 (And.intro (by decide) (by decide)) (by decide) rfl rfl rfl (Nat.le_of_ble_eq_true rfl) (Nat.le_of_ble_eq_true rfl) (Nat.le_refl 411) (Nat.le_refl 411) zob_0 (cSR_refused (by decide) (by decide)) ?_
                rintro rr h' ⟨rfl, rfl⟩ -
                refine zb_iret bkSR_set_73 bdSR_set_73 rfl (x := (-2)) (h' := zN (hRfC sg (-2))) (Ps := []) rfl trivial rfl ?_
                exact Or.inr (Or.inl ⟨rfl, rfl, by grind⟩)
            · exact absurd c22 (by decide)
    · skip
      refine zb_icne (tgt := 37) bkSR_set_13 bdSR_set_22 (by decide) (lv' := [(4, .int 1), (0, .ref 0), (1, .int n), (2, .int w), (3, .int v)]) (st' := []) (h' := zN sg) (x := w) (y := 1) (Ps := []) rfl trivial (fun c27 => ?_) (fun c27 => ?_)
      · skip
        refine zb_ifne (tgt := 56) bkSR_set_37 bdSR_set_42 (by decide) (lv' := [(5, .int 0), (4, .int 1), (0, .ref 0), (1, .int n), (2, .int w), (3, .int v)]) (st' := []) (h' := zN sg) (x := 1) (Ps := []) rfl trivial (fun c28 => ?_) (fun c28 => ?_)
        · skip
          have hc : (w = 0 ∧ 0 ≤ v ∧ v ≤ 9) ∨ (w = 1 ∧ 0 ≤ v ∧ v ≤ 3) := by grind
          refine zG_run bkSR_set_56 (lv' := [(5, .int 0), (4, .int 1), (0, .ref 0), (1, .int n), (2, .int w), (3, .int v)]) (st' := [.int n, .ref 1]) (h' := zN sg) (Ps := [zOb (zN sg) 0 9 ∧ (zN sg).2.2 0 0 = true]) rfl (zA ⟨zob_0, rfl⟩ trivial) ?_
          refine zG_callv (a := 1) (c := 5) (As := [.int n]) (rest := []) (N2 := 411) bdSR_set_61 okShe_hasSpan lk9_169 (And.intro (by decide) (by decide)) (by decide) rfl rfl rfl (Nat.le_of_ble_eq_true rfl) (Nat.le_of_ble_eq_true rfl) (Nat.le_refl 411) (Nat.le_refl 411) zob_1 (cShe_hasSpan (by lia)) ?_
          rintro rr h' ⟨rfl, rfl⟩ -
          refine zb_ifne (tgt := 74) bkSR_set_64 bdSR_set_64 (by decide) (lv' := [(5, .int 0), (4, .int 1), (0, .ref 0), (1, .int n), (2, .int w), (3, .int v)]) (st' := []) (h' := zN sg) (x := if (0 ≤ n ∧ n < sg 1 4) ∧ sg (zel 4 n) 0 ≠ 0 then 1 else 0) (Ps := []) rfl trivial (fun c29 => ?_) (fun c29 => ?_)
          · skip
            have hd : (0 ≤ n ∧ n < sg 1 4) ∧ sg (zel 4 n) 0 ≠ 0 := by grind
            refine zG_run bkSR_set_74 (lv' := [(5, .int 0), (4, .int 1), (0, .ref 0), (1, .int n), (2, .int w), (3, .int v)]) (st' := [.int 0, .int 0, .int 0, .int 5, .ref 0]) (h' := zN sg) (Ps := []) rfl trivial ?_
            refine zG_callv (a := 0) (c := 9) (As := [.int 5, .int 0, .int 0, .int 0]) (rest := []) (N2 := 411) bdSR_set_79 okSR_begin lk9_100 (And.intro (by decide) (by decide)) (by decide) rfl rfl rfl (Nat.le_of_ble_eq_true rfl) (Nat.le_of_ble_eq_true rfl) (Nat.le_refl 411) (Nat.le_refl 411) zob_0 (cSR_begin ob h0 h1 u0 u1) ?_
            rintro rr h' ⟨sg30, rfl, rfl, hb⟩ -
            have fb := hBeg_fr h0 h1 hb
            have x2 : sg30 1 2 = sg 1 2 := fb 1 2 (by decide) (by decide)
            have x4 : sg30 1 4 = sg 1 4 := fb 1 4 (by decide) (by decide)
            have x6 : sg30 1 6 = sg 1 6 := fb 1 6 (by decide) (by decide)
            have xt : sg30 34 1 = sg 34 1 := fb 34 1 (by decide) (by decide)
            refine zb_ifeq (tgt := 106) bkSR_set_82 bdSR_set_95 (by decide) (lv' := [(6, .ref (zel 4 n)), (5, .int 0), (4, .int 1), (0, .ref 0), (1, .int n), (2, .int w), (3, .int v)]) (st' := []) (h' := zN sg30) (x := 1) (Ps := [zOb (zN sg30) 0 9 ∧ (zN sg30).2.2 0 0 = true, zOb (zN sg30) 1 5 ∧ (zN sg30).2.2 1 3 = true, zInR (zN sg30) 4 n]) rfl (zA ⟨zob_0, rfl⟩ (zA ⟨zob_1, rfl⟩ (zA (zinR_4 (i := n) (by lia) (by lia)) trivial))) (fun c31 => ?_) (fun c31 => ?_)
            · exact absurd c31 (by decide)
            · skip
              refine zb_ifeq (tgt := 127) bkSR_set_98 bdSR_set_115 (by decide) (lv' := [(7, .int (sg30 (zel 4 n) 3)), (6, .ref (zel 4 n)), (5, .int 0), (4, .int 1), (0, .ref 0), (1, .int n), (2, .int w), (3, .int v)]) (st' := []) (h' := zN sg30) (x := 1) (Ps := [zOb (zN sg30) (zel 4 n) 6]) rfl (zA (zel_ob4 (i := n) (by lia) (by lia)) trivial) (fun c32 => ?_) (fun c32 => ?_)
              · exact absurd c32 (by decide)
              · skip
                refine zG_run bkSR_set_118 (lv' := [(7, .int (sg30 (zel 4 n) 3)), (6, .ref (zel 4 n)), (5, .int 0), (4, .int 1), (0, .ref 0), (1, .int n), (2, .int w), (3, .int v)]) (st' := [.int (sg30 (zel 4 n) 3), .ref 0]) (h' := zN (zup sg30 (zel 4 n) 3 v)) (Ps := [zOb (zN sg30) (zel 4 n) 6]) rfl (zA (zel_ob4 (i := n) (by lia) (by lia)) trivial) ?_
                refine zG_callv (a := 0) (c := 9) (As := [.int (sg30 (zel 4 n) 3)]) (rest := []) (N2 := 411) bdSR_set_136 okSR_granted lk9_111 (And.intro (by decide) (by decide)) (by decide) rfl rfl rfl (Nat.le_of_ble_eq_true rfl) (Nat.le_of_ble_eq_true rfl) (Nat.le_refl 411) (Nat.le_refl 411) zob_0 cSR_granted ?_
                rintro rr h' ⟨rfl, rfl⟩ -
                refine zb_iret bkSR_set_139 bdSR_set_139 rfl (x := sg30 (zel 4 n) 3) (h' := zN (hGrC (zup sg30 (zel 4 n) 3 v))) (Ps := []) rfl trivial rfl ?_
                have hz := zel4_rng (i := n) (by lia) (by lia)
                have hw : w = 0 := by lia
                exact Or.inr (Or.inr (⟨hc, hd, sg30, hb, by rw [if_pos hw, fb _ _ (by omega) (by omega)], by rw [if_pos hw]⟩))
          · skip
            refine zG_run bkSR_set_67 (lv' := [(5, .int 0), (4, .int 1), (0, .ref 0), (1, .int n), (2, .int w), (3, .int v)]) (st' := [.int (-2), .ref 0]) (h' := zN sg) (Ps := []) rfl trivial ?_
            refine zG_callv (a := 0) (c := 9) (As := [.int (-2)]) (rest := []) (N2 := 411) bdSR_set_70 okSR_refused lk9_93 (And.intro (by decide) (by decide)) (by decide) rfl rfl rfl (Nat.le_of_ble_eq_true rfl) (Nat.le_of_ble_eq_true rfl) (Nat.le_refl 411) (Nat.le_refl 411) zob_0 (cSR_refused (by decide) (by decide)) ?_
            rintro rr h' ⟨rfl, rfl⟩ -
            refine zb_iret bkSR_set_73 bdSR_set_73 rfl (x := (-2)) (h' := zN (hRfC sg (-2))) (Ps := []) rfl trivial rfl ?_
            exact Or.inr (Or.inl ⟨rfl, rfl, by grind⟩)
        · exact absurd c28 (by decide)
      · skip
        refine zG_run bkSR_set_25 (lv' := [(4, .int 1), (0, .ref 0), (1, .int n), (2, .int w), (3, .int v)]) (st' := [.int 3, .int v]) (h' := zN sg) (Ps := []) rfl trivial ?_
        refine zG_calls (As := [.int v, .int 3]) (rest := []) (N2 := 411) bdSR_set_27 okSR_isWithin lk9_126 (And.intro (by decide) (by decide)) rfl rfl (Nat.le_of_ble_eq_true rfl) (Nat.le_of_ble_eq_true rfl) (Nat.le_refl 411) (Nat.le_refl 411) cSR_isWithin ?_
        rintro rr h' ⟨rfl, rfl⟩ -
        refine zb_ifeq (tgt := 37) bkSR_set_30 bdSR_set_30 (by decide) (lv' := [(4, .int 1), (0, .ref 0), (1, .int n), (2, .int w), (3, .int v)]) (st' := []) (h' := zN sg) (x := if 0 ≤ v ∧ v ≤ 3 then 1 else 0) (Ps := []) rfl trivial (fun c33 => ?_) (fun c33 => ?_)
        · skip
          refine zb_ifne (tgt := 56) bkSR_set_37 bdSR_set_42 (by decide) (lv' := [(5, .int 0), (4, .int 1), (0, .ref 0), (1, .int n), (2, .int w), (3, .int v)]) (st' := []) (h' := zN sg) (x := 1) (Ps := []) rfl trivial (fun c34 => ?_) (fun c34 => ?_)
          · skip
            have hc : (w = 0 ∧ 0 ≤ v ∧ v ≤ 9) ∨ (w = 1 ∧ 0 ≤ v ∧ v ≤ 3) := by grind
            refine zG_run bkSR_set_56 (lv' := [(5, .int 0), (4, .int 1), (0, .ref 0), (1, .int n), (2, .int w), (3, .int v)]) (st' := [.int n, .ref 1]) (h' := zN sg) (Ps := [zOb (zN sg) 0 9 ∧ (zN sg).2.2 0 0 = true]) rfl (zA ⟨zob_0, rfl⟩ trivial) ?_
            refine zG_callv (a := 1) (c := 5) (As := [.int n]) (rest := []) (N2 := 411) bdSR_set_61 okShe_hasSpan lk9_169 (And.intro (by decide) (by decide)) (by decide) rfl rfl rfl (Nat.le_of_ble_eq_true rfl) (Nat.le_of_ble_eq_true rfl) (Nat.le_refl 411) (Nat.le_refl 411) zob_1 (cShe_hasSpan (by lia)) ?_
            rintro rr h' ⟨rfl, rfl⟩ -
            refine zb_ifne (tgt := 74) bkSR_set_64 bdSR_set_64 (by decide) (lv' := [(5, .int 0), (4, .int 1), (0, .ref 0), (1, .int n), (2, .int w), (3, .int v)]) (st' := []) (h' := zN sg) (x := if (0 ≤ n ∧ n < sg 1 4) ∧ sg (zel 4 n) 0 ≠ 0 then 1 else 0) (Ps := []) rfl trivial (fun c35 => ?_) (fun c35 => ?_)
            · skip
              have hd : (0 ≤ n ∧ n < sg 1 4) ∧ sg (zel 4 n) 0 ≠ 0 := by grind
              refine zG_run bkSR_set_74 (lv' := [(5, .int 0), (4, .int 1), (0, .ref 0), (1, .int n), (2, .int w), (3, .int v)]) (st' := [.int 0, .int 0, .int 0, .int 5, .ref 0]) (h' := zN sg) (Ps := []) rfl trivial ?_
              refine zG_callv (a := 0) (c := 9) (As := [.int 5, .int 0, .int 0, .int 0]) (rest := []) (N2 := 411) bdSR_set_79 okSR_begin lk9_100 (And.intro (by decide) (by decide)) (by decide) rfl rfl rfl (Nat.le_of_ble_eq_true rfl) (Nat.le_of_ble_eq_true rfl) (Nat.le_refl 411) (Nat.le_refl 411) zob_0 (cSR_begin ob h0 h1 u0 u1) ?_
              rintro rr h' ⟨sg36, rfl, rfl, hb⟩ -
              have fb := hBeg_fr h0 h1 hb
              have x2 : sg36 1 2 = sg 1 2 := fb 1 2 (by decide) (by decide)
              have x4 : sg36 1 4 = sg 1 4 := fb 1 4 (by decide) (by decide)
              have x6 : sg36 1 6 = sg 1 6 := fb 1 6 (by decide) (by decide)
              have xt : sg36 34 1 = sg 34 1 := fb 34 1 (by decide) (by decide)
              refine zb_ifeq (tgt := 106) bkSR_set_82 bdSR_set_95 (by decide) (lv' := [(6, .ref (zel 4 n)), (5, .int 0), (4, .int 1), (0, .ref 0), (1, .int n), (2, .int w), (3, .int v)]) (st' := []) (h' := zN sg36) (x := 1) (Ps := [zOb (zN sg36) 0 9 ∧ (zN sg36).2.2 0 0 = true, zOb (zN sg36) 1 5 ∧ (zN sg36).2.2 1 3 = true, zInR (zN sg36) 4 n]) rfl (zA ⟨zob_0, rfl⟩ (zA ⟨zob_1, rfl⟩ (zA (zinR_4 (i := n) (by lia) (by lia)) trivial))) (fun c37 => ?_) (fun c37 => ?_)
              · exact absurd c37 (by decide)
              · skip
                refine zb_ifeq (tgt := 127) bkSR_set_98 bdSR_set_115 (by decide) (lv' := [(7, .int (sg36 (zel 4 n) 3)), (6, .ref (zel 4 n)), (5, .int 0), (4, .int 1), (0, .ref 0), (1, .int n), (2, .int w), (3, .int v)]) (st' := []) (h' := zN sg36) (x := 1) (Ps := [zOb (zN sg36) (zel 4 n) 6]) rfl (zA (zel_ob4 (i := n) (by lia) (by lia)) trivial) (fun c38 => ?_) (fun c38 => ?_)
                · exact absurd c38 (by decide)
                · skip
                  refine zG_run bkSR_set_118 (lv' := [(7, .int (sg36 (zel 4 n) 3)), (6, .ref (zel 4 n)), (5, .int 0), (4, .int 1), (0, .ref 0), (1, .int n), (2, .int w), (3, .int v)]) (st' := [.int (sg36 (zel 4 n) 3), .ref 0]) (h' := zN (zup sg36 (zel 4 n) 3 v)) (Ps := [zOb (zN sg36) (zel 4 n) 6]) rfl (zA (zel_ob4 (i := n) (by lia) (by lia)) trivial) ?_
                  refine zG_callv (a := 0) (c := 9) (As := [.int (sg36 (zel 4 n) 3)]) (rest := []) (N2 := 411) bdSR_set_136 okSR_granted lk9_111 (And.intro (by decide) (by decide)) (by decide) rfl rfl rfl (Nat.le_of_ble_eq_true rfl) (Nat.le_of_ble_eq_true rfl) (Nat.le_refl 411) (Nat.le_refl 411) zob_0 cSR_granted ?_
                  rintro rr h' ⟨rfl, rfl⟩ -
                  refine zb_iret bkSR_set_139 bdSR_set_139 rfl (x := sg36 (zel 4 n) 3) (h' := zN (hGrC (zup sg36 (zel 4 n) 3 v))) (Ps := []) rfl trivial rfl ?_
                  have hz := zel4_rng (i := n) (by lia) (by lia)
                  have hw : w = 0 := by lia
                  exact Or.inr (Or.inr (⟨hc, hd, sg36, hb, by rw [if_pos hw, fb _ _ (by omega) (by omega)], by rw [if_pos hw]⟩))
            · skip
              refine zG_run bkSR_set_67 (lv' := [(5, .int 0), (4, .int 1), (0, .ref 0), (1, .int n), (2, .int w), (3, .int v)]) (st' := [.int (-2), .ref 0]) (h' := zN sg) (Ps := []) rfl trivial ?_
              refine zG_callv (a := 0) (c := 9) (As := [.int (-2)]) (rest := []) (N2 := 411) bdSR_set_70 okSR_refused lk9_93 (And.intro (by decide) (by decide)) (by decide) rfl rfl rfl (Nat.le_of_ble_eq_true rfl) (Nat.le_of_ble_eq_true rfl) (Nat.le_refl 411) (Nat.le_refl 411) zob_0 (cSR_refused (by decide) (by decide)) ?_
              rintro rr h' ⟨rfl, rfl⟩ -
              refine zb_iret bkSR_set_73 bdSR_set_73 rfl (x := (-2)) (h' := zN (hRfC sg (-2))) (Ps := []) rfl trivial rfl ?_
              exact Or.inr (Or.inl ⟨rfl, rfl, by grind⟩)
          · exact absurd c34 (by decide)
        · skip
          refine zb_ifne (tgt := 56) bkSR_set_33 bdSR_set_42 (by decide) (lv' := [(5, .int 1), (4, .int 1), (0, .ref 0), (1, .int n), (2, .int w), (3, .int v)]) (st' := []) (h' := zN sg) (x := 1) (Ps := []) rfl trivial (fun c39 => ?_) (fun c39 => ?_)
          · skip
            have hc : (w = 0 ∧ 0 ≤ v ∧ v ≤ 9) ∨ (w = 1 ∧ 0 ≤ v ∧ v ≤ 3) := by grind
            refine zG_run bkSR_set_56 (lv' := [(5, .int 1), (4, .int 1), (0, .ref 0), (1, .int n), (2, .int w), (3, .int v)]) (st' := [.int n, .ref 1]) (h' := zN sg) (Ps := [zOb (zN sg) 0 9 ∧ (zN sg).2.2 0 0 = true]) rfl (zA ⟨zob_0, rfl⟩ trivial) ?_
            refine zG_callv (a := 1) (c := 5) (As := [.int n]) (rest := []) (N2 := 411) bdSR_set_61 okShe_hasSpan lk9_169 (And.intro (by decide) (by decide)) (by decide) rfl rfl rfl (Nat.le_of_ble_eq_true rfl) (Nat.le_of_ble_eq_true rfl) (Nat.le_refl 411) (Nat.le_refl 411) zob_1 (cShe_hasSpan (by lia)) ?_
            rintro rr h' ⟨rfl, rfl⟩ -
            refine zb_ifne (tgt := 74) bkSR_set_64 bdSR_set_64 (by decide) (lv' := [(5, .int 1), (4, .int 1), (0, .ref 0), (1, .int n), (2, .int w), (3, .int v)]) (st' := []) (h' := zN sg) (x := if (0 ≤ n ∧ n < sg 1 4) ∧ sg (zel 4 n) 0 ≠ 0 then 1 else 0) (Ps := []) rfl trivial (fun c40 => ?_) (fun c40 => ?_)
            · skip
              have hd : (0 ≤ n ∧ n < sg 1 4) ∧ sg (zel 4 n) 0 ≠ 0 := by grind
              refine zG_run bkSR_set_74 (lv' := [(5, .int 1), (4, .int 1), (0, .ref 0), (1, .int n), (2, .int w), (3, .int v)]) (st' := [.int 0, .int 0, .int 0, .int 5, .ref 0]) (h' := zN sg) (Ps := []) rfl trivial ?_
              refine zG_callv (a := 0) (c := 9) (As := [.int 5, .int 0, .int 0, .int 0]) (rest := []) (N2 := 411) bdSR_set_79 okSR_begin lk9_100 (And.intro (by decide) (by decide)) (by decide) rfl rfl rfl (Nat.le_of_ble_eq_true rfl) (Nat.le_of_ble_eq_true rfl) (Nat.le_refl 411) (Nat.le_refl 411) zob_0 (cSR_begin ob h0 h1 u0 u1) ?_
              rintro rr h' ⟨sg41, rfl, rfl, hb⟩ -
              have fb := hBeg_fr h0 h1 hb
              have x2 : sg41 1 2 = sg 1 2 := fb 1 2 (by decide) (by decide)
              have x4 : sg41 1 4 = sg 1 4 := fb 1 4 (by decide) (by decide)
              have x6 : sg41 1 6 = sg 1 6 := fb 1 6 (by decide) (by decide)
              have xt : sg41 34 1 = sg 34 1 := fb 34 1 (by decide) (by decide)
              refine zb_ifeq (tgt := 106) bkSR_set_82 bdSR_set_95 (by decide) (lv' := [(6, .ref (zel 4 n)), (5, .int 1), (4, .int 1), (0, .ref 0), (1, .int n), (2, .int w), (3, .int v)]) (st' := []) (h' := zN sg41) (x := 1) (Ps := [zOb (zN sg41) 0 9 ∧ (zN sg41).2.2 0 0 = true, zOb (zN sg41) 1 5 ∧ (zN sg41).2.2 1 3 = true, zInR (zN sg41) 4 n]) rfl (zA ⟨zob_0, rfl⟩ (zA ⟨zob_1, rfl⟩ (zA (zinR_4 (i := n) (by lia) (by lia)) trivial))) (fun c42 => ?_) (fun c42 => ?_)
              · exact absurd c42 (by decide)
              · skip
                refine zb_ifeq (tgt := 127) bkSR_set_98 bdSR_set_115 (by decide) (lv' := [(7, .int (sg41 (zel 4 n) 3)), (6, .ref (zel 4 n)), (5, .int 1), (4, .int 1), (0, .ref 0), (1, .int n), (2, .int w), (3, .int v)]) (st' := []) (h' := zN sg41) (x := 1) (Ps := [zOb (zN sg41) (zel 4 n) 6]) rfl (zA (zel_ob4 (i := n) (by lia) (by lia)) trivial) (fun c43 => ?_) (fun c43 => ?_)
                · exact absurd c43 (by decide)
                · skip
                  refine zG_run bkSR_set_118 (lv' := [(7, .int (sg41 (zel 4 n) 3)), (6, .ref (zel 4 n)), (5, .int 1), (4, .int 1), (0, .ref 0), (1, .int n), (2, .int w), (3, .int v)]) (st' := [.int (sg41 (zel 4 n) 3), .ref 0]) (h' := zN (zup sg41 (zel 4 n) 3 v)) (Ps := [zOb (zN sg41) (zel 4 n) 6]) rfl (zA (zel_ob4 (i := n) (by lia) (by lia)) trivial) ?_
                  refine zG_callv (a := 0) (c := 9) (As := [.int (sg41 (zel 4 n) 3)]) (rest := []) (N2 := 411) bdSR_set_136 okSR_granted lk9_111 (And.intro (by decide) (by decide)) (by decide) rfl rfl rfl (Nat.le_of_ble_eq_true rfl) (Nat.le_of_ble_eq_true rfl) (Nat.le_refl 411) (Nat.le_refl 411) zob_0 cSR_granted ?_
                  rintro rr h' ⟨rfl, rfl⟩ -
                  refine zb_iret bkSR_set_139 bdSR_set_139 rfl (x := sg41 (zel 4 n) 3) (h' := zN (hGrC (zup sg41 (zel 4 n) 3 v))) (Ps := []) rfl trivial rfl ?_
                  have hz := zel4_rng (i := n) (by lia) (by lia)
                  have hw : w = 0 := by lia
                  exact Or.inr (Or.inr (⟨hc, hd, sg41, hb, by rw [if_pos hw, fb _ _ (by omega) (by omega)], by rw [if_pos hw]⟩))
            · skip
              refine zG_run bkSR_set_67 (lv' := [(5, .int 1), (4, .int 1), (0, .ref 0), (1, .int n), (2, .int w), (3, .int v)]) (st' := [.int (-2), .ref 0]) (h' := zN sg) (Ps := []) rfl trivial ?_
              refine zG_callv (a := 0) (c := 9) (As := [.int (-2)]) (rest := []) (N2 := 411) bdSR_set_70 okSR_refused lk9_93 (And.intro (by decide) (by decide)) (by decide) rfl rfl rfl (Nat.le_of_ble_eq_true rfl) (Nat.le_of_ble_eq_true rfl) (Nat.le_refl 411) (Nat.le_refl 411) zob_0 (cSR_refused (by decide) (by decide)) ?_
              rintro rr h' ⟨rfl, rfl⟩ -
              refine zb_iret bkSR_set_73 bdSR_set_73 rfl (x := (-2)) (h' := zN (hRfC sg (-2))) (Ps := []) rfl trivial rfl ?_
              exact Or.inr (Or.inl ⟨rfl, rfl, by grind⟩)
          · exact absurd c39 (by decide)
theorem bkSR_image_0 : zBk mSR_image 0 [(1, 1, 0, 0, 0), (0, 0, 0, 0, 1)] = some 2 := by decide +kernel
theorem bkSR_image_5 : zBk mSR_image 5 [] = some 5 := by decide +kernel
theorem bkSR_image_14 : zBk mSR_image 14 [(1, 0, 1, 0, 0), (5, 9, 3, 311, 3), (1, 1, 0, 0, 0), (9, 0, 0, 0, 0), (1, 0, 1, 0, 0), (5, 9, 0, 1, 0)] = some 24 := by decide +kernel
theorem bkSR_image_27 : zBk mSR_image 27 [(1, 0, 1, 0, 0), (5, 9, 4, 312, 4), (1, 1, 0, 0, 0), (0, 0, 0, 0, 1), (8, 2, 0, 0, 0), (1, 0, 1, 0, 0), (1, 0, 1, 0, 0), (5, 9, 0, 1, 0), (5, 5, 2, 0, 2)] = some 42 := by decide +kernel
theorem bkSR_image_45 : zBk mSR_image 45 [] = some 45 := by decide +kernel
theorem bkSR_image_8 : zBk mSR_image 8 [(1, 0, 1, 0, 0), (0, 0, 0, 0, -1)] = some 10 := by decide +kernel
theorem bkSR_image_13 : zBk mSR_image 13 [] = some 13 := by decide +kernel
theorem bdSR_image_2 : decode mSR_image.2.2.1 2 = .ok (.invokestatic 126, 3) := by decide +kernel
theorem bdSR_image_5 : decode mSR_image.2.2.1 5 = .ok (.ifCond .ne 9, 3) := by decide +kernel
theorem bdSR_image_10 : decode mSR_image.2.2.1 10 = .ok (.invokevirtual 93, 3) := by decide +kernel
theorem bdSR_image_13 : decode mSR_image.2.2.1 13 = .ok (.ireturn, 1) := by decide +kernel
theorem bdSR_image_24 : decode mSR_image.2.2.1 24 = .ok (.invokevirtual 242, 3) := by decide +kernel
theorem bdSR_image_42 : decode mSR_image.2.2.1 42 = .ok (.invokevirtual 111, 3) := by decide +kernel
theorem bdSR_image_45 : decode mSR_image.2.2.1 45 = .ok (.ireturn, 1) := by decide +kernel
theorem cSR_image {sg : zSig} {n : Int32} (ob : okS sg 1) (h0 : 0 ≤ sg 36 2) (h1 : sg 36 2 < 8) (u0 : 0 ≤ sg 36 3) (u1 : sg 36 3 ≤ 8) : zG mSR_image 411 (fun rr h' => (rr = some (.int (-1)) ∧ h' = zN (hRfC sg (-1)) ∧ (¬ (0 ≤ n ∧ n ≤ 1))) ∨ ((0 ≤ n ∧ n ≤ 1) ∧ ∃ sg1, hSB sg sg1 (zel 311 n) 1 ∧ rr = some (.int (sg 1 2)) ∧ h' = zN (hGrC (zup sg1 312 n 1)))) 0 [(0, .ref 0), (1, .int n)] [] (zN sg) := by
  obtain ⟨⟨n0, n1⟩, ⟨g0, g1⟩, ⟨a0, a1⟩, -⟩ := id ob
  refine zG_run bkSR_image_0 (lv' := [(0, .ref 0), (1, .int n)]) (st' := [.int 1, .int n]) (h' := zN sg) (Ps := []) rfl trivial ?_
  refine zG_calls (As := [.int n, .int 1]) (rest := []) (N2 := 411) bdSR_image_2 okSR_isWithin lk9_126 (And.intro (by decide) (by decide)) rfl rfl (Nat.le_of_ble_eq_true rfl) (Nat.le_of_ble_eq_true rfl) (Nat.le_refl 411) (Nat.le_refl 411) cSR_isWithin ?_
  rintro rr h' ⟨rfl, rfl⟩ -
  refine zb_ifne (tgt := 14) bkSR_image_5 bdSR_image_5 (by decide) (lv' := [(0, .ref 0), (1, .int n)]) (st' := []) (h' := zN sg) (x := if 0 ≤ n ∧ n ≤ 1 then 1 else 0) (Ps := []) rfl trivial (fun c1 => ?_) (fun c1 => ?_)
  · skip
    have hc : 0 ≤ n ∧ n ≤ 1 := by grind
    have hr := zel311_rng (i := n) (by lia) (by lia)
    refine zG_run bkSR_image_14 (lv' := [(0, .ref 0), (1, .int n)]) (st' := [.ref 1, .ref (zel 311 n)]) (h' := zN sg) (Ps := [zOb (zN sg) 0 9 ∧ (zN sg).2.2 0 3 = true, zInR (zN sg) 311 n, zOb (zN sg) 0 9 ∧ (zN sg).2.2 0 0 = true]) rfl (zA ⟨zob_0, rfl⟩ (zA (zinR_311 (i := n) (by lia) (by lia)) (zA ⟨zob_0, rfl⟩ trivial))) ?_
    refine zG_callv (a := zel 311 n) (c := 5) (As := [.ref 1]) (rest := []) (N2 := 411) bdSR_image_24 okShe_become lk9_242 (And.intro (by decide) (by decide)) (by decide) rfl rfl rfl (Nat.le_of_ble_eq_true rfl) (Nat.le_of_ble_eq_true rfl) (Nat.le_refl 411) (Nat.le_refl 411) (zel_ob311 (by lia) (by lia)) (cShe_become (zel311_s (by lia) (by lia)) iSh_1 (by omega) ob) ?_
    rintro rr h' ⟨sg2, rfl, rfl, hb⟩ -
    refine zG_run bkSR_image_27 (lv' := [(0, .ref 0), (1, .int n)]) (st' := [.int ((zup sg2 312 n (1 &&& 1)) 1 2), .ref 0]) (h' := zN (zup sg2 312 n (1 &&& 1))) (Ps := [zOb (zN sg2) 0 9 ∧ (zN sg2).2.2 0 4 = true, zIn (zN sg2) 312 2 n, zOb (zN (zup sg2 312 n (1 &&& 1))) 0 9 ∧ (zN (zup sg2 312 n (1 &&& 1))).2.2 0 0 = true, zOb (zN (zup sg2 312 n (1 &&& 1))) 1 5]) rfl (zA ⟨zob_0, rfl⟩ (zA (zin_312 (i := n) (by lia) (by lia)) (zA ⟨zob_0, rfl⟩ (zA zob_1 trivial)))) ?_
    refine zG_callv (a := 0) (c := 9) (As := [.int ((zup sg2 312 n (1 &&& 1)) 1 2)]) (rest := []) (N2 := 411) bdSR_image_42 okSR_granted lk9_111 (And.intro (by decide) (by decide)) (by decide) rfl rfl rfl (Nat.le_of_ble_eq_true rfl) (Nat.le_of_ble_eq_true rfl) (Nat.le_refl 411) (Nat.le_refl 411) zob_0 cSR_granted ?_
    rintro rr h' ⟨rfl, rfl⟩ -
    refine zb_iret bkSR_image_45 bdSR_image_45 rfl (x := (zup sg2 312 n (1 &&& 1)) 1 2) (h' := zN (hGrC (zup sg2 312 n (1 &&& 1)))) (Ps := []) rfl trivial rfl ?_
    exact Or.inr (⟨hc, _, hb, by rw [zup_a (by decide), hb.1 1 2 (by omega)], rfl⟩)
  · skip
    refine zG_run bkSR_image_8 (lv' := [(0, .ref 0), (1, .int n)]) (st' := [.int (-1), .ref 0]) (h' := zN sg) (Ps := []) rfl trivial ?_
    refine zG_callv (a := 0) (c := 9) (As := [.int (-1)]) (rest := []) (N2 := 411) bdSR_image_10 okSR_refused lk9_93 (And.intro (by decide) (by decide)) (by decide) rfl rfl rfl (Nat.le_of_ble_eq_true rfl) (Nat.le_of_ble_eq_true rfl) (Nat.le_refl 411) (Nat.le_refl 411) zob_0 (cSR_refused (by decide) (by decide)) ?_
    rintro rr h' ⟨rfl, rfl⟩ -
    refine zb_iret bkSR_image_13 bdSR_image_13 rfl (x := (-1)) (h' := zN (hRfC sg (-1))) (Ps := []) rfl trivial rfl ?_
    exact Or.inl ⟨rfl, rfl, by grind⟩
