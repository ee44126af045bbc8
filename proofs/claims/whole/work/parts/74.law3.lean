/-! the law: its switch -/
theorem bdL_33 : decode mLaw_law.2.2.1 33 = .ok (.tableswitch 1494 0 38 #[171, 234, 257, 280, 303, 336, 369, 412, 511, 534, 577, 620, 695, 708, 741, 764, 777, 790, 803, 816, 839, 862, 885, 918, 951, 984, 1017, 1050, 1083, 1106, 1181, 1244, 1323, 1366, 1379, 1412, 1445, 1458, 1481], 171) := by decide +kernel
theorem bkL_18 : zBk mLaw_law 18 [(1, 3, 0, 0, 0), (1, 0, 1, 0, 0), (10, 0, 0, 0, 0), (0, 0, 0, 0, 9), (4, 1, 0, 0, 0)] = some 24 := by decide +kernel
theorem bdL_24 : decode mLaw_law.2.2.1 24 = .ok (.if_icmp .gt 1509, 3) := by decide +kernel
theorem bkL_27 : zBk mLaw_law 27 [(1, 0, 1, 0, 0), (1, 3, 0, 0, 0), (7, 0, 0, 0, 0), (0, 0, 0, 0, 63), (4, 3, 0, 0, 0)] = some 33 := by decide +kernel
theorem bkL_1527 : zBk mLaw_law 1527 [(3, 3, 0, 0, 9), (22, 18, 0, 0, 0)] = some 18 := by decide +kernel
theorem sw_out {x : Int32} (h : ¬ (0 ≤ x ∧ x < 39)) : x.toInt < 0 ∨ 38 < x.toInt := by
  refine Decidable.byContradiction (fun q => h ⟨Int32.le_iff_toInt_le.mpr ?_, Int32.lt_iff_toInt_lt.mpr ?_⟩)
  · show (0 : Int) ≤ x.toInt; omega
  · show x.toInt < (39 : Int); omega
theorem law_switch {sg : zSig} {i x : Int32} {Q : Option Value → zHp → Prop} (h : R2 sg sg) (hi : ∀ j, 0 ≤ j → j ≤ 8 → 0 ≤ i + j ∧ i + j < sg 100001 (-1)) (kk : ∀ sg', R2 sg' sg' → (∀ j, sg' 100001 j = sg 100001 j) → zG mLaw_law 411 Q 1527 [(0, .ref 100001), (1, .ref 0), (2, .ref 393), (3, .int i)] [] (zN sg')) : zG mLaw_law 411 Q 33 [(0, .ref 100001), (1, .ref 0), (2, .ref 393), (3, .int i)] [.int x] (zN sg) := by
  by_cases hx : 0 ≤ x ∧ x < 39
  · obtain ⟨j, hj, rfl⟩ := nIr (n := 39) hx.1 hx.2 (by decide)
    match j, hj with
    | 0, _ => exact zs_tableIn (off := 171) (tgt := 204) bdL_33 (by decide) (by decide) rfl (by decide) (law_feed h hi kk)
    | 1, _ => exact zs_tableIn (off := 234) (tgt := 267) bdL_33 (by decide) (by decide) rfl (by decide) (law_end h hi kk)
    | 2, _ => exact zs_tableIn (off := 257) (tgt := 290) bdL_33 (by decide) (by decide) rfl (by decide) (law_tape h hi kk)
    | 3, _ => exact zs_tableIn (off := 280) (tgt := 313) bdL_33 (by decide) (by decide) rfl (by decide) (law_type h hi kk)
    | 4, _ => exact zs_tableIn (off := 303) (tgt := 336) bdL_33 (by decide) (by decide) rfl (by decide) (law_cut h hi kk)
    | 5, _ => exact zs_tableIn (off := 336) (tgt := 369) bdL_33 (by decide) (by decide) rfl (by decide) (law_swap h hi kk)
    | 6, _ => exact zs_tableIn (off := 369) (tgt := 402) bdL_33 (by decide) (by decide) rfl (by decide) (law_move h hi kk)
    | 7, _ => exact zs_tableIn (off := 412) (tgt := 445) bdL_33 (by decide) (by decide) rfl (by decide) (law_lay h hi kk)
    | 8, _ => exact zs_tableIn (off := 511) (tgt := 544) bdL_33 (by decide) (by decide) rfl (by decide) (law_lift h hi kk)
    | 9, _ => exact zs_tableIn (off := 534) (tgt := 567) bdL_33 (by decide) (by decide) rfl (by decide) (law_set h hi kk)
    | 10, _ => exact zs_tableIn (off := 577) (tgt := 610) bdL_33 (by decide) (by decide) rfl (by decide) (law_stretch h hi kk)
    | 11, _ => exact zs_tableIn (off := 620) (tgt := 653) bdL_33 (by decide) (by decide) rfl (by decide) (law_paint h hi kk)
    | 12, _ => exact zs_tableIn (off := 695) (tgt := 728) bdL_33 (by decide) (by decide) rfl (by decide) (law_fast h hi kk)
    | 13, _ => exact zs_tableIn (off := 708) (tgt := 741) bdL_33 (by decide) (by decide) rfl (by decide) (law_pin h hi kk)
    | 14, _ => exact zs_tableIn (off := 741) (tgt := 774) bdL_33 (by decide) (by decide) rfl (by decide) (law_unpin h hi kk)
    | 15, _ => exact zs_tableIn (off := 764) (tgt := 797) bdL_33 (by decide) (by decide) rfl (by decide) (law_read h hi kk)
    | 16, _ => exact zs_tableIn (off := 777) (tgt := 810) bdL_33 (by decide) (by decide) rfl (by decide) (law_fault h hi kk)
    | 17, _ => exact zs_tableIn (off := 790) (tgt := 823) bdL_33 (by decide) (by decide) rfl (by decide) (law_write h hi kk)
    | 18, _ => exact zs_tableIn (off := 803) (tgt := 836) bdL_33 (by decide) (by decide) rfl (by decide) (law_undo h hi kk)
    | 19, _ => exact zs_tableIn (off := 816) (tgt := 849) bdL_33 (by decide) (by decide) rfl (by decide) (law_image h hi kk)
    | 20, _ => exact zs_tableIn (off := 839) (tgt := 872) bdL_33 (by decide) (by decide) rfl (by decide) (law_back h hi kk)
    | 21, _ => exact zs_tableIn (off := 862) (tgt := 895) bdL_33 (by decide) (by decide) rfl (by decide) (law_letter h hi kk)
    | 22, _ => exact zs_tableIn (off := 885) (tgt := 918) bdL_33 (by decide) (by decide) rfl (by decide) (law_style h hi kk)
    | 23, _ => exact zs_tableIn (off := 918) (tgt := 951) bdL_33 (by decide) (by decide) rfl (by decide) (law_run h hi kk)
    | 24, _ => exact zs_tableIn (off := 951) (tgt := 984) bdL_33 (by decide) (by decide) rfl (by decide) (law_stack h hi kk)
    | 25, _ => exact zs_tableIn (off := 984) (tgt := 1017) bdL_33 (by decide) (by decide) rfl (by decide) (law_tells h hi kk)
    | 26, _ => exact zs_tableIn (off := 1017) (tgt := 1050) bdL_33 (by decide) (by decide) rfl (by decide) (law_span h hi kk)
    | 27, _ => exact zs_tableIn (off := 1050) (tgt := 1083) bdL_33 (by decide) (by decide) rfl (by decide) (law_anchor h hi kk)
    | 28, _ => exact zs_tableIn (off := 1083) (tgt := 1116) bdL_33 (by decide) (by decide) rfl (by decide) (law_find h hi kk)
    | 29, _ => exact zs_tableIn (off := 1106) (tgt := 1139) bdL_33 (by decide) (by decide) rfl (by decide) (law_findBy h hi kk)
    | 30, _ => exact zs_tableIn (off := 1181) (tgt := 1214) bdL_33 (by decide) (by decide) rfl (by decide) (law_styled h hi kk)
    | 31, _ => exact zs_tableIn (off := 1244) (tgt := 1277) bdL_33 (by decide) (by decide) rfl (by decide) (law_follow h hi kk)
    | 32, _ => exact zs_tableIn (off := 1323) (tgt := 1356) bdL_33 (by decide) (by decide) rfl (by decide) (law_through h hi kk)
    | 33, _ => exact zs_tableIn (off := 1366) (tgt := 1399) bdL_33 (by decide) (by decide) rfl (by decide) (law_idle h hi kk)
    | 34, _ => exact zs_tableIn (off := 1379) (tgt := 1412) bdL_33 (by decide) (by decide) rfl (by decide) (law_raised h hi kk)
    | 35, _ => exact zs_tableIn (off := 1412) (tgt := 1445) bdL_33 (by decide) (by decide) rfl (by decide) (law_best h hi kk)
    | 36, _ => exact zs_tableIn (off := 1445) (tgt := 1478) bdL_33 (by decide) (by decide) rfl (by decide) (law_crossed h hi kk)
    | 37, _ => exact zs_tableIn (off := 1458) (tgt := 1491) bdL_33 (by decide) (by decide) rfl (by decide) (law_count h hi kk)
    | 38, _ => exact zs_tableIn (off := 1481) (tgt := 1514) bdL_33 (by decide) (by decide) rfl (by decide) (law_status h hi kk)
    | n + 39, q => exact absurd q (by omega)
  · exact zs_tableOut (tgt := 1527) bdL_33 (sw_out hx) (by decide) (kk sg h (fun _ => rfl))
