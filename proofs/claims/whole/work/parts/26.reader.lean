/-! marked texts read: printed by wip/whole/p26.py -/
/-- what the signs of marks are -/
def okM (sg : zSig) : Prop := sg 100000 0 = 98 ∧ sg 100000 1 = 105 ∧ sg 100000 2 = 117 ∧ sg 100000 3 = 115 ∧ sg 100000 4 = 99 ∧ sg 100000 5 = 122
def fKd (v : Int32) : Int32 := if v = 98 then 0 else if v = 105 then 1 else if v = 117 then 2 else if v = 115 then 3 else if v = 99 then 4 else if v = 122 then 5 else -1
def rTp (sg : zSig) (i : Int32) : Int32 := if 0 ≤ i ∧ i < sg 34 1 then sg 35 i else -1
def rA1 (sg : zSig) (t : Int32) : Int32 := if rTp sg (t + 1) = 47 then t + 2 else t + 1
def rK (sg : zSig) (t : Int32) : Int32 := fKd (rTp sg (rA1 sg t))
def rVl (sg : zSig) (t : Int32) : Int32 := if rTp sg (t + 1) ≠ 47 ∧ 4 ≤ rK sg t then rTp sg (rA1 sg t + 1) - 48 else 1
def rA2 (sg : zSig) (t : Int32) : Int32 := if rTp sg (t + 1) ≠ 47 ∧ 4 ≤ rK sg t then rA1 sg t + 1 + 1 else rA1 sg t + 1
def rBv (sg : zSig) (t : Int32) : Bool := decide ((rTp sg (t + 1) ≠ 47 ∧ 4 ≤ rK sg t) ∧ ¬ (0 ≤ rVl sg t ∧ rVl sg t ≤ (if rK sg t = 4 then 7 else 9)))
def rBs (sg : zSig) (t : Int32) : Bool := decide ((rTp sg (t + 1) = 47 ∧ (sg 317 6 = 0 ∨ sg 320 (sg 317 6 - 1) ≠ rK sg t)) ∨ (rTp sg (t + 1) ≠ 47 ∧ 8 ≤ sg 317 6))
def rMkF (sg : zSig) (t : Int32) : Int32 := if rK sg t = -1 then rA1 sg t else if rBv sg t = true then rA1 sg t + 1 else if rTp sg (rA2 sg t) ≠ 93 then rA2 sg t else if rBs sg t = true then t else -1
def rMkA (sg : zSig) (t : Int32) : Int32 := if rK sg t = -1 then rA1 sg t else if rBv sg t = true then rA1 sg t + 1 else if rTp sg (rA2 sg t) ≠ 93 then rA2 sg t else rA2 sg t + 1
def rOp (sg : zSig) (k v : Int32) : zSig := zup (zup (zup sg 320 (sg 317 6) k) 321 (sg 317 6 + 1) (fMk (sg 321 (sg 317 6)) k v)) 317 6 (sg 317 6 + 1)
def rMkH (sg : zSig) (t : Int32) : zSig := if rMkF sg t ≠ -1 then zup sg 317 3 (rMkF sg t) else if rTp sg (t + 1) = 47 then zup sg 317 6 (sg 317 6 - 1) else rOp sg (rK sg t) (rVl sg t)
def rG (sg : zSig) (t : Int32) : Bool := decide (((32 ≤ rTp sg t ∧ rTp sg t ≤ 126) ∧ rTp sg t ≠ 91 ∧ rTp sg t ≠ 93) ∧ sg 317 2 < 200)
def rLtA (sg : zSig) (t : Int32) : Int32 := if rG sg t = true then t + 1 else t
def rLp (sg : zSig) (t : Int32) : zSig := zup (zup (zup sg 318 (sg 317 2) (rTp sg t)) 319 (sg 317 2) (sg 321 (sg 317 6))) 317 2 (sg 317 2 + 1)
def rLtH (sg : zSig) (t : Int32) : zSig := if rG sg t = true then rLp sg t else zup sg 317 3 t
/-- one letter or mark more, unless all is read or a fault is found -/
def rSt (x : Int32 × zSig) : Int32 × zSig := if x.1 < x.2 34 1 ∧ x.2 317 3 = -1 then (if rTp x.2 x.1 = 91 then (rMkA x.2 x.1, rMkH x.2 x.1) else (rLtA x.2 x.1, rLtH x.2 x.1)) else x
def rI (sg : zSig) : zSig := zup (zup (zup (zup sg 317 2 0) 317 6 0) 317 3 (-1)) 321 0 4
def okR (sg : zSig) : Prop := (0 ≤ sg 317 2 ∧ sg 317 2 ≤ 200) ∧ 0 ≤ sg 317 6 ∧ sg 317 6 ≤ 8
def rEnd (sg : zSig) : zSig := if sg 317 3 = -1 ∧ 0 < sg 317 6 then zup sg 317 3 (sg 34 1) else sg
def rPs (sg sg' : zSig) : Prop := ∃ (n : Nat) (X : Int32 × zSig), X = zitN (fun _ => rSt) (0, rI sg) n ∧ ¬ (X.1 < X.2 34 1 ∧ X.2 317 3 = -1) ∧ sg' = rEnd X.2 ∧ okR sg' ∧ ∀ c j, (c < 317 ∨ 322 ≤ c) → sg' c j = sg c j
theorem bkRea_kindOf_0 : zBk mRea_kindOf 0 [(0, 0, 0, 0, 0), (2, 1, 0, 0, 0), (1, 1, 0, 0, 0), (11, 0, 0, 0, 0), (10, 0, 0, 0, 0)] = some 7 := by decide +kernel
theorem bkRea_kindOf_10 : zBk mRea_kindOf 10 [(11, 0, 0, 0, 0), (1, 1, 0, 0, 0), (7, 0, 0, 0, 0), (1, 0, 0, 0, 0)] = some 16 := by decide +kernel
theorem bkRea_kindOf_21 : zBk mRea_kindOf 21 [(3, 1, 0, 0, 1), (22, 2, 0, 0, 0), (1, 1, 0, 0, 0), (11, 0, 0, 0, 0), (10, 0, 0, 0, 0)] = some 7 := by decide +kernel
theorem bkRea_kindOf_27 : zBk mRea_kindOf 27 [(0, 0, 0, 0, -1)] = some 28 := by decide +kernel
theorem bkRea_kindOf_19 : zBk mRea_kindOf 19 [(1, 1, 0, 0, 0)] = some 20 := by decide +kernel
theorem bdRea_kindOf_7 : decode mRea_kindOf.2.2.1 7 = .ok (.if_icmp .ge 20, 3) := by decide +kernel
theorem bdRea_kindOf_16 : decode mRea_kindOf.2.2.1 16 = .ok (.if_icmp .ne 5, 3) := by decide +kernel
theorem bdRea_kindOf_20 : decode mRea_kindOf.2.2.1 20 = .ok (.ireturn, 1) := by decide +kernel
theorem bdRea_kindOf_28 : decode mRea_kindOf.2.2.1 28 = .ok (.ireturn, 1) := by decide +kernel
theorem cRea_kindOf {sg : zSig} {v : Int32} (hm : okM sg) : zG mRea_kindOf 411 (fun rr h' => rr = some (.int (fKd v)) ∧ h' = zN sg) 0 [(0, .int v)] [] (zN sg) := by
  refine zb_icge (tgt := 27) bkRea_kindOf_0 bdRea_kindOf_7 (by decide) (lv' := [(1, .int 0), (0, .int v)]) (st' := []) (h' := zN sg) (x := 0) (y := 6) (Ps := [(100000 < (zN sg).2.1 ∧ (zSh 100000).1 = 1 ∧ (zSh 100000).2.1 < 3) ∨ 100000 = 100000 ∨ 100000 = 100001]) rfl (zA (Or.inr (Or.inl rfl)) trivial) (fun c1 => ?_) (fun c1 => ?_)
  · exact absurd c1 (by decide)
  · skip
    refine zb_icne (tgt := 21) bkRea_kindOf_10 bdRea_kindOf_16 (by decide) (lv' := [(1, .int 0), (0, .int v)]) (st' := []) (h' := zN sg) (x := sg 100000 0) (y := v) (Ps := [zInL (zN sg) 100000 0]) rfl (zA (zinL_100000 (i := 0) (by decide) (by decide)) trivial) (fun c2 => ?_) (fun c2 => ?_)
    · skip
      refine zb_icge (tgt := 27) bkRea_kindOf_21 bdRea_kindOf_7 (by decide) (lv' := [(1, .int 1), (0, .int v)]) (st' := []) (h' := zN sg) (x := 1) (y := 6) (Ps := [(100000 < (zN sg).2.1 ∧ (zSh 100000).1 = 1 ∧ (zSh 100000).2.1 < 3) ∨ 100000 = 100000 ∨ 100000 = 100001]) rfl (zA (Or.inr (Or.inl rfl)) trivial) (fun c3 => ?_) (fun c3 => ?_)
      · exact absurd c3 (by decide)
      · skip
        refine zb_icne (tgt := 21) bkRea_kindOf_10 bdRea_kindOf_16 (by decide) (lv' := [(1, .int 1), (0, .int v)]) (st' := []) (h' := zN sg) (x := sg 100000 1) (y := v) (Ps := [zInL (zN sg) 100000 1]) rfl (zA (zinL_100000 (i := 1) (by decide) (by decide)) trivial) (fun c4 => ?_) (fun c4 => ?_)
        · skip
          refine zb_icge (tgt := 27) bkRea_kindOf_21 bdRea_kindOf_7 (by decide) (lv' := [(1, .int 2), (0, .int v)]) (st' := []) (h' := zN sg) (x := 2) (y := 6) (Ps := [(100000 < (zN sg).2.1 ∧ (zSh 100000).1 = 1 ∧ (zSh 100000).2.1 < 3) ∨ 100000 = 100000 ∨ 100000 = 100001]) rfl (zA (Or.inr (Or.inl rfl)) trivial) (fun c5 => ?_) (fun c5 => ?_)
          · exact absurd c5 (by decide)
          · skip
            refine zb_icne (tgt := 21) bkRea_kindOf_10 bdRea_kindOf_16 (by decide) (lv' := [(1, .int 2), (0, .int v)]) (st' := []) (h' := zN sg) (x := sg 100000 2) (y := v) (Ps := [zInL (zN sg) 100000 2]) rfl (zA (zinL_100000 (i := 2) (by decide) (by decide)) trivial) (fun c6 => ?_) (fun c6 => ?_)
            · skip
              refine zb_icge (tgt := 27) bkRea_kindOf_21 bdRea_kindOf_7 (by decide) (lv' := [(1, .int 3), (0, .int v)]) (st' := []) (h' := zN sg) (x := 3) (y := 6) (Ps := [(100000 < (zN sg).2.1 ∧ (zSh 100000).1 = 1 ∧ (zSh 100000).2.1 < 3) ∨ 100000 = 100000 ∨ 100000 = 100001]) rfl (zA (Or.inr (Or.inl rfl)) trivial) (fun c7 => ?_) (fun c7 => ?_)
              · exact absurd c7 (by decide)
              · skip
                refine zb_icne (tgt := 21) bkRea_kindOf_10 bdRea_kindOf_16 (by decide) (lv' := [(1, .int 3), (0, .int v)]) (st' := []) (h' := zN sg) (x := sg 100000 3) (y := v) (Ps := [zInL (zN sg) 100000 3]) rfl (zA (zinL_100000 (i := 3) (by decide) (by decide)) trivial) (fun c8 => ?_) (fun c8 => ?_)
                · skip
                  refine zb_icge (tgt := 27) bkRea_kindOf_21 bdRea_kindOf_7 (by decide) (lv' := [(1, .int 4), (0, .int v)]) (st' := []) (h' := zN sg) (x := 4) (y := 6) (Ps := [(100000 < (zN sg).2.1 ∧ (zSh 100000).1 = 1 ∧ (zSh 100000).2.1 < 3) ∨ 100000 = 100000 ∨ 100000 = 100001]) rfl (zA (Or.inr (Or.inl rfl)) trivial) (fun c9 => ?_) (fun c9 => ?_)
                  · exact absurd c9 (by decide)
                  · skip
                    refine zb_icne (tgt := 21) bkRea_kindOf_10 bdRea_kindOf_16 (by decide) (lv' := [(1, .int 4), (0, .int v)]) (st' := []) (h' := zN sg) (x := sg 100000 4) (y := v) (Ps := [zInL (zN sg) 100000 4]) rfl (zA (zinL_100000 (i := 4) (by decide) (by decide)) trivial) (fun c10 => ?_) (fun c10 => ?_)
                    · skip
                      refine zb_icge (tgt := 27) bkRea_kindOf_21 bdRea_kindOf_7 (by decide) (lv' := [(1, .int 5), (0, .int v)]) (st' := []) (h' := zN sg) (x := 5) (y := 6) (Ps := [(100000 < (zN sg).2.1 ∧ (zSh 100000).1 = 1 ∧ (zSh 100000).2.1 < 3) ∨ 100000 = 100000 ∨ 100000 = 100001]) rfl (zA (Or.inr (Or.inl rfl)) trivial) (fun c11 => ?_) (fun c11 => ?_)
                      · exact absurd c11 (by decide)
                      · skip
                        refine zb_icne (tgt := 21) bkRea_kindOf_10 bdRea_kindOf_16 (by decide) (lv' := [(1, .int 5), (0, .int v)]) (st' := []) (h' := zN sg) (x := sg 100000 5) (y := v) (Ps := [zInL (zN sg) 100000 5]) rfl (zA (zinL_100000 (i := 5) (by decide) (by decide)) trivial) (fun c12 => ?_) (fun c12 => ?_)
                        · skip
                          refine zb_icge (tgt := 27) bkRea_kindOf_21 bdRea_kindOf_7 (by decide) (lv' := [(1, .int 6), (0, .int v)]) (st' := []) (h' := zN sg) (x := 6) (y := 6) (Ps := [(100000 < (zN sg).2.1 ∧ (zSh 100000).1 = 1 ∧ (zSh 100000).2.1 < 3) ∨ 100000 = 100000 ∨ 100000 = 100001]) rfl (zA (Or.inr (Or.inl rfl)) trivial) (fun c13 => ?_) (fun c13 => ?_)
                          · skip
                            refine zb_iret bkRea_kindOf_27 bdRea_kindOf_28 rfl (x := (-1)) (h' := zN sg) (Ps := []) rfl trivial rfl ?_
                            exact ⟨by unfold fKd; obtain ⟨m0, m1, m2, m3, m4, m5⟩ := hm; grind, rfl⟩
                          · exact absurd c13 (by decide)
                        · skip
                          refine zb_iret bkRea_kindOf_19 bdRea_kindOf_20 rfl (x := 5) (h' := zN sg) (Ps := []) rfl trivial rfl ?_
                          exact ⟨by unfold fKd; obtain ⟨m0, m1, m2, m3, m4, m5⟩ := hm; grind, rfl⟩
                    · skip
                      refine zb_iret bkRea_kindOf_19 bdRea_kindOf_20 rfl (x := 4) (h' := zN sg) (Ps := []) rfl trivial rfl ?_
                      exact ⟨by unfold fKd; obtain ⟨m0, m1, m2, m3, m4, m5⟩ := hm; grind, rfl⟩
                · skip
                  refine zb_iret bkRea_kindOf_19 bdRea_kindOf_20 rfl (x := 3) (h' := zN sg) (Ps := []) rfl trivial rfl ?_
                  exact ⟨by unfold fKd; obtain ⟨m0, m1, m2, m3, m4, m5⟩ := hm; grind, rfl⟩
            · skip
              refine zb_iret bkRea_kindOf_19 bdRea_kindOf_20 rfl (x := 2) (h' := zN sg) (Ps := []) rfl trivial rfl ?_
              exact ⟨by unfold fKd; obtain ⟨m0, m1, m2, m3, m4, m5⟩ := hm; grind, rfl⟩
        · skip
          refine zb_iret bkRea_kindOf_19 bdRea_kindOf_20 rfl (x := 1) (h' := zN sg) (Ps := []) rfl trivial rfl ?_
          exact ⟨by unfold fKd; obtain ⟨m0, m1, m2, m3, m4, m5⟩ := hm; grind, rfl⟩
    · skip
      refine zb_iret bkRea_kindOf_19 bdRea_kindOf_20 rfl (x := 0) (h' := zN sg) (Ps := []) rfl trivial rfl ?_
      exact ⟨by unfold fKd; obtain ⟨m0, m1, m2, m3, m4, m5⟩ := hm; grind, rfl⟩
theorem bkRea_openMark_0 : zBk mRea_openMark 0 [(1, 0, 1, 0, 0), (5, 4, 6, 0, 6), (0, 0, 0, 0, 8)] = some 6 := by decide +kernel
theorem bkRea_openMark_11 : zBk mRea_openMark 11 [(1, 0, 1, 0, 0), (5, 4, 4, 3, 4), (1, 0, 1, 0, 0), (5, 4, 6, 0, 6), (1, 1, 0, 0, 0), (8, 0, 0, 0, 0), (1, 0, 1, 0, 0), (5, 4, 5, 4, 5), (1, 0, 1, 0, 0), (5, 4, 6, 0, 6), (0, 0, 0, 0, 1), (4, 0, 0, 0, 0), (1, 0, 1, 0, 0), (5, 4, 5, 4, 5), (1, 0, 1, 0, 0), (5, 4, 6, 0, 6), (7, 0, 0, 0, 0), (1, 1, 0, 0, 0), (1, 2, 0, 0, 0)] = some 42 := by decide +kernel
theorem bkRea_openMark_45 : zBk mRea_openMark 45 [(8, 0, 0, 0, 0), (1, 0, 1, 0, 0), (18, 0, 0, 0, 0), (5, 4, 6, 0, 6), (0, 0, 0, 0, 1), (4, 0, 0, 0, 0), (6, 4, 6, 0, 6), (0, 0, 0, 0, 1)] = some 57 := by decide +kernel
theorem bkRea_openMark_9 : zBk mRea_openMark 9 [(0, 0, 0, 0, 0)] = some 10 := by decide +kernel
theorem bdRea_openMark_6 : decode mRea_openMark.2.2.1 6 = .ok (.if_icmp .lt 5, 3) := by decide +kernel
theorem bdRea_openMark_10 : decode mRea_openMark.2.2.1 10 = .ok (.ireturn, 1) := by decide +kernel
theorem bdRea_openMark_42 : decode mRea_openMark.2.2.1 42 = .ok (.invokestatic 69, 3) := by decide +kernel
theorem bdRea_openMark_57 : decode mRea_openMark.2.2.1 57 = .ok (.ireturn, 1) := by decide +kernel
theorem cRea_openMark {sg : zSig} {k v : Int32} (k0 : 0 ≤ sg 317 6) (k1 : sg 317 6 ≤ 8) : zG mRea_openMark 411 (fun rr h' => rr = some (.int (if 8 ≤ sg 317 6 then 0 else 1)) ∧ h' = zN (if 8 ≤ sg 317 6 then sg else rOp sg k v)) 0 [(0, .ref 317), (1, .int k), (2, .int v)] [] (zN sg) := by
  refine zb_iclt (tgt := 11) bkRea_openMark_0 bdRea_openMark_6 (by decide) (lv' := [(0, .ref 317), (1, .int k), (2, .int v)]) (st' := []) (h' := zN sg) (x := sg 317 6) (y := 8) (Ps := [zOb (zN sg) 317 4]) rfl (zA zob_317 trivial) (fun c1 => ?_) (fun c1 => ?_)
  · skip
    refine zG_run bkRea_openMark_11 (lv' := [(0, .ref 317), (1, .int k), (2, .int v)]) (st' := [.int v, .int k, .int ((zup sg 320 (sg 317 6) k) 321 ((zup sg 320 (sg 317 6) k) 317 6)), .int (((zup sg 320 (sg 317 6) k) 317 6) + 1), .ref 321]) (h' := zN (zup sg 320 (sg 317 6) k)) (Ps := [zOb (zN sg) 317 4 ∧ (zN sg).2.2 317 4 = true, zOb (zN sg) 317 4, zIn (zN sg) 320 0 (sg 317 6), zOb (zN (zup sg 320 (sg 317 6) k)) 317 4 ∧ (zN (zup sg 320 (sg 317 6) k)).2.2 317 5 = true, zOb (zN (zup sg 320 (sg 317 6) k)) 317 4, zOb (zN (zup sg 320 (sg 317 6) k)) 317 4 ∧ (zN (zup sg 320 (sg 317 6) k)).2.2 317 5 = true, zOb (zN (zup sg 320 (sg 317 6) k)) 317 4, zInL (zN (zup sg 320 (sg 317 6) k)) 321 ((zup sg 320 (sg 317 6) k) 317 6)]) rfl (zA ⟨zob_317, rfl⟩ (zA zob_317 (zA (zin_320 (i := sg 317 6) (by (try simp only [zup_e]); grind) (by (try simp only [zup_e]); grind)) (zA ⟨zob_317, rfl⟩ (zA zob_317 (zA ⟨zob_317, rfl⟩ (zA zob_317 (zA (zinL_321 (i := (zup sg 320 (sg 317 6) k) 317 6) (by (try simp only [zup_e]); grind) (by (try simp only [zup_e]); grind)) trivial)))))))) ?_
    refine zG_calls (As := [.int ((zup sg 320 (sg 317 6) k) 321 ((zup sg 320 (sg 317 6) k) 317 6)), .int k, .int v]) (rest := [.int (((zup sg 320 (sg 317 6) k) 317 6) + 1), .ref 321]) (N2 := 411) bdRea_openMark_42 okSty_marked lk4_69 (And.intro (by decide) (by decide)) rfl rfl (Nat.le_of_ble_eq_true rfl) (Nat.le_of_ble_eq_true rfl) (Nat.le_refl 411) (Nat.le_refl 411) cSty_marked ?_
    rintro rr h' ⟨rfl, rfl⟩ -
    refine zb_zret bkRea_openMark_45 bdRea_openMark_57 rfl (x := 1) (h' := zN (zup (zup (zup sg 320 (sg 317 6) k) 321 (((zup sg 320 (sg 317 6) k) 317 6) + 1) (fMk ((zup sg 320 (sg 317 6) k) 321 ((zup sg 320 (sg 317 6) k) 317 6)) k v)) 317 6 (((zup (zup sg 320 (sg 317 6) k) 321 (((zup sg 320 (sg 317 6) k) 317 6) + 1) (fMk ((zup sg 320 (sg 317 6) k) 321 ((zup sg 320 (sg 317 6) k) 317 6)) k v)) 317 6) + 1))) (Ps := [zIn (zN (zup sg 320 (sg 317 6) k)) 321 0 (((zup sg 320 (sg 317 6) k) 317 6) + 1), zOb (zN (zup (zup sg 320 (sg 317 6) k) 321 (((zup sg 320 (sg 317 6) k) 317 6) + 1) (fMk ((zup sg 320 (sg 317 6) k) 321 ((zup sg 320 (sg 317 6) k) 317 6)) k v))) 317 4, zOb (zN (zup (zup sg 320 (sg 317 6) k) 321 (((zup sg 320 (sg 317 6) k) 317 6) + 1) (fMk ((zup sg 320 (sg 317 6) k) 321 ((zup sg 320 (sg 317 6) k) 317 6)) k v))) 317 4]) rfl (zA (zin_321 (i := ((zup sg 320 (sg 317 6) k) 317 6) + 1) (by (try simp only [zup_e]); grind) (by (try simp only [zup_e]); grind)) (zA zob_317 (zA zob_317 trivial))) rfl (Or.inr rfl) ?_
    exact ⟨by rw [if_neg (by lia)], by rw [if_neg (by lia)]; simp [rOp, zup_e]⟩
  · skip
    refine zb_zret bkRea_openMark_9 bdRea_openMark_10 rfl (x := 0) (h' := zN sg) (Ps := []) rfl trivial rfl (Or.inl rfl) ?_
    exact ⟨by rw [if_pos (by lia)], by rw [if_pos (by lia)]⟩
theorem bkRea_closeLatest_0 : zBk mRea_closeLatest 0 [(1, 0, 1, 0, 0), (5, 4, 6, 0, 6)] = some 4 := by decide +kernel
theorem bkRea_closeLatest_22 : zBk mRea_closeLatest 22 [(0, 0, 0, 0, 0)] = some 23 := by decide +kernel
theorem bkRea_closeLatest_7 : zBk mRea_closeLatest 7 [(1, 0, 1, 0, 0), (5, 4, 4, 3, 4), (1, 0, 1, 0, 0), (5, 4, 6, 0, 6), (0, 0, 0, 0, 1), (4, 1, 0, 0, 0), (7, 0, 0, 0, 0), (1, 1, 0, 0, 0)] = some 19 := by decide +kernel
theorem bkRea_closeLatest_24 : zBk mRea_closeLatest 24 [(1, 0, 1, 0, 0), (18, 0, 0, 0, 0), (5, 4, 6, 0, 6), (0, 0, 0, 0, 1), (4, 1, 0, 0, 0), (6, 4, 6, 0, 6), (0, 0, 0, 0, 1)] = some 35 := by decide +kernel
theorem bdRea_closeLatest_4 : decode mRea_closeLatest.2.2.1 4 = .ok (.ifCond .eq 18, 3) := by decide +kernel
theorem bdRea_closeLatest_19 : decode mRea_closeLatest.2.2.1 19 = .ok (.if_icmp .eq 5, 3) := by decide +kernel
theorem bdRea_closeLatest_23 : decode mRea_closeLatest.2.2.1 23 = .ok (.ireturn, 1) := by decide +kernel
theorem bdRea_closeLatest_35 : decode mRea_closeLatest.2.2.1 35 = .ok (.ireturn, 1) := by decide +kernel
theorem cRea_closeLatest {sg : zSig} {k : Int32} (k0 : 0 ≤ sg 317 6) (k1 : sg 317 6 ≤ 8) : zG mRea_closeLatest 411 (fun rr h' => rr = some (.int (if sg 317 6 = 0 ∨ sg 320 (sg 317 6 - 1) ≠ k then 0 else 1)) ∧ h' = zN (if sg 317 6 = 0 ∨ sg 320 (sg 317 6 - 1) ≠ k then sg else zup sg 317 6 (sg 317 6 - 1))) 0 [(0, .ref 317), (1, .int k)] [] (zN sg) := by
  refine zb_ifeq (tgt := 22) bkRea_closeLatest_0 bdRea_closeLatest_4 (by decide) (lv' := [(0, .ref 317), (1, .int k)]) (st' := []) (h' := zN sg) (x := sg 317 6) (Ps := [zOb (zN sg) 317 4]) rfl (zA zob_317 trivial) (fun c1 => ?_) (fun c1 => ?_)
  · skip
    refine zb_zret bkRea_closeLatest_22 bdRea_closeLatest_23 rfl (x := 0) (h' := zN sg) (Ps := []) rfl trivial rfl (Or.inl rfl) ?_
    exact ⟨by rw [if_pos (by grind)], by rw [if_pos (by grind)]⟩
  · skip
    refine zb_iceq (tgt := 24) bkRea_closeLatest_7 bdRea_closeLatest_19 (by decide) (lv' := [(0, .ref 317), (1, .int k)]) (st' := []) (h' := zN sg) (x := sg 320 ((sg 317 6) - 1)) (y := k) (Ps := [zOb (zN sg) 317 4 ∧ (zN sg).2.2 317 4 = true, zOb (zN sg) 317 4, zInL (zN sg) 320 ((sg 317 6) - 1)]) rfl (zA ⟨zob_317, rfl⟩ (zA zob_317 (zA (zinL_320 (i := (sg 317 6) - 1) (by lia) (by lia)) trivial))) (fun c2 => ?_) (fun c2 => ?_)
    · skip
      refine zb_zret bkRea_closeLatest_24 bdRea_closeLatest_35 rfl (x := 1) (h' := zN (zup sg 317 6 ((sg 317 6) - 1))) (Ps := [zOb (zN sg) 317 4, zOb (zN sg) 317 4]) rfl (zA zob_317 (zA zob_317 trivial)) rfl (Or.inr rfl) ?_
      exact ⟨by rw [if_neg (by grind)], by rw [if_neg (by grind)]⟩
    · skip
      refine zb_zret bkRea_closeLatest_22 bdRea_closeLatest_23 rfl (x := 0) (h' := zN sg) (Ps := []) rfl trivial rfl (Or.inl rfl) ?_
      exact ⟨by rw [if_pos (by grind)], by rw [if_pos (by grind)]⟩
theorem bkRea_afterLetter_0 : zBk mRea_afterLetter 0 [(1, 1, 1, 0, 0), (1, 2, 0, 0, 0)] = some 2 := by decide +kernel
theorem bkRea_afterLetter_5 : zBk mRea_afterLetter 5 [] = some 5 := by decide +kernel
theorem bkRea_afterLetter_8 : zBk mRea_afterLetter 8 [] = some 8 := by decide +kernel
theorem bkRea_afterLetter_21 : zBk mRea_afterLetter 21 [(1, 0, 1, 0, 0), (1, 2, 0, 0, 0), (6, 4, 3, 0, 3), (1, 2, 0, 0, 0)] = some 27 := by decide +kernel
theorem bkRea_afterLetter_11 : zBk mRea_afterLetter 11 [(1, 0, 1, 0, 0), (5, 4, 2, 0, 2), (0, 0, 0, 0, 200)] = some 18 := by decide +kernel
theorem bkRea_afterLetter_28 : zBk mRea_afterLetter 28 [(1, 0, 1, 0, 0), (5, 4, 0, 1, 0), (1, 0, 1, 0, 0), (5, 4, 2, 0, 2), (1, 1, 1, 0, 0), (1, 2, 0, 0, 0)] = some 38 := by decide +kernel
theorem bkRea_afterLetter_41 : zBk mRea_afterLetter 41 [(8, 0, 0, 0, 0), (1, 0, 1, 0, 0), (5, 4, 1, 2, 1), (1, 0, 1, 0, 0), (5, 4, 2, 0, 2), (1, 0, 1, 0, 0), (5, 4, 5, 4, 5), (1, 0, 1, 0, 0), (5, 4, 6, 0, 6), (7, 0, 0, 0, 0), (8, 0, 0, 0, 0), (1, 0, 1, 0, 0), (18, 0, 0, 0, 0), (5, 4, 2, 0, 2), (0, 0, 0, 0, 1), (4, 0, 0, 0, 0), (6, 4, 2, 0, 2), (1, 2, 0, 0, 0), (0, 0, 0, 0, 1), (4, 0, 0, 0, 0)] = some 73 := by decide +kernel
theorem bdRea_afterLetter_2 : decode mRea_afterLetter.2.2.1 2 = .ok (.invokevirtual 41, 3) := by decide +kernel
theorem bdRea_afterLetter_5 : decode mRea_afterLetter.2.2.1 5 = .ok (.invokestatic 52, 3) := by decide +kernel
theorem bdRea_afterLetter_8 : decode mRea_afterLetter.2.2.1 8 = .ok (.ifCond .eq 13, 3) := by decide +kernel
theorem bdRea_afterLetter_18 : decode mRea_afterLetter.2.2.1 18 = .ok (.if_icmp .lt 10, 3) := by decide +kernel
theorem bdRea_afterLetter_27 : decode mRea_afterLetter.2.2.1 27 = .ok (.ireturn, 1) := by decide +kernel
theorem bdRea_afterLetter_38 : decode mRea_afterLetter.2.2.1 38 = .ok (.invokevirtual 41, 3) := by decide +kernel
theorem bdRea_afterLetter_73 : decode mRea_afterLetter.2.2.1 73 = .ok (.ireturn, 1) := by decide +kernel
theorem cRea_afterLetter {sg : zSig} {t : Int32} (l0 : 0 ≤ sg 34 1) (l1 : sg 34 1 ≤ 400) (n0 : 0 ≤ sg 317 2) (n1 : sg 317 2 ≤ 200) (k0 : 0 ≤ sg 317 6) (k1 : sg 317 6 ≤ 8) (t0 : 0 ≤ t) (t1 : t < sg 34 1) : zG mRea_afterLetter 411 (fun rr h' => rr = some (.int (rLtA sg t)) ∧ h' = zN (rLtH sg t)) 0 [(0, .ref 317), (1, .ref 34), (2, .int t)] [] (zN sg) := by
  refine zG_run bkRea_afterLetter_0 (lv' := [(0, .ref 317), (1, .ref 34), (2, .int t)]) (st' := [.int t, .ref 34]) (h' := zN sg) (Ps := []) rfl trivial ?_
  refine zG_callv (a := 34) (c := 7) (As := [.int t]) (rest := []) (N2 := 411) bdRea_afterLetter_2 okTap_at lk4_41 (And.intro (by decide) (by decide)) (by decide) rfl rfl rfl (Nat.le_of_ble_eq_true rfl) (Nat.le_of_ble_eq_true rfl) (Nat.le_refl 411) (Nat.le_refl 411) zob_34 (cTap_at (by (try simp only [zup_e]); grind)) ?_
  rintro rr h' ⟨rfl, rfl⟩ -
  refine zG_run bkRea_afterLetter_5 (lv' := [(0, .ref 317), (1, .ref 34), (2, .int t)]) (st' := [.int (rTp sg t)]) (h' := zN sg) (Ps := []) rfl trivial ?_
  refine zG_calls (As := [.int (rTp sg t)]) (rest := []) (N2 := 411) bdRea_afterLetter_5 okTap_isLetter lk4_52 (And.intro (by decide) (by decide)) rfl rfl (Nat.le_of_ble_eq_true rfl) (Nat.le_of_ble_eq_true rfl) (Nat.le_refl 411) (Nat.le_refl 411) cTap_isLetter ?_
  rintro rr h' ⟨rfl, rfl⟩ -
  refine zb_ifeq (tgt := 21) bkRea_afterLetter_8 bdRea_afterLetter_8 (by decide) (lv' := [(0, .ref 317), (1, .ref 34), (2, .int t)]) (st' := []) (h' := zN sg) (x := if (32 ≤ rTp sg t ∧ rTp sg t ≤ 126) ∧ rTp sg t ≠ 91 ∧ rTp sg t ≠ 93 then 1 else 0) (Ps := []) rfl trivial (fun c1 => ?_) (fun c1 => ?_)
  · skip
    refine zb_iret bkRea_afterLetter_21 bdRea_afterLetter_27 rfl (x := t) (h' := zN (zup sg 317 3 t)) (Ps := [zOb (zN sg) 317 4]) rfl (zA zob_317 trivial) rfl ?_
    have hg : rG sg t = false := by unfold rG; grind
    exact ⟨by unfold rLtA; simp [hg], by unfold rLtH; simp [hg]⟩
  · skip
    refine zb_iclt (tgt := 28) bkRea_afterLetter_11 bdRea_afterLetter_18 (by decide) (lv' := [(0, .ref 317), (1, .ref 34), (2, .int t)]) (st' := []) (h' := zN sg) (x := sg 317 2) (y := 200) (Ps := [zOb (zN sg) 317 4]) rfl (zA zob_317 trivial) (fun c2 => ?_) (fun c2 => ?_)
    · skip
      refine zG_run bkRea_afterLetter_28 (lv' := [(0, .ref 317), (1, .ref 34), (2, .int t)]) (st' := [.int t, .ref 34, .int (sg 317 2), .ref 318]) (h' := zN sg) (Ps := [zOb (zN sg) 317 4 ∧ (zN sg).2.2 317 0 = true, zOb (zN sg) 317 4]) rfl (zA ⟨zob_317, rfl⟩ (zA zob_317 trivial)) ?_
      refine zG_callv (a := 34) (c := 7) (As := [.int t]) (rest := [.int (sg 317 2), .ref 318]) (N2 := 411) bdRea_afterLetter_38 okTap_at lk4_41 (And.intro (by decide) (by decide)) (by decide) rfl rfl rfl (Nat.le_of_ble_eq_true rfl) (Nat.le_of_ble_eq_true rfl) (Nat.le_refl 411) (Nat.le_refl 411) zob_34 (cTap_at (by (try simp only [zup_e]); grind)) ?_
      rintro rr h' ⟨rfl, rfl⟩ -
      refine zb_iret bkRea_afterLetter_41 bdRea_afterLetter_73 rfl (x := t + 1) (h' := zN (zup (zup (zup sg 318 (sg 317 2) (rTp sg t)) 319 ((zup sg 318 (sg 317 2) (rTp sg t)) 317 2) ((zup sg 318 (sg 317 2) (rTp sg t)) 321 ((zup sg 318 (sg 317 2) (rTp sg t)) 317 6))) 317 2 (((zup (zup sg 318 (sg 317 2) (rTp sg t)) 319 ((zup sg 318 (sg 317 2) (rTp sg t)) 317 2) ((zup sg 318 (sg 317 2) (rTp sg t)) 321 ((zup sg 318 (sg 317 2) (rTp sg t)) 317 6))) 317 2) + 1))) (Ps := [zIn (zN sg) 318 0 (sg 317 2), zOb (zN (zup sg 318 (sg 317 2) (rTp sg t))) 317 4 ∧ (zN (zup sg 318 (sg 317 2) (rTp sg t))).2.2 317 1 = true, zOb (zN (zup sg 318 (sg 317 2) (rTp sg t))) 317 4, zOb (zN (zup sg 318 (sg 317 2) (rTp sg t))) 317 4 ∧ (zN (zup sg 318 (sg 317 2) (rTp sg t))).2.2 317 5 = true, zOb (zN (zup sg 318 (sg 317 2) (rTp sg t))) 317 4, zInL (zN (zup sg 318 (sg 317 2) (rTp sg t))) 321 ((zup sg 318 (sg 317 2) (rTp sg t)) 317 6), zIn (zN (zup sg 318 (sg 317 2) (rTp sg t))) 319 0 ((zup sg 318 (sg 317 2) (rTp sg t)) 317 2), zOb (zN (zup (zup sg 318 (sg 317 2) (rTp sg t)) 319 ((zup sg 318 (sg 317 2) (rTp sg t)) 317 2) ((zup sg 318 (sg 317 2) (rTp sg t)) 321 ((zup sg 318 (sg 317 2) (rTp sg t)) 317 6)))) 317 4, zOb (zN (zup (zup sg 318 (sg 317 2) (rTp sg t)) 319 ((zup sg 318 (sg 317 2) (rTp sg t)) 317 2) ((zup sg 318 (sg 317 2) (rTp sg t)) 321 ((zup sg 318 (sg 317 2) (rTp sg t)) 317 6)))) 317 4]) rfl (zA (zin_318 (i := sg 317 2) (by (try simp only [zup_e]); grind) (by (try simp only [zup_e]); grind)) (zA ⟨zob_317, rfl⟩ (zA zob_317 (zA ⟨zob_317, rfl⟩ (zA zob_317 (zA (zinL_321 (i := (zup sg 318 (sg 317 2) (rTp sg t)) 317 6) (by (try simp only [zup_e]); grind) (by (try simp only [zup_e]); grind)) (zA (zin_319 (i := (zup sg 318 (sg 317 2) (rTp sg t)) 317 2) (by (try simp only [zup_e]); grind) (by (try simp only [zup_e]); grind)) (zA zob_317 (zA zob_317 trivial))))))))) rfl ?_
      have hg : rG sg t = true := by unfold rG; grind
      exact ⟨by unfold rLtA; simp [hg], by unfold rLtH; simp [hg, rLp, zup_e, rTp]⟩
    · skip
      refine zb_iret bkRea_afterLetter_21 bdRea_afterLetter_27 rfl (x := t) (h' := zN (zup sg 317 3 t)) (Ps := [zOb (zN sg) 317 4]) rfl (zA zob_317 trivial) rfl ?_
      have hg : rG sg t = false := by unfold rG; grind
      exact ⟨by unfold rLtA; simp [hg], by unfold rLtH; simp [hg]⟩
theorem bkRea_afterMark_0 : zBk mRea_afterMark 0 [(1, 1, 1, 0, 0), (1, 2, 0, 0, 0), (0, 0, 0, 0, 1), (4, 0, 0, 0, 0)] = some 4 := by decide +kernel
theorem bkRea_afterMark_7 : zBk mRea_afterMark 7 [(0, 0, 0, 0, 47)] = some 9 := by decide +kernel
theorem bkRea_afterMark_16 : zBk mRea_afterMark 16 [(0, 0, 0, 0, 0), (2, 3, 0, 0, 0), (1, 3, 0, 0, 0)] = some 19 := by decide +kernel
theorem bkRea_afterMark_28 : zBk mRea_afterMark 28 [(1, 2, 0, 0, 0), (0, 0, 0, 0, 1), (4, 0, 0, 0, 0), (2, 4, 0, 0, 0), (1, 1, 1, 0, 0), (1, 4, 0, 0, 0)] = some 36 := by decide +kernel
theorem bkRea_afterMark_39 : zBk mRea_afterMark 39 [] = some 39 := by decide +kernel
theorem bkRea_afterMark_42 : zBk mRea_afterMark 42 [(2, 5, 0, 0, 0), (1, 5, 0, 0, 0), (0, 0, 0, 0, -1)] = some 47 := by decide +kernel
theorem bkRea_afterMark_59 : zBk mRea_afterMark 59 [(3, 4, 0, 0, 1), (0, 0, 0, 0, 1), (2, 6, 0, 0, 0), (1, 3, 0, 0, 0)] = some 66 := by decide +kernel
theorem bkRea_afterMark_69 : zBk mRea_afterMark 69 [(1, 5, 0, 0, 0), (0, 0, 0, 0, 4)] = some 72 := by decide +kernel
theorem bkRea_afterMark_119 : zBk mRea_afterMark 119 [(1, 1, 1, 0, 0), (1, 4, 0, 0, 0)] = some 122 := by decide +kernel
theorem bkRea_afterMark_125 : zBk mRea_afterMark 125 [(0, 0, 0, 0, 93)] = some 127 := by decide +kernel
theorem bkRea_afterMark_139 : zBk mRea_afterMark 139 [(1, 3, 0, 0, 0)] = some 140 := by decide +kernel
theorem bkRea_afterMark_155 : zBk mRea_afterMark 155 [(1, 0, 1, 0, 0), (1, 5, 0, 0, 0), (1, 6, 0, 0, 0)] = some 160 := by decide +kernel
theorem bkRea_afterMark_163 : zBk mRea_afterMark 163 [] = some 163 := by decide +kernel
theorem bkRea_afterMark_171 : zBk mRea_afterMark 171 [(1, 4, 0, 0, 0), (0, 0, 0, 0, 1), (4, 0, 0, 0, 0)] = some 175 := by decide +kernel
theorem bkRea_afterMark_166 : zBk mRea_afterMark 166 [(1, 0, 1, 0, 0), (1, 2, 0, 0, 0), (6, 4, 3, 0, 3), (1, 4, 0, 0, 0), (0, 0, 0, 0, 1), (4, 0, 0, 0, 0)] = some 175 := by decide +kernel
theorem bkRea_afterMark_130 : zBk mRea_afterMark 130 [(1, 0, 1, 0, 0), (1, 4, 0, 0, 0), (6, 4, 3, 0, 3), (1, 4, 0, 0, 0)] = some 138 := by decide +kernel
theorem bkRea_afterMark_75 : zBk mRea_afterMark 75 [(1, 1, 1, 0, 0), (1, 4, 0, 0, 0)] = some 78 := by decide +kernel
theorem bkRea_afterMark_81 : zBk mRea_afterMark 81 [(0, 0, 0, 0, 48), (4, 1, 0, 0, 0), (2, 6, 0, 0, 0), (1, 6, 0, 0, 0), (1, 5, 0, 0, 0), (0, 0, 0, 0, 4)] = some 91 := by decide +kernel
theorem bkRea_afterMark_99 : zBk mRea_afterMark 99 [(0, 0, 0, 0, 9)] = some 101 := by decide +kernel
theorem bkRea_afterMark_104 : zBk mRea_afterMark 104 [] = some 104 := by decide +kernel
theorem bkRea_afterMark_116 : zBk mRea_afterMark 116 [(3, 4, 0, 0, 1), (1, 1, 1, 0, 0), (1, 4, 0, 0, 0)] = some 122 := by decide +kernel
theorem bkRea_afterMark_107 : zBk mRea_afterMark 107 [(1, 0, 1, 0, 0), (1, 4, 0, 0, 0), (6, 4, 3, 0, 3), (1, 4, 0, 0, 0)] = some 115 := by decide +kernel
theorem bkRea_afterMark_94 : zBk mRea_afterMark 94 [(0, 0, 0, 0, 7), (22, 101, 0, 0, 0)] = some 101 := by decide +kernel
theorem bkRea_afterMark_50 : zBk mRea_afterMark 50 [(1, 0, 1, 0, 0), (1, 4, 0, 0, 0), (6, 4, 3, 0, 3), (1, 4, 0, 0, 0)] = some 58 := by decide +kernel
theorem bkRea_afterMark_12 : zBk mRea_afterMark 12 [(0, 0, 0, 0, 1), (22, 17, 0, 0, 0), (2, 3, 0, 0, 0), (1, 3, 0, 0, 0)] = some 19 := by decide +kernel
theorem bkRea_afterMark_22 : zBk mRea_afterMark 22 [(1, 2, 0, 0, 0), (0, 0, 0, 0, 2), (4, 0, 0, 0, 0), (22, 31, 0, 0, 0), (2, 4, 0, 0, 0), (1, 1, 1, 0, 0), (1, 4, 0, 0, 0)] = some 36 := by decide +kernel
theorem bkRea_afterMark_143 : zBk mRea_afterMark 143 [(1, 0, 1, 0, 0), (1, 5, 0, 0, 0)] = some 146 := by decide +kernel
theorem bkRea_afterMark_149 : zBk mRea_afterMark 149 [] = some 149 := by decide +kernel
theorem bkRea_afterMark_152 : zBk mRea_afterMark 152 [(22, 171, 0, 0, 0), (1, 4, 0, 0, 0), (0, 0, 0, 0, 1), (4, 0, 0, 0, 0)] = some 175 := by decide +kernel
theorem bdRea_afterMark_4 : decode mRea_afterMark.2.2.1 4 = .ok (.invokevirtual 41, 3) := by decide +kernel
theorem bdRea_afterMark_9 : decode mRea_afterMark.2.2.1 9 = .ok (.if_icmp .ne 7, 3) := by decide +kernel
theorem bdRea_afterMark_19 : decode mRea_afterMark.2.2.1 19 = .ok (.ifCond .eq 9, 3) := by decide +kernel
theorem bdRea_afterMark_36 : decode mRea_afterMark.2.2.1 36 = .ok (.invokevirtual 41, 3) := by decide +kernel
theorem bdRea_afterMark_39 : decode mRea_afterMark.2.2.1 39 = .ok (.invokestatic 56, 3) := by decide +kernel
theorem bdRea_afterMark_47 : decode mRea_afterMark.2.2.1 47 = .ok (.if_icmp .ne 12, 3) := by decide +kernel
theorem bdRea_afterMark_58 : decode mRea_afterMark.2.2.1 58 = .ok (.ireturn, 1) := by decide +kernel
theorem bdRea_afterMark_66 : decode mRea_afterMark.2.2.1 66 = .ok (.ifCond .ne 53, 3) := by decide +kernel
theorem bdRea_afterMark_72 : decode mRea_afterMark.2.2.1 72 = .ok (.if_icmp .lt 47, 3) := by decide +kernel
theorem bdRea_afterMark_78 : decode mRea_afterMark.2.2.1 78 = .ok (.invokevirtual 41, 3) := by decide +kernel
theorem bdRea_afterMark_91 : decode mRea_afterMark.2.2.1 91 = .ok (.if_icmp .ne 8, 3) := by decide +kernel
theorem bdRea_afterMark_101 : decode mRea_afterMark.2.2.1 101 = .ok (.invokestatic 59, 3) := by decide +kernel
theorem bdRea_afterMark_104 : decode mRea_afterMark.2.2.1 104 = .ok (.ifCond .ne 12, 3) := by decide +kernel
theorem bdRea_afterMark_115 : decode mRea_afterMark.2.2.1 115 = .ok (.ireturn, 1) := by decide +kernel
theorem bdRea_afterMark_122 : decode mRea_afterMark.2.2.1 122 = .ok (.invokevirtual 41, 3) := by decide +kernel
theorem bdRea_afterMark_127 : decode mRea_afterMark.2.2.1 127 = .ok (.if_icmp .eq 12, 3) := by decide +kernel
theorem bdRea_afterMark_138 : decode mRea_afterMark.2.2.1 138 = .ok (.ireturn, 1) := by decide +kernel
theorem bdRea_afterMark_140 : decode mRea_afterMark.2.2.1 140 = .ok (.ifCond .eq 15, 3) := by decide +kernel
theorem bdRea_afterMark_146 : decode mRea_afterMark.2.2.1 146 = .ok (.invokevirtual 63, 3) := by decide +kernel
theorem bdRea_afterMark_149 : decode mRea_afterMark.2.2.1 149 = .ok (.ifCond .eq 17, 3) := by decide +kernel
theorem bdRea_afterMark_160 : decode mRea_afterMark.2.2.1 160 = .ok (.invokevirtual 66, 3) := by decide +kernel
theorem bdRea_afterMark_163 : decode mRea_afterMark.2.2.1 163 = .ok (.ifCond .ne 8, 3) := by decide +kernel
theorem bdRea_afterMark_175 : decode mRea_afterMark.2.2.1 175 = .ok (.ireturn, 1) := by decide +kernel
theorem cRea_afterMark {sg : zSig} {t : Int32} (hm : okM sg) (l0 : 0 ≤ sg 34 1) (l1 : sg 34 1 ≤ 400) (n0 : 0 ≤ sg 317 2) (n1 : sg 317 2 ≤ 200) (k0 : 0 ≤ sg 317 6) (k1 : sg 317 6 ≤ 8) (t0 : 0 ≤ t) (t1 : t < sg 34 1) : zG mRea_afterMark 411 (fun rr h' => rr = some (.int (rMkA sg t)) ∧ h' = zN (rMkH sg t)) 0 [(0, .ref 317), (1, .ref 34), (2, .int t)] [] (zN sg) := by
  refine zG_run bkRea_afterMark_0 (lv' := [(0, .ref 317), (1, .ref 34), (2, .int t)]) (st' := [.int (t + 1), .ref 34]) (h' := zN sg) (Ps := []) rfl trivial ?_
  refine zG_callv (a := 34) (c := 7) (As := [.int (t + 1)]) (rest := []) (N2 := 411) bdRea_afterMark_4 okTap_at lk4_41 (And.intro (by decide) (by decide)) (by decide) rfl rfl rfl (Nat.le_of_ble_eq_true rfl) (Nat.le_of_ble_eq_true rfl) (Nat.le_refl 411) (Nat.le_refl 411) zob_34 (cTap_at (by lia)) ?_
  rintro rr h' ⟨rfl, rfl⟩ -
  refine zb_icne (tgt := 16) bkRea_afterMark_7 bdRea_afterMark_9 (by decide) (lv' := [(0, .ref 317), (1, .ref 34), (2, .int t)]) (st' := []) (h' := zN sg) (x := rTp sg (t + 1)) (y := 47) (Ps := []) rfl trivial (fun c1 => ?_) (fun c1 => ?_)
  · skip
    refine zb_ifeq (tgt := 28) bkRea_afterMark_16 bdRea_afterMark_19 (by decide) (lv' := [(3, .int 0), (0, .ref 317), (1, .ref 34), (2, .int t)]) (st' := []) (h' := zN sg) (x := 0) (Ps := []) rfl trivial (fun c2 => ?_) (fun c2 => ?_)
    · skip
      refine zG_run bkRea_afterMark_28 (lv' := [(4, .int (t + 1)), (3, .int 0), (0, .ref 317), (1, .ref 34), (2, .int t)]) (st' := [.int (t + 1), .ref 34]) (h' := zN sg) (Ps := []) rfl trivial ?_
      refine zG_callv (a := 34) (c := 7) (As := [.int (t + 1)]) (rest := []) (N2 := 411) bdRea_afterMark_36 okTap_at lk4_41 (And.intro (by decide) (by decide)) (by decide) rfl rfl rfl (Nat.le_of_ble_eq_true rfl) (Nat.le_of_ble_eq_true rfl) (Nat.le_refl 411) (Nat.le_refl 411) zob_34 (cTap_at (by lia)) ?_
      rintro rr h' ⟨rfl, rfl⟩ -
      refine zG_run bkRea_afterMark_39 (lv' := [(4, .int (t + 1)), (3, .int 0), (0, .ref 317), (1, .ref 34), (2, .int t)]) (st' := [.int (rTp sg (t + 1))]) (h' := zN sg) (Ps := []) rfl trivial ?_
      refine zG_calls (As := [.int (rTp sg (t + 1))]) (rest := []) (N2 := 411) bdRea_afterMark_39 okRea_kindOf lk4_56 (And.intro (by decide) (by decide)) rfl rfl (Nat.le_of_ble_eq_true rfl) (Nat.le_of_ble_eq_true rfl) (Nat.le_refl 411) (Nat.le_refl 411) (cRea_kindOf hm) ?_
      rintro rr h' ⟨rfl, rfl⟩ -
      refine zb_icne (tgt := 59) bkRea_afterMark_42 bdRea_afterMark_47 (by decide) (lv' := [(5, .int (fKd (rTp sg (t + 1)))), (4, .int (t + 1)), (3, .int 0), (0, .ref 317), (1, .ref 34), (2, .int t)]) (st' := []) (h' := zN sg) (x := fKd (rTp sg (t + 1))) (y := (-1)) (Ps := []) rfl trivial (fun c3 => ?_) (fun c3 => ?_)
      · skip
        refine zb_ifne (tgt := 119) bkRea_afterMark_59 bdRea_afterMark_66 (by decide) (lv' := [(6, .int 1), (4, .int ((t + 1) + 1)), (5, .int (fKd (rTp sg (t + 1)))), (3, .int 0), (0, .ref 317), (1, .ref 34), (2, .int t)]) (st' := []) (h' := zN sg) (x := 0) (Ps := []) rfl trivial (fun c4 => ?_) (fun c4 => ?_)
        · exact absurd c4 (by decide)
        · skip
          refine zb_iclt (tgt := 119) bkRea_afterMark_69 bdRea_afterMark_72 (by decide) (lv' := [(6, .int 1), (4, .int ((t + 1) + 1)), (5, .int (fKd (rTp sg (t + 1)))), (3, .int 0), (0, .ref 317), (1, .ref 34), (2, .int t)]) (st' := []) (h' := zN sg) (x := fKd (rTp sg (t + 1))) (y := 4) (Ps := []) rfl trivial (fun c5 => ?_) (fun c5 => ?_)
          · skip
            refine zG_run bkRea_afterMark_119 (lv' := [(6, .int 1), (4, .int ((t + 1) + 1)), (5, .int (fKd (rTp sg (t + 1)))), (3, .int 0), (0, .ref 317), (1, .ref 34), (2, .int t)]) (st' := [.int ((t + 1) + 1), .ref 34]) (h' := zN sg) (Ps := []) rfl trivial ?_
            refine zG_callv (a := 34) (c := 7) (As := [.int ((t + 1) + 1)]) (rest := []) (N2 := 411) bdRea_afterMark_122 okTap_at lk4_41 (And.intro (by decide) (by decide)) (by decide) rfl rfl rfl (Nat.le_of_ble_eq_true rfl) (Nat.le_of_ble_eq_true rfl) (Nat.le_refl 411) (Nat.le_refl 411) zob_34 (cTap_at (by lia)) ?_
            rintro rr h' ⟨rfl, rfl⟩ -
            refine zb_iceq (tgt := 139) bkRea_afterMark_125 bdRea_afterMark_127 (by decide) (lv' := [(6, .int 1), (4, .int ((t + 1) + 1)), (5, .int (fKd (rTp sg (t + 1)))), (3, .int 0), (0, .ref 317), (1, .ref 34), (2, .int t)]) (st' := []) (h' := zN sg) (x := rTp sg ((t + 1) + 1)) (y := 93) (Ps := []) rfl trivial (fun c6 => ?_) (fun c6 => ?_)
            · skip
              refine zb_ifeq (tgt := 155) bkRea_afterMark_139 bdRea_afterMark_140 (by decide) (lv' := [(6, .int 1), (4, .int ((t + 1) + 1)), (5, .int (fKd (rTp sg (t + 1)))), (3, .int 0), (0, .ref 317), (1, .ref 34), (2, .int t)]) (st' := []) (h' := zN sg) (x := 0) (Ps := []) rfl trivial (fun c7 => ?_) (fun c7 => ?_)
              · skip
                refine zG_run bkRea_afterMark_155 (lv' := [(6, .int 1), (4, .int ((t + 1) + 1)), (5, .int (fKd (rTp sg (t + 1)))), (3, .int 0), (0, .ref 317), (1, .ref 34), (2, .int t)]) (st' := [.int 1, .int (fKd (rTp sg (t + 1))), .ref 317]) (h' := zN sg) (Ps := []) rfl trivial ?_
                refine zG_callv (a := 317) (c := 4) (As := [.int (fKd (rTp sg (t + 1))), .int 1]) (rest := []) (N2 := 411) bdRea_afterMark_160 okRea_openMark lk4_66 (And.intro (by decide) (by decide)) (by decide) rfl rfl rfl (Nat.le_of_ble_eq_true rfl) (Nat.le_of_ble_eq_true rfl) (Nat.le_refl 411) (Nat.le_refl 411) zob_317 (cRea_openMark k0 k1) ?_
                rintro rr h' ⟨rfl, rfl⟩ -
                refine zb_ifne (tgt := 171) bkRea_afterMark_163 bdRea_afterMark_163 (by decide) (lv' := [(6, .int 1), (4, .int ((t + 1) + 1)), (5, .int (fKd (rTp sg (t + 1)))), (3, .int 0), (0, .ref 317), (1, .ref 34), (2, .int t)]) (st' := []) (h' := zN (if 8 ≤ sg 317 6 then sg else rOp sg (fKd (rTp sg (t + 1))) 1)) (x := if 8 ≤ sg 317 6 then 0 else 1) (Ps := []) rfl trivial (fun c8 => ?_) (fun c8 => ?_)
                · skip
                  refine zb_iret bkRea_afterMark_171 bdRea_afterMark_175 rfl (x := ((t + 1) + 1) + 1) (h' := zN (if 8 ≤ sg 317 6 then sg else rOp sg (fKd (rTp sg (t + 1))) 1)) (Ps := []) rfl trivial rfl ?_
                  have e1 : ((t + 1) + 1) + 1 = rMkA sg t := by simp only [rMkA, rBv, rA2, rVl, rK, rA1]; grind
                  have e2 : (if 8 ≤ sg 317 6 then sg else rOp sg (fKd (rTp sg (t + 1))) 1) = rMkH sg t := by simp only [rMkH, rMkF, rBv, rBs, rA2, rVl, rK, rA1]; grind (splits := 30)
                  exact ⟨by rw [e1], by rw [e2]⟩
                · skip
                  refine zb_iret bkRea_afterMark_166 bdRea_afterMark_175 rfl (x := ((t + 1) + 1) + 1) (h' := zN (zup (if 8 ≤ sg 317 6 then sg else rOp sg (fKd (rTp sg (t + 1))) 1) 317 3 t)) (Ps := [zOb (zN (if 8 ≤ sg 317 6 then sg else rOp sg (fKd (rTp sg (t + 1))) 1)) 317 4]) rfl (zA zob_317 trivial) rfl ?_
                  have e1 : ((t + 1) + 1) + 1 = rMkA sg t := by simp only [rMkA, rBv, rA2, rVl, rK, rA1]; grind
                  have e2 : (zup (if 8 ≤ sg 317 6 then sg else rOp sg (fKd (rTp sg (t + 1))) 1) 317 3 t) = rMkH sg t := by simp only [rMkH, rMkF, rBv, rBs, rA2, rVl, rK, rA1]; grind (splits := 30)
                  exact ⟨by rw [e1], by rw [e2]⟩
              · exact absurd c7 (by decide)
            · skip
              refine zb_iret bkRea_afterMark_130 bdRea_afterMark_138 rfl (x := (t + 1) + 1) (h' := zN (zup sg 317 3 ((t + 1) + 1))) (Ps := [zOb (zN sg) 317 4]) rfl (zA zob_317 trivial) rfl ?_
              have e1 : (t + 1) + 1 = rMkA sg t := by simp only [rMkA, rBv, rA2, rVl, rK, rA1]; grind
              have e2 : (zup sg 317 3 ((t + 1) + 1)) = rMkH sg t := by simp only [rMkH, rMkF, rBv, rBs, rA2, rVl, rK, rA1]; grind (splits := 30)
              exact ⟨by rw [e1], by rw [e2]⟩
          · skip
            refine zG_run bkRea_afterMark_75 (lv' := [(6, .int 1), (4, .int ((t + 1) + 1)), (5, .int (fKd (rTp sg (t + 1)))), (3, .int 0), (0, .ref 317), (1, .ref 34), (2, .int t)]) (st' := [.int ((t + 1) + 1), .ref 34]) (h' := zN sg) (Ps := []) rfl trivial ?_
            refine zG_callv (a := 34) (c := 7) (As := [.int ((t + 1) + 1)]) (rest := []) (N2 := 411) bdRea_afterMark_78 okTap_at lk4_41 (And.intro (by decide) (by decide)) (by decide) rfl rfl rfl (Nat.le_of_ble_eq_true rfl) (Nat.le_of_ble_eq_true rfl) (Nat.le_refl 411) (Nat.le_refl 411) zob_34 (cTap_at (by lia)) ?_
            rintro rr h' ⟨rfl, rfl⟩ -
            refine zb_icne (tgt := 99) bkRea_afterMark_81 bdRea_afterMark_91 (by decide) (lv' := [(6, .int ((rTp sg ((t + 1) + 1)) - 48)), (4, .int ((t + 1) + 1)), (5, .int (fKd (rTp sg (t + 1)))), (3, .int 0), (0, .ref 317), (1, .ref 34), (2, .int t)]) (st' := [.int ((rTp sg ((t + 1) + 1)) - 48)]) (h' := zN sg) (x := fKd (rTp sg (t + 1))) (y := 4) (Ps := []) rfl trivial (fun c9 => ?_) (fun c9 => ?_)
            · skip
              refine zG_run bkRea_afterMark_99 (lv' := [(6, .int ((rTp sg ((t + 1) + 1)) - 48)), (4, .int ((t + 1) + 1)), (5, .int (fKd (rTp sg (t + 1)))), (3, .int 0), (0, .ref 317), (1, .ref 34), (2, .int t)]) (st' := [.int 9, .int ((rTp sg ((t + 1) + 1)) - 48)]) (h' := zN sg) (Ps := []) rfl trivial ?_
              refine zG_callsN (As := [.int ((rTp sg ((t + 1) + 1)) - 48), .int 9]) (rest := []) (N2 := 411) bdRea_afterMark_101 okSR_isWithin lk4_59 (And.intro (by decide) (by decide)) rfl rfl (Nat.le_of_ble_eq_true rfl) (Nat.le_of_ble_eq_true rfl) (Nat.le_refl 411) (Nat.le_refl 411) cSR_isWithin ?_
              rintro rr h' ⟨rfl, rfl⟩ -
              refine zb_ifne (tgt := 116) bkRea_afterMark_104 bdRea_afterMark_104 (by decide) (lv' := [(6, .int ((rTp sg ((t + 1) + 1)) - 48)), (4, .int ((t + 1) + 1)), (5, .int (fKd (rTp sg (t + 1)))), (3, .int 0), (0, .ref 317), (1, .ref 34), (2, .int t)]) (st' := []) (h' := zN sg) (x := if 0 ≤ ((rTp sg ((t + 1) + 1)) - 48) ∧ ((rTp sg ((t + 1) + 1)) - 48) ≤ 9 then 1 else 0) (Ps := []) rfl trivial (fun c10 => ?_) (fun c10 => ?_)
              · skip
                refine zG_run bkRea_afterMark_116 (lv' := [(4, .int (((t + 1) + 1) + 1)), (6, .int ((rTp sg ((t + 1) + 1)) - 48)), (5, .int (fKd (rTp sg (t + 1)))), (3, .int 0), (0, .ref 317), (1, .ref 34), (2, .int t)]) (st' := [.int (((t + 1) + 1) + 1), .ref 34]) (h' := zN sg) (Ps := []) rfl trivial ?_
                refine zG_callv (a := 34) (c := 7) (As := [.int (((t + 1) + 1) + 1)]) (rest := []) (N2 := 411) bdRea_afterMark_122 okTap_at lk4_41 (And.intro (by decide) (by decide)) (by decide) rfl rfl rfl (Nat.le_of_ble_eq_true rfl) (Nat.le_of_ble_eq_true rfl) (Nat.le_refl 411) (Nat.le_refl 411) zob_34 (cTap_at (by lia)) ?_
                rintro rr h' ⟨rfl, rfl⟩ -
                refine zb_iceq (tgt := 139) bkRea_afterMark_125 bdRea_afterMark_127 (by decide) (lv' := [(4, .int (((t + 1) + 1) + 1)), (6, .int ((rTp sg ((t + 1) + 1)) - 48)), (5, .int (fKd (rTp sg (t + 1)))), (3, .int 0), (0, .ref 317), (1, .ref 34), (2, .int t)]) (st' := []) (h' := zN sg) (x := rTp sg (((t + 1) + 1) + 1)) (y := 93) (Ps := []) rfl trivial (fun c11 => ?_) (fun c11 => ?_)
                · skip
                  refine zb_ifeq (tgt := 155) bkRea_afterMark_139 bdRea_afterMark_140 (by decide) (lv' := [(4, .int (((t + 1) + 1) + 1)), (6, .int ((rTp sg ((t + 1) + 1)) - 48)), (5, .int (fKd (rTp sg (t + 1)))), (3, .int 0), (0, .ref 317), (1, .ref 34), (2, .int t)]) (st' := []) (h' := zN sg) (x := 0) (Ps := []) rfl trivial (fun c12 => ?_) (fun c12 => ?_)
                  · skip
                    refine zG_run bkRea_afterMark_155 (lv' := [(4, .int (((t + 1) + 1) + 1)), (6, .int ((rTp sg ((t + 1) + 1)) - 48)), (5, .int (fKd (rTp sg (t + 1)))), (3, .int 0), (0, .ref 317), (1, .ref 34), (2, .int t)]) (st' := [.int ((rTp sg ((t + 1) + 1)) - 48), .int (fKd (rTp sg (t + 1))), .ref 317]) (h' := zN sg) (Ps := []) rfl trivial ?_
                    refine zG_callv (a := 317) (c := 4) (As := [.int (fKd (rTp sg (t + 1))), .int ((rTp sg ((t + 1) + 1)) - 48)]) (rest := []) (N2 := 411) bdRea_afterMark_160 okRea_openMark lk4_66 (And.intro (by decide) (by decide)) (by decide) rfl rfl rfl (Nat.le_of_ble_eq_true rfl) (Nat.le_of_ble_eq_true rfl) (Nat.le_refl 411) (Nat.le_refl 411) zob_317 (cRea_openMark k0 k1) ?_
                    rintro rr h' ⟨rfl, rfl⟩ -
                    refine zb_ifne (tgt := 171) bkRea_afterMark_163 bdRea_afterMark_163 (by decide) (lv' := [(4, .int (((t + 1) + 1) + 1)), (6, .int ((rTp sg ((t + 1) + 1)) - 48)), (5, .int (fKd (rTp sg (t + 1)))), (3, .int 0), (0, .ref 317), (1, .ref 34), (2, .int t)]) (st' := []) (h' := zN (if 8 ≤ sg 317 6 then sg else rOp sg (fKd (rTp sg (t + 1))) ((rTp sg ((t + 1) + 1)) - 48))) (x := if 8 ≤ sg 317 6 then 0 else 1) (Ps := []) rfl trivial (fun c13 => ?_) (fun c13 => ?_)
                    · skip
                      refine zb_iret bkRea_afterMark_171 bdRea_afterMark_175 rfl (x := (((t + 1) + 1) + 1) + 1) (h' := zN (if 8 ≤ sg 317 6 then sg else rOp sg (fKd (rTp sg (t + 1))) ((rTp sg ((t + 1) + 1)) - 48))) (Ps := []) rfl trivial rfl ?_
                      have e1 : (((t + 1) + 1) + 1) + 1 = rMkA sg t := by simp only [rMkA, rBv, rA2, rVl, rK, rA1]; grind
                      have e2 : (if 8 ≤ sg 317 6 then sg else rOp sg (fKd (rTp sg (t + 1))) ((rTp sg ((t + 1) + 1)) - 48)) = rMkH sg t := by simp only [rMkH, rMkF, rBv, rBs, rA2, rVl, rK, rA1]; grind (splits := 30)
                      exact ⟨by rw [e1], by rw [e2]⟩
                    · skip
                      refine zb_iret bkRea_afterMark_166 bdRea_afterMark_175 rfl (x := (((t + 1) + 1) + 1) + 1) (h' := zN (zup (if 8 ≤ sg 317 6 then sg else rOp sg (fKd (rTp sg (t + 1))) ((rTp sg ((t + 1) + 1)) - 48)) 317 3 t)) (Ps := [zOb (zN (if 8 ≤ sg 317 6 then sg else rOp sg (fKd (rTp sg (t + 1))) ((rTp sg ((t + 1) + 1)) - 48))) 317 4]) rfl (zA zob_317 trivial) rfl ?_
                      have e1 : (((t + 1) + 1) + 1) + 1 = rMkA sg t := by simp only [rMkA, rBv, rA2, rVl, rK, rA1]; grind
                      have e2 : (zup (if 8 ≤ sg 317 6 then sg else rOp sg (fKd (rTp sg (t + 1))) ((rTp sg ((t + 1) + 1)) - 48)) 317 3 t) = rMkH sg t := by simp only [rMkH, rMkF, rBv, rBs, rA2, rVl, rK, rA1]; grind (splits := 30)
                      exact ⟨by rw [e1], by rw [e2]⟩
                  · exact absurd c12 (by decide)
                · skip
                  refine zb_iret bkRea_afterMark_130 bdRea_afterMark_138 rfl (x := ((t + 1) + 1) + 1) (h' := zN (zup sg 317 3 (((t + 1) + 1) + 1))) (Ps := [zOb (zN sg) 317 4]) rfl (zA zob_317 trivial) rfl ?_
                  have e1 : ((t + 1) + 1) + 1 = rMkA sg t := by simp only [rMkA, rBv, rA2, rVl, rK, rA1]; grind
                  have e2 : (zup sg 317 3 (((t + 1) + 1) + 1)) = rMkH sg t := by simp only [rMkH, rMkF, rBv, rBs, rA2, rVl, rK, rA1]; grind (splits := 30)
                  exact ⟨by rw [e1], by rw [e2]⟩
              · skip
                refine zb_iret bkRea_afterMark_107 bdRea_afterMark_115 rfl (x := (t + 1) + 1) (h' := zN (zup sg 317 3 ((t + 1) + 1))) (Ps := [zOb (zN sg) 317 4]) rfl (zA zob_317 trivial) rfl ?_
                have e1 : (t + 1) + 1 = rMkA sg t := by simp only [rMkA, rBv, rA2, rVl, rK, rA1]; grind
                have e2 : (zup sg 317 3 ((t + 1) + 1)) = rMkH sg t := by simp only [rMkH, rMkF, rBv, rBs, rA2, rVl, rK, rA1]; grind (splits := 30)
                exact ⟨by rw [e1], by rw [e2]⟩
            · skip
              refine zG_run bkRea_afterMark_94 (lv' := [(6, .int ((rTp sg ((t + 1) + 1)) - 48)), (4, .int ((t + 1) + 1)), (5, .int (fKd (rTp sg (t + 1)))), (3, .int 0), (0, .ref 317), (1, .ref 34), (2, .int t)]) (st' := [.int 7, .int ((rTp sg ((t + 1) + 1)) - 48)]) (h' := zN sg) (Ps := []) rfl trivial ?_
              refine zG_callsN (As := [.int ((rTp sg ((t + 1) + 1)) - 48), .int 7]) (rest := []) (N2 := 411) bdRea_afterMark_101 okSR_isWithin lk4_59 (And.intro (by decide) (by decide)) rfl rfl (Nat.le_of_ble_eq_true rfl) (Nat.le_of_ble_eq_true rfl) (Nat.le_refl 411) (Nat.le_refl 411) cSR_isWithin ?_
              rintro rr h' ⟨rfl, rfl⟩ -
              refine zb_ifne (tgt := 116) bkRea_afterMark_104 bdRea_afterMark_104 (by decide) (lv' := [(6, .int ((rTp sg ((t + 1) + 1)) - 48)), (4, .int ((t + 1) + 1)), (5, .int (fKd (rTp sg (t + 1)))), (3, .int 0), (0, .ref 317), (1, .ref 34), (2, .int t)]) (st' := []) (h' := zN sg) (x := if 0 ≤ ((rTp sg ((t + 1) + 1)) - 48) ∧ ((rTp sg ((t + 1) + 1)) - 48) ≤ 7 then 1 else 0) (Ps := []) rfl trivial (fun c14 => ?_) (fun c14 => ?_)
              · skip
                refine zG_run bkRea_afterMark_116 (lv' := [(4, .int (((t + 1) + 1) + 1)), (6, .int ((rTp sg ((t + 1) + 1)) - 48)), (5, .int (fKd (rTp sg (t + 1)))), (3, .int 0), (0, .ref 317), (1, .ref 34), (2, .int t)]) (st' := [.int (((t + 1) + 1) + 1), .ref 34]) (h' := zN sg) (Ps := []) rfl trivial ?_
                refine zG_callv (a := 34) (c := 7) (As := [.int (((t + 1) + 1) + 1)]) (rest := []) (N2 := 411) bdRea_afterMark_122 okTap_at lk4_41 (And.intro (by decide) (by decide)) (by decide) rfl rfl rfl (Nat.le_of_ble_eq_true rfl) (Nat.le_of_ble_eq_true rfl) (Nat.le_refl 411) (Nat.le_refl 411) zob_34 (cTap_at (by lia)) ?_
                rintro rr h' ⟨rfl, rfl⟩ -
                refine zb_iceq (tgt := 139) bkRea_afterMark_125 bdRea_afterMark_127 (by decide) (lv' := [(4, .int (((t + 1) + 1) + 1)), (6, .int ((rTp sg ((t + 1) + 1)) - 48)), (5, .int (fKd (rTp sg (t + 1)))), (3, .int 0), (0, .ref 317), (1, .ref 34), (2, .int t)]) (st' := []) (h' := zN sg) (x := rTp sg (((t + 1) + 1) + 1)) (y := 93) (Ps := []) rfl trivial (fun c15 => ?_) (fun c15 => ?_)
                · skip
                  refine zb_ifeq (tgt := 155) bkRea_afterMark_139 bdRea_afterMark_140 (by decide) (lv' := [(4, .int (((t + 1) + 1) + 1)), (6, .int ((rTp sg ((t + 1) + 1)) - 48)), (5, .int (fKd (rTp sg (t + 1)))), (3, .int 0), (0, .ref 317), (1, .ref 34), (2, .int t)]) (st' := []) (h' := zN sg) (x := 0) (Ps := []) rfl trivial (fun c16 => ?_) (fun c16 => ?_)
                  · skip
                    refine zG_run bkRea_afterMark_155 (lv' := [(4, .int (((t + 1) + 1) + 1)), (6, .int ((rTp sg ((t + 1) + 1)) - 48)), (5, .int (fKd (rTp sg (t + 1)))), (3, .int 0), (0, .ref 317), (1, .ref 34), (2, .int t)]) (st' := [.int ((rTp sg ((t + 1) + 1)) - 48), .int (fKd (rTp sg (t + 1))), .ref 317]) (h' := zN sg) (Ps := []) rfl trivial ?_
                    refine zG_callv (a := 317) (c := 4) (As := [.int (fKd (rTp sg (t + 1))), .int ((rTp sg ((t + 1) + 1)) - 48)]) (rest := []) (N2 := 411) bdRea_afterMark_160 okRea_openMark lk4_66 (And.intro (by decide) (by decide)) (by decide) rfl rfl rfl (Nat.le_of_ble_eq_true rfl) (Nat.le_of_ble_eq_true rfl) (Nat.le_refl 411) (Nat.le_refl 411) zob_317 (cRea_openMark k0 k1) ?_
                    rintro rr h' ⟨rfl, rfl⟩ -
                    refine zb_ifne (tgt := 171) bkRea_afterMark_163 bdRea_afterMark_163 (by decide) (lv' := [(4, .int (((t + 1) + 1) + 1)), (6, .int ((rTp sg ((t + 1) + 1)) - 48)), (5, .int (fKd (rTp sg (t + 1)))), (3, .int 0), (0, .ref 317), (1, .ref 34), (2, .int t)]) (st' := []) (h' := zN (if 8 ≤ sg 317 6 then sg else rOp sg (fKd (rTp sg (t + 1))) ((rTp sg ((t + 1) + 1)) - 48))) (x := if 8 ≤ sg 317 6 then 0 else 1) (Ps := []) rfl trivial (fun c17 => ?_) (fun c17 => ?_)
                    · skip
                      refine zb_iret bkRea_afterMark_171 bdRea_afterMark_175 rfl (x := (((t + 1) + 1) + 1) + 1) (h' := zN (if 8 ≤ sg 317 6 then sg else rOp sg (fKd (rTp sg (t + 1))) ((rTp sg ((t + 1) + 1)) - 48))) (Ps := []) rfl trivial rfl ?_
                      have e1 : (((t + 1) + 1) + 1) + 1 = rMkA sg t := by simp only [rMkA, rBv, rA2, rVl, rK, rA1]; grind
                      have e2 : (if 8 ≤ sg 317 6 then sg else rOp sg (fKd (rTp sg (t + 1))) ((rTp sg ((t + 1) + 1)) - 48)) = rMkH sg t := by simp only [rMkH, rMkF, rBv, rBs, rA2, rVl, rK, rA1]; grind (splits := 30)
                      exact ⟨by rw [e1], by rw [e2]⟩
                    · skip
                      refine zb_iret bkRea_afterMark_166 bdRea_afterMark_175 rfl (x := (((t + 1) + 1) + 1) + 1) (h' := zN (zup (if 8 ≤ sg 317 6 then sg else rOp sg (fKd (rTp sg (t + 1))) ((rTp sg ((t + 1) + 1)) - 48)) 317 3 t)) (Ps := [zOb (zN (if 8 ≤ sg 317 6 then sg else rOp sg (fKd (rTp sg (t + 1))) ((rTp sg ((t + 1) + 1)) - 48))) 317 4]) rfl (zA zob_317 trivial) rfl ?_
                      have e1 : (((t + 1) + 1) + 1) + 1 = rMkA sg t := by simp only [rMkA, rBv, rA2, rVl, rK, rA1]; grind
                      have e2 : (zup (if 8 ≤ sg 317 6 then sg else rOp sg (fKd (rTp sg (t + 1))) ((rTp sg ((t + 1) + 1)) - 48)) 317 3 t) = rMkH sg t := by simp only [rMkH, rMkF, rBv, rBs, rA2, rVl, rK, rA1]; grind (splits := 30)
                      exact ⟨by rw [e1], by rw [e2]⟩
                  · exact absurd c16 (by decide)
                · skip
                  refine zb_iret bkRea_afterMark_130 bdRea_afterMark_138 rfl (x := ((t + 1) + 1) + 1) (h' := zN (zup sg 317 3 (((t + 1) + 1) + 1))) (Ps := [zOb (zN sg) 317 4]) rfl (zA zob_317 trivial) rfl ?_
                  have e1 : ((t + 1) + 1) + 1 = rMkA sg t := by simp only [rMkA, rBv, rA2, rVl, rK, rA1]; grind
                  have e2 : (zup sg 317 3 (((t + 1) + 1) + 1)) = rMkH sg t := by simp only [rMkH, rMkF, rBv, rBs, rA2, rVl, rK, rA1]; grind (splits := 30)
                  exact ⟨by rw [e1], by rw [e2]⟩
              · skip
                refine zb_iret bkRea_afterMark_107 bdRea_afterMark_115 rfl (x := (t + 1) + 1) (h' := zN (zup sg 317 3 ((t + 1) + 1))) (Ps := [zOb (zN sg) 317 4]) rfl (zA zob_317 trivial) rfl ?_
                have e1 : (t + 1) + 1 = rMkA sg t := by simp only [rMkA, rBv, rA2, rVl, rK, rA1]; grind
                have e2 : (zup sg 317 3 ((t + 1) + 1)) = rMkH sg t := by simp only [rMkH, rMkF, rBv, rBs, rA2, rVl, rK, rA1]; grind (splits := 30)
                exact ⟨by rw [e1], by rw [e2]⟩
      · skip
        refine zb_iret bkRea_afterMark_50 bdRea_afterMark_58 rfl (x := t + 1) (h' := zN (zup sg 317 3 (t + 1))) (Ps := [zOb (zN sg) 317 4]) rfl (zA zob_317 trivial) rfl ?_
        have e1 : t + 1 = rMkA sg t := by simp only [rMkA, rBv, rA2, rVl, rK, rA1]; grind
        have e2 : (zup sg 317 3 (t + 1)) = rMkH sg t := by simp only [rMkH, rMkF, rBv, rBs, rA2, rVl, rK, rA1]; grind (splits := 30)
        exact ⟨by rw [e1], by rw [e2]⟩
    · exact absurd c2 (by decide)
  · skip
    refine zb_ifeq (tgt := 28) bkRea_afterMark_12 bdRea_afterMark_19 (by decide) (lv' := [(3, .int 1), (0, .ref 317), (1, .ref 34), (2, .int t)]) (st' := []) (h' := zN sg) (x := 1) (Ps := []) rfl trivial (fun c18 => ?_) (fun c18 => ?_)
    · exact absurd c18 (by decide)
    · skip
      refine zG_run bkRea_afterMark_22 (lv' := [(4, .int (t + 2)), (3, .int 1), (0, .ref 317), (1, .ref 34), (2, .int t)]) (st' := [.int (t + 2), .ref 34]) (h' := zN sg) (Ps := []) rfl trivial ?_
      refine zG_callv (a := 34) (c := 7) (As := [.int (t + 2)]) (rest := []) (N2 := 411) bdRea_afterMark_36 okTap_at lk4_41 (And.intro (by decide) (by decide)) (by decide) rfl rfl rfl (Nat.le_of_ble_eq_true rfl) (Nat.le_of_ble_eq_true rfl) (Nat.le_refl 411) (Nat.le_refl 411) zob_34 (cTap_at (by lia)) ?_
      rintro rr h' ⟨rfl, rfl⟩ -
      refine zG_run bkRea_afterMark_39 (lv' := [(4, .int (t + 2)), (3, .int 1), (0, .ref 317), (1, .ref 34), (2, .int t)]) (st' := [.int (rTp sg (t + 2))]) (h' := zN sg) (Ps := []) rfl trivial ?_
      refine zG_calls (As := [.int (rTp sg (t + 2))]) (rest := []) (N2 := 411) bdRea_afterMark_39 okRea_kindOf lk4_56 (And.intro (by decide) (by decide)) rfl rfl (Nat.le_of_ble_eq_true rfl) (Nat.le_of_ble_eq_true rfl) (Nat.le_refl 411) (Nat.le_refl 411) (cRea_kindOf hm) ?_
      rintro rr h' ⟨rfl, rfl⟩ -
      refine zb_icne (tgt := 59) bkRea_afterMark_42 bdRea_afterMark_47 (by decide) (lv' := [(5, .int (fKd (rTp sg (t + 2)))), (4, .int (t + 2)), (3, .int 1), (0, .ref 317), (1, .ref 34), (2, .int t)]) (st' := []) (h' := zN sg) (x := fKd (rTp sg (t + 2))) (y := (-1)) (Ps := []) rfl trivial (fun c19 => ?_) (fun c19 => ?_)
      · skip
        refine zb_ifne (tgt := 119) bkRea_afterMark_59 bdRea_afterMark_66 (by decide) (lv' := [(6, .int 1), (4, .int ((t + 2) + 1)), (5, .int (fKd (rTp sg (t + 2)))), (3, .int 1), (0, .ref 317), (1, .ref 34), (2, .int t)]) (st' := []) (h' := zN sg) (x := 1) (Ps := []) rfl trivial (fun c20 => ?_) (fun c20 => ?_)
        · skip
          refine zG_run bkRea_afterMark_119 (lv' := [(6, .int 1), (4, .int ((t + 2) + 1)), (5, .int (fKd (rTp sg (t + 2)))), (3, .int 1), (0, .ref 317), (1, .ref 34), (2, .int t)]) (st' := [.int ((t + 2) + 1), .ref 34]) (h' := zN sg) (Ps := []) rfl trivial ?_
          refine zG_callv (a := 34) (c := 7) (As := [.int ((t + 2) + 1)]) (rest := []) (N2 := 411) bdRea_afterMark_122 okTap_at lk4_41 (And.intro (by decide) (by decide)) (by decide) rfl rfl rfl (Nat.le_of_ble_eq_true rfl) (Nat.le_of_ble_eq_true rfl) (Nat.le_refl 411) (Nat.le_refl 411) zob_34 (cTap_at (by lia)) ?_
          rintro rr h' ⟨rfl, rfl⟩ -
          refine zb_iceq (tgt := 139) bkRea_afterMark_125 bdRea_afterMark_127 (by decide) (lv' := [(6, .int 1), (4, .int ((t + 2) + 1)), (5, .int (fKd (rTp sg (t + 2)))), (3, .int 1), (0, .ref 317), (1, .ref 34), (2, .int t)]) (st' := []) (h' := zN sg) (x := rTp sg ((t + 2) + 1)) (y := 93) (Ps := []) rfl trivial (fun c21 => ?_) (fun c21 => ?_)
          · skip
            refine zb_ifeq (tgt := 155) bkRea_afterMark_139 bdRea_afterMark_140 (by decide) (lv' := [(6, .int 1), (4, .int ((t + 2) + 1)), (5, .int (fKd (rTp sg (t + 2)))), (3, .int 1), (0, .ref 317), (1, .ref 34), (2, .int t)]) (st' := []) (h' := zN sg) (x := 1) (Ps := []) rfl trivial (fun c22 => ?_) (fun c22 => ?_)
            · exact absurd c22 (by decide)
            · skip
              refine zG_run bkRea_afterMark_143 (lv' := [(6, .int 1), (4, .int ((t + 2) + 1)), (5, .int (fKd (rTp sg (t + 2)))), (3, .int 1), (0, .ref 317), (1, .ref 34), (2, .int t)]) (st' := [.int (fKd (rTp sg (t + 2))), .ref 317]) (h' := zN sg) (Ps := []) rfl trivial ?_
              refine zG_callv (a := 317) (c := 4) (As := [.int (fKd (rTp sg (t + 2)))]) (rest := []) (N2 := 411) bdRea_afterMark_146 okRea_closeLatest lk4_63 (And.intro (by decide) (by decide)) (by decide) rfl rfl rfl (Nat.le_of_ble_eq_true rfl) (Nat.le_of_ble_eq_true rfl) (Nat.le_refl 411) (Nat.le_refl 411) zob_317 (cRea_closeLatest k0 k1) ?_
              rintro rr h' ⟨rfl, rfl⟩ -
              refine zb_ifeq (tgt := 166) bkRea_afterMark_149 bdRea_afterMark_149 (by decide) (lv' := [(6, .int 1), (4, .int ((t + 2) + 1)), (5, .int (fKd (rTp sg (t + 2)))), (3, .int 1), (0, .ref 317), (1, .ref 34), (2, .int t)]) (st' := []) (h' := zN (if sg 317 6 = 0 ∨ sg 320 (sg 317 6 - 1) ≠ (fKd (rTp sg (t + 2))) then sg else zup sg 317 6 (sg 317 6 - 1))) (x := if sg 317 6 = 0 ∨ sg 320 (sg 317 6 - 1) ≠ (fKd (rTp sg (t + 2))) then 0 else 1) (Ps := []) rfl trivial (fun c23 => ?_) (fun c23 => ?_)
              · skip
                refine zb_iret bkRea_afterMark_166 bdRea_afterMark_175 rfl (x := ((t + 2) + 1) + 1) (h' := zN (zup (if sg 317 6 = 0 ∨ sg 320 (sg 317 6 - 1) ≠ (fKd (rTp sg (t + 2))) then sg else zup sg 317 6 (sg 317 6 - 1)) 317 3 t)) (Ps := [zOb (zN (if sg 317 6 = 0 ∨ sg 320 (sg 317 6 - 1) ≠ (fKd (rTp sg (t + 2))) then sg else zup sg 317 6 (sg 317 6 - 1))) 317 4]) rfl (zA zob_317 trivial) rfl ?_
                have e1 : ((t + 2) + 1) + 1 = rMkA sg t := by simp only [rMkA, rBv, rA2, rVl, rK, rA1]; grind
                have e2 : (zup (if sg 317 6 = 0 ∨ sg 320 (sg 317 6 - 1) ≠ (fKd (rTp sg (t + 2))) then sg else zup sg 317 6 (sg 317 6 - 1)) 317 3 t) = rMkH sg t := by simp only [rMkH, rMkF, rBv, rBs, rA2, rVl, rK, rA1]; grind (splits := 30)
                exact ⟨by rw [e1], by rw [e2]⟩
              · skip
                refine zb_iret bkRea_afterMark_152 bdRea_afterMark_175 rfl (x := ((t + 2) + 1) + 1) (h' := zN (if sg 317 6 = 0 ∨ sg 320 (sg 317 6 - 1) ≠ (fKd (rTp sg (t + 2))) then sg else zup sg 317 6 (sg 317 6 - 1))) (Ps := []) rfl trivial rfl ?_
                have e1 : ((t + 2) + 1) + 1 = rMkA sg t := by simp only [rMkA, rBv, rA2, rVl, rK, rA1]; grind
                have e2 : (if sg 317 6 = 0 ∨ sg 320 (sg 317 6 - 1) ≠ (fKd (rTp sg (t + 2))) then sg else zup sg 317 6 (sg 317 6 - 1)) = rMkH sg t := by simp only [rMkH, rMkF, rBv, rBs, rA2, rVl, rK, rA1]; grind (splits := 30)
                exact ⟨by rw [e1], by rw [e2]⟩
          · skip
            refine zb_iret bkRea_afterMark_130 bdRea_afterMark_138 rfl (x := (t + 2) + 1) (h' := zN (zup sg 317 3 ((t + 2) + 1))) (Ps := [zOb (zN sg) 317 4]) rfl (zA zob_317 trivial) rfl ?_
            have e1 : (t + 2) + 1 = rMkA sg t := by simp only [rMkA, rBv, rA2, rVl, rK, rA1]; grind
            have e2 : (zup sg 317 3 ((t + 2) + 1)) = rMkH sg t := by simp only [rMkH, rMkF, rBv, rBs, rA2, rVl, rK, rA1]; grind (splits := 30)
            exact ⟨by rw [e1], by rw [e2]⟩
        · exact absurd c20 (by decide)
      · skip
        refine zb_iret bkRea_afterMark_50 bdRea_afterMark_58 rfl (x := t + 2) (h' := zN (zup sg 317 3 (t + 2))) (Ps := [zOb (zN sg) 317 4]) rfl (zA zob_317 trivial) rfl ?_
        have e1 : t + 2 = rMkA sg t := by simp only [rMkA, rBv, rA2, rVl, rK, rA1]; grind
        have e2 : (zup sg 317 3 (t + 2)) = rMkH sg t := by simp only [rMkH, rMkF, rBv, rBs, rA2, rVl, rK, rA1]; grind (splits := 30)
        exact ⟨by rw [e1], by rw [e2]⟩
theorem okM_move {sg sg' : zSig} (h : okM sg) (he : ∀ j, sg' 100000 j = sg 100000 j) : okM sg' := by
  unfold okM; simp only [he]; exact h
theorem rMkH_or {sg : zSig} {t : Int32} (t0 : 0 ≤ t) (t1 : t < 400) : (rMkH sg t = zup sg 317 3 (rMkF sg t) ∧ rMkF sg t ≠ -1) ∨ (rMkH sg t = zup sg 317 6 (sg 317 6 - 1) ∧ sg 317 6 ≠ 0 ∧ rMkF sg t = -1) ∨ (rMkH sg t = rOp sg (rK sg t) (rVl sg t) ∧ ¬ 8 ≤ sg 317 6 ∧ rMkF sg t = -1) := by
  by_cases h : rMkF sg t ≠ -1
  · left; exact ⟨by unfold rMkH; rw [if_pos h], h⟩
  · right
    have h' : rMkF sg t = -1 := Classical.not_not.mp h
    have hb : rBs sg t = false := by
      have a1 : rA1 sg t = t + 1 ∨ rA1 sg t = t + 2 := by unfold rA1; grind
      have a2 : rA2 sg t = rA1 sg t + 1 ∨ rA2 sg t = rA1 sg t + 1 + 1 := by unfold rA2; grind
      unfold rMkF at h'
      clear h
      cases hb : rBs sg t with
      | false => rfl
      | true =>
        rw [hb] at h'
        exfalso
        split at h'
        · lia
        · split at h'
          · lia
          · split at h'
            · lia
            · rw [if_pos rfl] at h'; lia
    unfold rBs at hb
    by_cases hc : rTp sg (t + 1) = 47
    · left
      exact ⟨by unfold rMkH; rw [if_neg h, if_pos hc], by simp [hc] at hb; exact hb.1, h'⟩
    · right
      exact ⟨by unfold rMkH; rw [if_neg h, if_neg hc], by simp [hc] at hb; lia, h'⟩
theorem rMk_adv {sg : zSig} {t : Int32} (t0 : 0 ≤ t) (t1 : t < 400) : t < rMkA sg t := by
  have a1 : rA1 sg t = t + 1 ∨ rA1 sg t = t + 2 := by unfold rA1; grind
  have a2 : rA2 sg t = rA1 sg t + 1 ∨ rA2 sg t = rA1 sg t + 1 + 1 := by unfold rA2; grind
  unfold rMkA
  split
  · lia
  · split
    · lia
    · split <;> lia
theorem rMkF_rng {sg : zSig} {t : Int32} (t0 : 0 ≤ t) (t1 : t < 400) : -1 ≤ rMkF sg t := by
  have a1 : rA1 sg t = t + 1 ∨ rA1 sg t = t + 2 := by unfold rA1; grind
  have a2 : rA2 sg t = rA1 sg t + 1 ∨ rA2 sg t = rA1 sg t + 1 + 1 := by unfold rA2; grind
  unfold rMkF
  split
  · lia
  · split
    · lia
    · split
      · lia
      · split <;> lia
/-- what a step keeps -/
theorem rSt_ok {sg : zSig} {t : Int32} (h : okR sg) (t0 : 0 ≤ t) (t1 : t < sg 34 1) (l1 : sg 34 1 ≤ 400) (hf : sg 317 3 = -1) : okR (rSt (t, sg)).2 ∧ 0 ≤ (rSt (t, sg)).1 ∧ ((rSt (t, sg)).2 317 3 = -1 → t < (rSt (t, sg)).1) ∧ ∀ c j, (c < 317 ∨ 322 ≤ c) → (rSt (t, sg)).2 c j = sg c j := by
  obtain ⟨⟨n0, n1⟩, k0, k1⟩ := h
  unfold rSt
  simp only [if_pos (And.intro t1 hf)]
  by_cases hb : rTp sg t = 91
  · simp only [if_pos hb]
    have ha := rMk_adv (sg := sg) t0 (by lia)
    refine ⟨?_, by lia, fun _ => ha, ?_⟩
    · rcases rMkH_or (sg := sg) t0 (by lia) with ⟨e, e2⟩ | ⟨e, e2, e3⟩ | ⟨e, e2, e3⟩
      · rw [e]; unfold okR; rw [zup_i (by decide), zup_i (by decide)]; exact ⟨⟨n0, n1⟩, k0, k1⟩
      · rw [e]; unfold okR; rw [zup_i (by decide), zup_s]; exact ⟨⟨n0, n1⟩, by lia, by lia⟩
      · rw [e]; unfold okR rOp; rw [zup_s, zup_i (by decide), zup_a (by decide), zup_a (by decide)]; exact ⟨⟨n0, n1⟩, by lia, by lia⟩
    · intro c j hc
      rcases rMkH_or (sg := sg) t0 (by lia) with ⟨e, e2⟩ | ⟨e, e2, e3⟩ | ⟨e, e2, e3⟩
      · rw [e, zup_a (by omega)]
      · rw [e, zup_a (by omega)]
      · rw [e]; unfold rOp; rw [zup_a (by omega), zup_a (by omega), zup_a (by omega)]
  · simp only [if_neg hb]
    unfold rLtH rLtA
    cases hg : rG sg t with
    | false =>
      simp only [Bool.false_eq_true, if_false]
      refine ⟨?_, t0, ?_, fun c j hc => zup_a (by omega)⟩
      · unfold okR; rw [zup_i (by decide), zup_i (by decide)]; exact ⟨⟨n0, n1⟩, k0, k1⟩
      · rw [zup_s]; intro q; exfalso; lia
    | true =>
      simp only [if_true]
      have hn : sg 317 2 < 200 := by unfold rG at hg; simp at hg; exact hg.2
      refine ⟨?_, by lia, fun _ => by lia, fun c j hc => ?_⟩
      · unfold okR rLp; rw [zup_s, zup_i (by decide), zup_a (by decide), zup_a (by decide)]; exact ⟨⟨by lia, by lia⟩, k0, k1⟩
      · unfold rLp; rw [zup_a (by omega), zup_a (by omega), zup_a (by omega)]
theorem bkRea_parse_0 : zBk mRea_parse 0 [(1, 0, 1, 0, 0), (0, 0, 0, 0, 0), (6, 4, 2, 0, 2), (1, 0, 1, 0, 0), (0, 0, 0, 0, 0), (6, 4, 6, 0, 6), (1, 0, 1, 0, 0), (0, 0, 0, 0, -1), (6, 4, 3, 0, 3), (1, 0, 1, 0, 0), (5, 4, 5, 4, 5), (0, 0, 0, 0, 0), (0, 0, 0, 0, 4), (8, 0, 0, 0, 0), (0, 0, 0, 0, 0), (2, 2, 0, 0, 0), (0, 0, 0, 0, 0), (2, 3, 0, 0, 0)] = some 26 := by decide +kernel
theorem bkRea_parse_26 : zBk mRea_parse 26 [(1, 3, 0, 0, 0), (0, 0, 0, 0, 400)] = some 30 := by decide +kernel
theorem bkRea_parse_81 : zBk mRea_parse 81 [(1, 0, 1, 0, 0), (5, 4, 3, 0, 3), (0, 0, 0, 0, -1)] = some 86 := by decide +kernel
theorem bkRea_parse_104 : zBk mRea_parse 104 [] = some 104 := by decide +kernel
theorem bkRea_parse_89 : zBk mRea_parse 89 [(1, 0, 1, 0, 0), (5, 4, 6, 0, 6)] = some 93 := by decide +kernel
theorem bkRea_parse_96 : zBk mRea_parse 96 [(1, 0, 1, 0, 0), (1, 1, 1, 0, 0), (5, 7, 1, 0, 1), (6, 4, 3, 0, 3)] = some 104 := by decide +kernel
theorem bkRea_parse_33 : zBk mRea_parse 33 [(1, 2, 0, 0, 0), (1, 1, 1, 0, 0), (5, 7, 1, 0, 1)] = some 38 := by decide +kernel
theorem bkRea_parse_41 : zBk mRea_parse 41 [(1, 0, 1, 0, 0), (5, 4, 3, 0, 3), (0, 0, 0, 0, -1)] = some 46 := by decide +kernel
theorem bkRea_parse_49 : zBk mRea_parse 49 [(1, 1, 1, 0, 0), (1, 2, 0, 0, 0)] = some 51 := by decide +kernel
theorem bkRea_parse_54 : zBk mRea_parse 54 [(0, 0, 0, 0, 91)] = some 56 := by decide +kernel
theorem bkRea_parse_68 : zBk mRea_parse 68 [(1, 0, 1, 0, 0), (1, 1, 1, 0, 0), (1, 2, 0, 0, 0)] = some 71 := by decide +kernel
theorem bkRea_parse_74 : zBk mRea_parse 74 [(2, 2, 0, 0, 0), (3, 3, 0, 0, 1), (22, 26, 0, 0, 0)] = some 26 := by decide +kernel
theorem bkRea_parse_59 : zBk mRea_parse 59 [(1, 0, 1, 0, 0), (1, 1, 1, 0, 0), (1, 2, 0, 0, 0)] = some 62 := by decide +kernel
theorem bkRea_parse_65 : zBk mRea_parse 65 [(22, 74, 0, 0, 0)] = some 74 := by decide +kernel
theorem bdRea_parse_30 : decode mRea_parse.2.2.1 30 = .ok (.if_icmp .ge 51, 3) := by decide +kernel
theorem bdRea_parse_38 : decode mRea_parse.2.2.1 38 = .ok (.if_icmp .ge 43, 3) := by decide +kernel
theorem bdRea_parse_46 : decode mRea_parse.2.2.1 46 = .ok (.if_icmp .ne 35, 3) := by decide +kernel
theorem bdRea_parse_51 : decode mRea_parse.2.2.1 51 = .ok (.invokevirtual 41, 3) := by decide +kernel
theorem bdRea_parse_56 : decode mRea_parse.2.2.1 56 = .ok (.if_icmp .ne 12, 3) := by decide +kernel
theorem bdRea_parse_62 : decode mRea_parse.2.2.1 62 = .ok (.invokevirtual 45, 3) := by decide +kernel
theorem bdRea_parse_71 : decode mRea_parse.2.2.1 71 = .ok (.invokevirtual 49, 3) := by decide +kernel
theorem bdRea_parse_86 : decode mRea_parse.2.2.1 86 = .ok (.if_icmp .ne 18, 3) := by decide +kernel
theorem bdRea_parse_93 : decode mRea_parse.2.2.1 93 = .ok (.ifCond .le 11, 3) := by decide +kernel
theorem bdRea_parse_104 : decode mRea_parse.2.2.1 104 = .ok (.return_, 1) := by decide +kernel
set_option maxHeartbeats 4000000 in
theorem lRea_parse {sg : zSig}  (hm : okM sg) (l0 : 0 ≤ sg 34 1) (l1 : sg 34 1 ≤ 400) {Q : Option Value → zHp → Prop} (hq : ∀ rr h', (∃ sg', rr = none ∧ h' = zN sg' ∧ rPs sg sg') → Q rr h') : zG mRea_parse 411 Q 0 [(0, .ref 317), (1, .ref 34)] [] (zN sg) := by
  refine zG_run bkRea_parse_0 (lv' := [(3, .int 0), (2, .int 0), (0, .ref 317), (1, .ref 34)]) (st' := []) (h' := zN (zup (zup (zup (zup sg 317 2 0) 317 6 0) 317 3 (-1)) 321 0 4)) (Ps := [zOb (zN sg) 317 4, zOb (zN (zup sg 317 2 0)) 317 4, zOb (zN (zup (zup sg 317 2 0) 317 6 0)) 317 4, zOb (zN (zup (zup (zup sg 317 2 0) 317 6 0) 317 3 (-1))) 317 4 ∧ (zN (zup (zup (zup sg 317 2 0) 317 6 0) 317 3 (-1))).2.2 317 5 = true, zIn (zN (zup (zup (zup sg 317 2 0) 317 6 0) 317 3 (-1))) 321 0 0]) rfl (zA zob_317 (zA zob_317 (zA zob_317 (zA ⟨zob_317, rfl⟩ (zA (zin_321 (i := 0) (by decide) (by decide)) trivial))))) ?_
  refine zG_pick (lv' := [(0, .ref 317), (1, .ref 34), (2, .int 0), (3, .int 0)]) [2, 3, 1, 0] rfl ?_
  refine zlp3 (fun (t : Int32) (p : Int32) (sg1 : zSig) => zG mRea_parse 411 Q 26 [(0, .ref 317), (1, .ref 34), (2, .int t), (3, .int p)] [] (zN sg1)) (fun (t : Int32) (p : Int32) (sg1 : zSig) => (0 ≤ p) ∧ (p ≤ 400) ∧ (0 ≤ t) ∧ (sg1 317 3 = -1 → p ≤ t) ∧ (okR sg1) ∧ (∀ c j, (c < 317 ∨ 322 ≤ c) → sg1 c j = sg c j) ∧ (∃ n : Nat, (t, sg1) = zitN (fun _ => rSt) (0, rI sg) n)) (fun (t : Int32) (p : Int32) (sg1 : zSig) => zmu 400 p) ?_ 0 0 (zup (zup (zup (zup sg 317 2 0) 317 6 0) 317 3 (-1)) 321 0 4) ?_
  · intro t p sg1 hI ih
    obtain ⟨p0, p1, a0, ap, io, if_, iz⟩ := hI
    have f1 := if_ 34 1 (by decide)
    obtain ⟨⟨n0, n1⟩, k0, k1⟩ := id io
    refine zb_icge (tgt := 81) bkRea_parse_26 bdRea_parse_30 (by decide) (lv' := [(0, .ref 317), (1, .ref 34), (2, .int t), (3, .int p)]) (st' := []) (h' := zN sg1) (x := p) (y := 400) (Ps := []) rfl trivial (fun c1 => ?_) (fun c1 => ?_)
    · skip
      refine zb_icne (tgt := 104) bkRea_parse_81 bdRea_parse_86 (by decide) (lv' := [(0, .ref 317), (1, .ref 34), (2, .int t), (3, .int p)]) (st' := []) (h' := zN sg1) (x := sg1 317 3) (y := (-1)) (Ps := [zOb (zN sg1) 317 4]) rfl (zA zob_317 trivial) (fun c2 => ?_) (fun c2 => ?_)
      · skip
        refine zb_vret bkRea_parse_104 bdRea_parse_104 rfl (h' := zN sg1) (Ps := []) rfl trivial rfl ?_
        refine hq _ _ ?_
        have hd : ¬ (t < sg1 34 1 ∧ sg1 317 3 = -1) := by intro q; have := ap q.2; lia
        have ee : rEnd sg1 = sg1 := by unfold rEnd; rw [if_neg (by lia)]
        obtain ⟨n, hn⟩ := iz
        refine ⟨_, rfl, rfl, n, (t, sg1), hn, hd, ee.symm, ?_, ?_⟩
        · exact io
        · exact if_
      · skip
        refine zb_ifle (tgt := 104) bkRea_parse_89 bdRea_parse_93 (by decide) (lv' := [(0, .ref 317), (1, .ref 34), (2, .int t), (3, .int p)]) (st' := []) (h' := zN sg1) (x := sg1 317 6) (Ps := [zOb (zN sg1) 317 4]) rfl (zA zob_317 trivial) (fun c3 => ?_) (fun c3 => ?_)
        · skip
          refine zb_vret bkRea_parse_104 bdRea_parse_104 rfl (h' := zN sg1) (Ps := []) rfl trivial rfl ?_
          refine hq _ _ ?_
          have hd : ¬ (t < sg1 34 1 ∧ sg1 317 3 = -1) := by intro q; have := ap q.2; lia
          have ee : rEnd sg1 = sg1 := by unfold rEnd; rw [if_neg (by lia)]
          obtain ⟨n, hn⟩ := iz
          refine ⟨_, rfl, rfl, n, (t, sg1), hn, hd, ee.symm, ?_, ?_⟩
          · exact io
          · exact if_
        · skip
          refine zb_vret bkRea_parse_96 bdRea_parse_104 rfl (h' := zN (zup sg1 317 3 (sg1 34 1))) (Ps := [zOb (zN sg1) 34 7, zOb (zN sg1) 317 4]) rfl (zA zob_34 (zA zob_317 trivial)) rfl ?_
          refine hq _ _ ?_
          have hd : ¬ (t < sg1 34 1 ∧ sg1 317 3 = -1) := by intro q; have := ap q.2; lia
          have ee : rEnd sg1 = zup sg1 317 3 (sg1 34 1) := by unfold rEnd; rw [if_pos (by lia)]
          obtain ⟨n, hn⟩ := iz
          refine ⟨_, rfl, rfl, n, (t, sg1), hn, hd, ee.symm, ?_, ?_⟩
          · unfold okR; rw [zup_i (by decide), zup_i (by decide)]; exact io
          · intro c j hc; rw [zup_a (by omega)]; exact if_ c j hc
    · skip
      refine zb_icge (tgt := 81) bkRea_parse_33 bdRea_parse_38 (by decide) (lv' := [(0, .ref 317), (1, .ref 34), (2, .int t), (3, .int p)]) (st' := []) (h' := zN sg1) (x := t) (y := sg1 34 1) (Ps := [zOb (zN sg1) 34 7]) rfl (zA zob_34 trivial) (fun c4 => ?_) (fun c4 => ?_)
      · skip
        refine zb_icne (tgt := 104) bkRea_parse_81 bdRea_parse_86 (by decide) (lv' := [(0, .ref 317), (1, .ref 34), (2, .int t), (3, .int p)]) (st' := []) (h' := zN sg1) (x := sg1 317 3) (y := (-1)) (Ps := [zOb (zN sg1) 317 4]) rfl (zA zob_317 trivial) (fun c5 => ?_) (fun c5 => ?_)
        · skip
          refine zb_vret bkRea_parse_104 bdRea_parse_104 rfl (h' := zN sg1) (Ps := []) rfl trivial rfl ?_
          refine hq _ _ ?_
          have hd : ¬ (t < sg1 34 1 ∧ sg1 317 3 = -1) := by intro q; have := ap q.2; lia
          have ee : rEnd sg1 = sg1 := by unfold rEnd; rw [if_neg (by lia)]
          obtain ⟨n, hn⟩ := iz
          refine ⟨_, rfl, rfl, n, (t, sg1), hn, hd, ee.symm, ?_, ?_⟩
          · exact io
          · exact if_
        · skip
          refine zb_ifle (tgt := 104) bkRea_parse_89 bdRea_parse_93 (by decide) (lv' := [(0, .ref 317), (1, .ref 34), (2, .int t), (3, .int p)]) (st' := []) (h' := zN sg1) (x := sg1 317 6) (Ps := [zOb (zN sg1) 317 4]) rfl (zA zob_317 trivial) (fun c6 => ?_) (fun c6 => ?_)
          · skip
            refine zb_vret bkRea_parse_104 bdRea_parse_104 rfl (h' := zN sg1) (Ps := []) rfl trivial rfl ?_
            refine hq _ _ ?_
            have hd : ¬ (t < sg1 34 1 ∧ sg1 317 3 = -1) := by intro q; have := ap q.2; lia
            have ee : rEnd sg1 = sg1 := by unfold rEnd; rw [if_neg (by lia)]
            obtain ⟨n, hn⟩ := iz
            refine ⟨_, rfl, rfl, n, (t, sg1), hn, hd, ee.symm, ?_, ?_⟩
            · exact io
            · exact if_
          · skip
            refine zb_vret bkRea_parse_96 bdRea_parse_104 rfl (h' := zN (zup sg1 317 3 (sg1 34 1))) (Ps := [zOb (zN sg1) 34 7, zOb (zN sg1) 317 4]) rfl (zA zob_34 (zA zob_317 trivial)) rfl ?_
            refine hq _ _ ?_
            have hd : ¬ (t < sg1 34 1 ∧ sg1 317 3 = -1) := by intro q; have := ap q.2; lia
            have ee : rEnd sg1 = zup sg1 317 3 (sg1 34 1) := by unfold rEnd; rw [if_pos (by lia)]
            obtain ⟨n, hn⟩ := iz
            refine ⟨_, rfl, rfl, n, (t, sg1), hn, hd, ee.symm, ?_, ?_⟩
            · unfold okR; rw [zup_i (by decide), zup_i (by decide)]; exact io
            · intro c j hc; rw [zup_a (by omega)]; exact if_ c j hc
      · skip
        refine zb_icne (tgt := 81) bkRea_parse_41 bdRea_parse_46 (by decide) (lv' := [(0, .ref 317), (1, .ref 34), (2, .int t), (3, .int p)]) (st' := []) (h' := zN sg1) (x := sg1 317 3) (y := (-1)) (Ps := [zOb (zN sg1) 317 4]) rfl (zA zob_317 trivial) (fun c7 => ?_) (fun c7 => ?_)
        · skip
          refine zb_icne (tgt := 104) bkRea_parse_81 bdRea_parse_86 (by decide) (lv' := [(0, .ref 317), (1, .ref 34), (2, .int t), (3, .int p)]) (st' := []) (h' := zN sg1) (x := sg1 317 3) (y := (-1)) (Ps := [zOb (zN sg1) 317 4]) rfl (zA zob_317 trivial) (fun c8 => ?_) (fun c8 => ?_)
          · skip
            refine zb_vret bkRea_parse_104 bdRea_parse_104 rfl (h' := zN sg1) (Ps := []) rfl trivial rfl ?_
            refine hq _ _ ?_
            have hd : ¬ (t < sg1 34 1 ∧ sg1 317 3 = -1) := by intro q; have := ap q.2; lia
            have ee : rEnd sg1 = sg1 := by unfold rEnd; rw [if_neg (by lia)]
            obtain ⟨n, hn⟩ := iz
            refine ⟨_, rfl, rfl, n, (t, sg1), hn, hd, ee.symm, ?_, ?_⟩
            · exact io
            · exact if_
          · skip
            refine zb_ifle (tgt := 104) bkRea_parse_89 bdRea_parse_93 (by decide) (lv' := [(0, .ref 317), (1, .ref 34), (2, .int t), (3, .int p)]) (st' := []) (h' := zN sg1) (x := sg1 317 6) (Ps := [zOb (zN sg1) 317 4]) rfl (zA zob_317 trivial) (fun c9 => ?_) (fun c9 => ?_)
            · skip
              refine zb_vret bkRea_parse_104 bdRea_parse_104 rfl (h' := zN sg1) (Ps := []) rfl trivial rfl ?_
              refine hq _ _ ?_
              have hd : ¬ (t < sg1 34 1 ∧ sg1 317 3 = -1) := by intro q; have := ap q.2; lia
              have ee : rEnd sg1 = sg1 := by unfold rEnd; rw [if_neg (by lia)]
              obtain ⟨n, hn⟩ := iz
              refine ⟨_, rfl, rfl, n, (t, sg1), hn, hd, ee.symm, ?_, ?_⟩
              · exact io
              · exact if_
            · skip
              refine zb_vret bkRea_parse_96 bdRea_parse_104 rfl (h' := zN (zup sg1 317 3 (sg1 34 1))) (Ps := [zOb (zN sg1) 34 7, zOb (zN sg1) 317 4]) rfl (zA zob_34 (zA zob_317 trivial)) rfl ?_
              refine hq _ _ ?_
              have hd : ¬ (t < sg1 34 1 ∧ sg1 317 3 = -1) := by intro q; have := ap q.2; lia
              have ee : rEnd sg1 = zup sg1 317 3 (sg1 34 1) := by unfold rEnd; rw [if_pos (by lia)]
              obtain ⟨n, hn⟩ := iz
              refine ⟨_, rfl, rfl, n, (t, sg1), hn, hd, ee.symm, ?_, ?_⟩
              · unfold okR; rw [zup_i (by decide), zup_i (by decide)]; exact io
              · intro c j hc; rw [zup_a (by omega)]; exact if_ c j hc
        · skip
          refine zG_run bkRea_parse_49 (lv' := [(0, .ref 317), (1, .ref 34), (2, .int t), (3, .int p)]) (st' := [.int t, .ref 34]) (h' := zN sg1) (Ps := []) rfl trivial ?_
          refine zG_callv (a := 34) (c := 7) (As := [.int t]) (rest := []) (N2 := 411) bdRea_parse_51 okTap_at lk4_41 (And.intro (by decide) (by decide)) (by decide) rfl rfl rfl (Nat.le_of_ble_eq_true rfl) (Nat.le_of_ble_eq_true rfl) (Nat.le_refl 411) (Nat.le_refl 411) zob_34 (cTap_at (by lia)) ?_
          rintro rr h' ⟨rfl, rfl⟩ -
          refine zb_icne (tgt := 68) bkRea_parse_54 bdRea_parse_56 (by decide) (lv' := [(0, .ref 317), (1, .ref 34), (2, .int t), (3, .int p)]) (st' := []) (h' := zN sg1) (x := rTp sg1 t) (y := 91) (Ps := []) rfl trivial (fun c10 => ?_) (fun c10 => ?_)
          · skip
            refine zG_run bkRea_parse_68 (lv' := [(0, .ref 317), (1, .ref 34), (2, .int t), (3, .int p)]) (st' := [.int t, .ref 34, .ref 317]) (h' := zN sg1) (Ps := []) rfl trivial ?_
            refine zG_callv (a := 317) (c := 4) (As := [.ref 34, .int t]) (rest := []) (N2 := 411) bdRea_parse_71 okRea_afterLetter lk4_49 (And.intro (by decide) (by decide)) (by decide) rfl rfl rfl (Nat.le_of_ble_eq_true rfl) (Nat.le_of_ble_eq_true rfl) (Nat.le_refl 411) (Nat.le_refl 411) zob_317 (cRea_afterLetter (t := t) (by lia) (by lia) (by lia) (by lia) (by lia) (by lia) (by lia) (by lia)) ?_
            rintro rr h' ⟨rfl, rfl⟩ -
            have es : rSt (t, sg1) = (rLtA sg1 t, rLtH sg1 t) := by unfold rSt; simp only [if_pos (And.intro (by lia : t < sg1 34 1) (by lia : sg1 317 3 = -1))]; rw [if_neg (by assumption)]
            have sk := rSt_ok (sg := sg1) (t := t) io a0 (by lia) (by lia) (by lia)
            rw [es] at sk
            simp only at sk
            refine zG_run bkRea_parse_74 (lv' := [(3, .int (p + 1)), (2, .int (rLtA sg1 t)), (0, .ref 317), (1, .ref 34)]) (st' := []) (h' := zN (rLtH sg1 t)) (Ps := []) rfl trivial ?_
            refine zG_pick (lv' := [(0, .ref 317), (1, .ref 34), (2, .int (rLtA sg1 t)), (3, .int (p + 1))]) [2, 3, 1, 0] rfl ?_
            refine ih (rLtA sg1 t) (p + 1) (rLtH sg1 t) ?_ ?_
            · refine ⟨?_, ?_, ?_, ?_, ?_, ?_, ?_⟩
              · lia
              · lia
              · exact sk.2.1
              · intro q; have q2 := sk.2.2.1 q; have q3 := ap (by lia); lia
              · exact sk.1
              · intro c j hc; rw [sk.2.2.2 c j hc]; exact if_ c j hc
              · obtain ⟨n, hn⟩ := iz; refine ⟨n + 1, ?_⟩; show _ = rSt (zitN (fun _ => rSt) (0, rI sg) n); rw [← hn, es]
            · exact zmu_up (by lia)
          · skip
            refine zG_run bkRea_parse_59 (lv' := [(0, .ref 317), (1, .ref 34), (2, .int t), (3, .int p)]) (st' := [.int t, .ref 34, .ref 317]) (h' := zN sg1) (Ps := []) rfl trivial ?_
            refine zG_callv (a := 317) (c := 4) (As := [.ref 34, .int t]) (rest := []) (N2 := 411) bdRea_parse_62 okRea_afterMark lk4_45 (And.intro (by decide) (by decide)) (by decide) rfl rfl rfl (Nat.le_of_ble_eq_true rfl) (Nat.le_of_ble_eq_true rfl) (Nat.le_refl 411) (Nat.le_refl 411) zob_317 (cRea_afterMark (t := t) (okM_move hm (fun j => if_ _ j (by decide))) (by lia) (by lia) (by lia) (by lia) (by lia) (by lia) (by lia) (by lia)) ?_
            rintro rr h' ⟨rfl, rfl⟩ -
            refine zG_run bkRea_parse_65 (lv' := [(0, .ref 317), (1, .ref 34), (2, .int t), (3, .int p)]) (st' := [.int (rMkA sg1 t)]) (h' := zN (rMkH sg1 t)) (Ps := []) rfl trivial ?_
            have es : rSt (t, sg1) = (rMkA sg1 t, rMkH sg1 t) := by unfold rSt; simp only [if_pos (And.intro (by lia : t < sg1 34 1) (by lia : sg1 317 3 = -1))]; rw [if_pos (by assumption)]
            have sk := rSt_ok (sg := sg1) (t := t) io a0 (by lia) (by lia) (by lia)
            rw [es] at sk
            simp only at sk
            refine zG_run bkRea_parse_74 (lv' := [(3, .int (p + 1)), (2, .int (rMkA sg1 t)), (0, .ref 317), (1, .ref 34)]) (st' := []) (h' := zN (rMkH sg1 t)) (Ps := []) rfl trivial ?_
            refine zG_pick (lv' := [(0, .ref 317), (1, .ref 34), (2, .int (rMkA sg1 t)), (3, .int (p + 1))]) [2, 3, 1, 0] rfl ?_
            refine ih (rMkA sg1 t) (p + 1) (rMkH sg1 t) ?_ ?_
            · refine ⟨?_, ?_, ?_, ?_, ?_, ?_, ?_⟩
              · lia
              · lia
              · exact sk.2.1
              · intro q; have q2 := sk.2.2.1 q; have q3 := ap (by lia); lia
              · exact sk.1
              · intro c j hc; rw [sk.2.2.2 c j hc]; exact if_ c j hc
              · obtain ⟨n, hn⟩ := iz; refine ⟨n + 1, ?_⟩; show _ = rSt (zitN (fun _ => rSt) (0, rI sg) n); rw [← hn, es]
            · exact zmu_up (by lia)
  · refine ⟨?_, ?_, ?_, ?_, ?_, ?_, ?_⟩
    · lia
    · lia
    · lia
    · intro _; lia
    · refine ⟨⟨?_, ?_⟩, ?_, ?_⟩ <;> simp [zup_e]
    · intro c j hc; rw [zup_a (by omega), zup_a (by omega), zup_a (by omega), zup_a (by omega)]
    · exact ⟨0, rfl⟩
theorem cRea_parse {sg : zSig}  (hm : okM sg) (l0 : 0 ≤ sg 34 1) (l1 : sg 34 1 ≤ 400) : zG mRea_parse 411 (fun rr h' => ∃ sg', rr = none ∧ h' = zN sg' ∧ rPs sg sg') 0 [(0, .ref 317), (1, .ref 34)] [] (zN sg) := lRea_parse hm l0 l1 (fun _ _ q => q)
theorem hBeg_317 {sg sg1 : zSig} {k x y z : Int32} (h0 : 0 ≤ sg 36 2) (h1 : sg 36 2 < 8) (h : hBeg sg sg1 k x y z) : ∀ c j, 312 ≤ c → c < 400 → sg1 c j = sg c j := by
  obtain ⟨s, ⟨hk, -⟩, rfl⟩ := h
  have hr := zel37_rng h0 h1
  intro c j g1 g2
  rw [zup_a (by omega)]
  exact hk c j (by omega) (by omega)
def hNew (sg sg' : zSig) : Prop := (∀ c j, c ≠ 1 → c ≠ 2 → c ≠ 3 → sg' c j = sg c j) ∧ sg' 1 2 = sg 317 2 ∧ sg' 1 4 = 0 ∧ sg' 1 6 = 0 ∧ (∀ j, 0 ≤ j → j < sg 317 2 → sg' 2 j = sg 318 j) ∧ ∀ j, 0 ≤ j → j < sg 317 2 → sg' 3 j = sg 319 j
theorem bkSR_read_0 : zBk mSR_read 0 [(1, 0, 1, 0, 0), (5, 9, 7, 317, 7), (1, 0, 1, 0, 0), (5, 9, 1, 34, 1)] = some 8 := by decide +kernel
theorem bkSR_read_11 : zBk mSR_read 11 [(1, 0, 1, 0, 0), (5, 9, 1, 34, 1), (0, 0, 0, 0, 0), (6, 7, 1, 0, 1), (1, 0, 1, 0, 0), (5, 9, 7, 317, 7), (5, 4, 3, 0, 3), (0, 0, 0, 0, -1)] = some 27 := by decide +kernel
theorem bkSR_read_37 : zBk mSR_read 37 [(1, 0, 1, 0, 0), (0, 0, 0, 0, 11), (0, 0, 0, 0, 0), (0, 0, 0, 0, 0), (0, 0, 0, 0, 0)] = some 43 := by decide +kernel
theorem bkSR_read_46 : zBk mSR_read 46 [(1, 0, 1, 0, 0), (5, 9, 0, 1, 0), (1, 0, 1, 0, 0), (5, 9, 7, 317, 7)] = some 54 := by decide +kernel
theorem bkSR_read_57 : zBk mSR_read 57 [(1, 0, 1, 0, 0), (1, 0, 1, 0, 0), (5, 9, 0, 1, 0), (5, 5, 2, 0, 2)] = some 65 := by decide +kernel
theorem bkSR_read_68 : zBk mSR_read 68 [] = some 68 := by decide +kernel
theorem bkSR_read_30 : zBk mSR_read 30 [(1, 0, 1, 0, 0), (0, 0, 0, 0, -6)] = some 33 := by decide +kernel
theorem bkSR_read_36 : zBk mSR_read 36 [] = some 36 := by decide +kernel
theorem bdSR_read_8 : decode mSR_read.2.2.1 8 = .ok (.invokevirtual 213, 3) := by decide +kernel
theorem bdSR_read_27 : decode mSR_read.2.2.1 27 = .ok (.if_icmp .eq 10, 3) := by decide +kernel
theorem bdSR_read_33 : decode mSR_read.2.2.1 33 = .ok (.invokevirtual 93, 3) := by decide +kernel
theorem bdSR_read_36 : decode mSR_read.2.2.1 36 = .ok (.ireturn, 1) := by decide +kernel
theorem bdSR_read_43 : decode mSR_read.2.2.1 43 = .ok (.invokevirtual 100, 3) := by decide +kernel
theorem bdSR_read_54 : decode mSR_read.2.2.1 54 = .ok (.invokevirtual 220, 3) := by decide +kernel
theorem bdSR_read_65 : decode mSR_read.2.2.1 65 = .ok (.invokevirtual 111, 3) := by decide +kernel
theorem bdSR_read_68 : decode mSR_read.2.2.1 68 = .ok (.ireturn, 1) := by decide +kernel
theorem cSR_read {sg : zSig}  (ob : okS sg 1) (h0 : 0 ≤ sg 36 2) (h1 : sg 36 2 < 8) (u0 : 0 ≤ sg 36 3) (u1 : sg 36 3 ≤ 8) (t0 : 0 ≤ sg 34 1) (t1 : sg 34 1 ≤ 400) (hm : okM sg) : zG mSR_read 411 (fun rr h' => ∃ sgP, rPs sg sgP ∧ ((sgP 317 3 ≠ -1 ∧ rr = some (.int (-6)) ∧ h' = zN (hRfC (zup sgP 34 1 0) (-6))) ∨ (sgP 317 3 = -1 ∧ ∃ sg1 sg2, hBeg (zup sgP 34 1 0) sg1 11 0 0 0 ∧ hNew sg1 sg2 ∧ rr = some (.int (sg2 1 2)) ∧ h' = zN (hGrC sg2)))) 0 [(0, .ref 0)] [] (zN sg) := by
  obtain ⟨⟨n0, n1⟩, ⟨g0, g1⟩, ⟨a0, a1⟩, -⟩ := id ob
  refine zG_run bkSR_read_0 (lv' := [(0, .ref 0)]) (st' := [.ref 34, .ref 317]) (h' := zN sg) (Ps := [zOb (zN sg) 0 9 ∧ (zN sg).2.2 0 7 = true, zOb (zN sg) 0 9 ∧ (zN sg).2.2 0 1 = true]) rfl (zA ⟨zob_0, rfl⟩ (zA ⟨zob_0, rfl⟩ trivial)) ?_
  refine zG_callv (a := 317) (c := 4) (As := [.ref 34]) (rest := []) (N2 := 411) bdSR_read_8 okRea_parse lk9_213 (And.intro (by decide) (by decide)) (by decide) rfl rfl rfl (Nat.le_of_ble_eq_true rfl) (Nat.le_of_ble_eq_true rfl) (Nat.le_refl 411) (Nat.le_refl 411) zob_317 (cRea_parse hm t0 t1) ?_
  rintro rr h' ⟨sgP, rfl, rfl, hp⟩ -
  have fp := hp.elim (fun _ q => q.elim (fun _ q => q.2.2.2.2))
  have okp := hp.elim (fun _ q => q.elim (fun _ q => q.2.2.2.1))
  refine zb_iceq (tgt := 37) bkSR_read_11 bdSR_read_27 (by decide) (lv' := [(0, .ref 0)]) (st' := []) (h' := zN (zup sgP 34 1 0)) (x := (zup sgP 34 1 0) 317 3) (y := (-1)) (Ps := [zOb (zN sgP) 0 9 ∧ (zN sgP).2.2 0 1 = true, zOb (zN sgP) 34 7, zOb (zN (zup sgP 34 1 0)) 0 9 ∧ (zN (zup sgP 34 1 0)).2.2 0 7 = true, zOb (zN (zup sgP 34 1 0)) 317 4]) rfl (zA ⟨zob_0, rfl⟩ (zA zob_34 (zA ⟨zob_0, rfl⟩ (zA zob_317 trivial)))) (fun c1 => ?_) (fun c1 => ?_)
  · skip
    refine zG_run bkSR_read_37 (lv' := [(0, .ref 0)]) (st' := [.int 0, .int 0, .int 0, .int 11, .ref 0]) (h' := zN (zup sgP 34 1 0)) (Ps := []) rfl trivial ?_
    refine zG_callv (a := 0) (c := 9) (As := [.int 11, .int 0, .int 0, .int 0]) (rest := []) (N2 := 411) bdSR_read_43 okSR_begin lk9_100 (And.intro (by decide) (by decide)) (by decide) rfl rfl rfl (Nat.le_of_ble_eq_true rfl) (Nat.le_of_ble_eq_true rfl) (Nat.le_refl 411) (Nat.le_refl 411) zob_0 (cSR_begin (okS_move iSh_1 ob (fun c j g1 g2 => by rw [zup_a (by omega)]; exact fp c j (by omega))) (by rw [zup_a (by decide), fp 36 2 (by decide)]; exact h0) (by rw [zup_a (by decide), fp 36 2 (by decide)]; exact h1) (by rw [zup_a (by decide), fp 36 3 (by decide)]; exact u0) (by rw [zup_a (by decide), fp 36 3 (by decide)]; exact u1)) ?_
    rintro rr h' ⟨sg1, rfl, rfl, hb⟩ -
    have fb := hBeg_317 (by rw [zup_a (by decide), fp 36 2 (by decide)]; exact h0) (by rw [zup_a (by decide), fp 36 2 (by decide)]; exact h1) hb
    have z2 : sg1 317 2 = sgP 317 2 := by rw [fb 317 2 (by decide) (by decide), zup_a (by decide)]
    obtain ⟨⟨r0, r1⟩, -⟩ := okp
    refine zG_run bkSR_read_46 (lv' := [(0, .ref 0)]) (st' := [.ref 317, .ref 1]) (h' := zN sg1) (Ps := [zOb (zN sg1) 0 9 ∧ (zN sg1).2.2 0 0 = true, zOb (zN sg1) 0 9 ∧ (zN sg1).2.2 0 7 = true]) rfl (zA ⟨zob_0, rfl⟩ (zA ⟨zob_0, rfl⟩ trivial)) ?_
    refine zG_callv (a := 1) (c := 5) (As := [.ref 317]) (rest := []) (N2 := 411) bdSR_read_54 okShe_startAnew lk9_220 (And.intro (by decide) (by decide)) (by decide) rfl rfl rfl (Nat.le_of_ble_eq_true rfl) (Nat.le_of_ble_eq_true rfl) (Nat.le_refl 411) (Nat.le_refl 411) zob_1 (cShe_startAnew (by lia) (by lia)) ?_
    rintro rr h' ⟨sg2, rfl, rfl, hn⟩ -
    refine zG_run bkSR_read_57 (lv' := [(0, .ref 0)]) (st' := [.int (sg2 1 2), .ref 0]) (h' := zN sg2) (Ps := [zOb (zN sg2) 0 9 ∧ (zN sg2).2.2 0 0 = true, zOb (zN sg2) 1 5]) rfl (zA ⟨zob_0, rfl⟩ (zA zob_1 trivial)) ?_
    refine zG_callv (a := 0) (c := 9) (As := [.int (sg2 1 2)]) (rest := []) (N2 := 411) bdSR_read_65 okSR_granted lk9_111 (And.intro (by decide) (by decide)) (by decide) rfl rfl rfl (Nat.le_of_ble_eq_true rfl) (Nat.le_of_ble_eq_true rfl) (Nat.le_refl 411) (Nat.le_refl 411) zob_0 cSR_granted ?_
    rintro rr h' ⟨rfl, rfl⟩ -
    refine zb_iret bkSR_read_68 bdSR_read_68 rfl (x := sg2 1 2) (h' := zN (hGrC sg2)) (Ps := []) rfl trivial rfl ?_
    exact ⟨sgP, hp, Or.inr ⟨by have q := c1; rw [zup_a (by decide)] at q; exact q, _, _, hb, hn, rfl, rfl⟩⟩
  · skip
    refine zG_run bkSR_read_30 (lv' := [(0, .ref 0)]) (st' := [.int (-6), .ref 0]) (h' := zN (zup sgP 34 1 0)) (Ps := []) rfl trivial ?_
    refine zG_callv (a := 0) (c := 9) (As := [.int (-6)]) (rest := []) (N2 := 411) bdSR_read_33 okSR_refused lk9_93 (And.intro (by decide) (by decide)) (by decide) rfl rfl rfl (Nat.le_of_ble_eq_true rfl) (Nat.le_of_ble_eq_true rfl) (Nat.le_refl 411) (Nat.le_refl 411) zob_0 (cSR_refused (by decide) (by decide)) ?_
    rintro rr h' ⟨rfl, rfl⟩ -
    refine zb_iret bkSR_read_36 bdSR_read_36 rfl (x := (-6)) (h' := zN (hRfC (zup sgP 34 1 0) (-6))) (Ps := []) rfl trivial rfl ?_
    exact ⟨sgP, hp, Or.inl ⟨by have q := c1; rw [zup_a (by decide)] at q; exact q, rfl, rfl⟩⟩
