/-! what letters look like: printed by wip/whole/p16.py -/
theorem zel4_rng {i : Int32} (h0 : 0 ≤ i) (h1 : i < 16) : 6 ≤ zel 4 i ∧ zel 4 i < 22 := by
  obtain ⟨j, hj, rfl, he⟩ := zel_4 h0 h1
  rw [he]; omega
theorem zel5_rng {i : Int32} (h0 : 0 ≤ i) (h1 : i < 12) : 22 ≤ zel 5 i ∧ zel 5 i < 34 := by
  obtain ⟨j, hj, rfl, he⟩ := zel_5 h0 h1
  rw [he]; omega
theorem zel4_inj {i j : Int32} (h0 : 0 ≤ i) (h1 : i < 16) (h2 : 0 ≤ j) (h3 : j < 16) (h : zel 4 i = zel 4 j) : i = j := by
  obtain ⟨a, ha, rfl, he⟩ := zel_4 h0 h1
  obtain ⟨b, hb, rfl, hf⟩ := zel_4 h2 h3
  rw [he, hf] at h
  have : a = b := by omega
  rw [this]
theorem zel5_inj {i j : Int32} (h0 : 0 ≤ i) (h1 : i < 12) (h2 : 0 ≤ j) (h3 : j < 12) (h : zel 5 i = zel 5 j) : i = j := by
  obtain ⟨a, ha, rfl, he⟩ := zel_5 h0 h1
  obtain ⟨b, hb, rfl, hf⟩ := zel_5 h2 h3
  rw [he, hf] at h
  have : a = b := by omega
  rw [this]
/-- one span over letter i, on a layer; but for one (wo), one (mv) being on another layer (mt) -/
def cS1 (sg : zSig) (wo mv mt i lay k a : Int32) : Int32 := if sg (zel 4 k) 0 ≠ 0 ∧ k ≠ wo ∧ (if k = mv then mt else sg (zel 4 k) 3) = lay ∧ sg (zel 4 k) 1 ≤ i ∧ i < sg (zel 4 k) 2 then fBr a (sg (zel 4 k) 4) (sg (zel 4 k) 5) (sg (zel 4 k) 6) (sg (zel 4 k) 7) else a
def cS2 (sg : zSig) (wo mv mt i lay a : Int32) : Int32 := zit (cS1 sg wo mv mt i lay) a (sg 1 4)
def cS (sg : zSig) (wo mv mt i : Int32) : Int32 := zit (cS2 sg wo mv mt i) (sg 3 i) 10
def seen (S : Int32 → Int32) (i : Int32) : Int32 := zit (fun j a => if S j = S i then 1 else a) 0 i
def uN (S : Int32 → Int32) (i a : Int32) : Int32 := if seen S i = 1 then a else a + 1
theorem zit_ex (p : Int32 → Prop) [DecidablePred p] {q : Int32} (hq : 0 ≤ q) : (zit (fun j a => if p j then 1 else a) (0 : Int32) q = 1 ∧ ∃ j, 0 ≤ j ∧ j < q ∧ p j) ∨ (zit (fun j a => if p j then 1 else a) (0 : Int32) q = 0 ∧ ∀ j, 0 ≤ j → j < q → ¬ p j) := by
  obtain ⟨n, hn, rfl⟩ := znn hq
  have key : ∀ m : Nat, m ≤ n → (zitN (fun j a => if p j then 1 else a) (0 : Int32) m = 1 ∧ ∃ j, 0 ≤ j ∧ j < nI m ∧ p j) ∨ (zitN (fun j a => if p j then 1 else a) (0 : Int32) m = 0 ∧ ∀ j, 0 ≤ j → j < nI m → ¬ p j) := by
    intro m
    induction m with
    | zero => intro _; right; exact ⟨rfl, fun j h1 h2 => by rw [nI_0] at h2; grind⟩
    | succ m ih =>
      intro hm
      have hlt : nI m < nI (m + 1) := nI_lt (by omega) (by omega)
      have hs : nI (m + 1) = nI m + 1 := (nI_1 m).symm
      have hp0 := nI_pos' (n := m) (by omega)
      show (((if p (nI m) then 1 else zitN (fun j a => if p j then 1 else a) (0 : Int32) m) : Int32) = 1 ∧ _) ∨ (((if p (nI m) then 1 else zitN (fun j a => if p j then 1 else a) (0 : Int32) m) : Int32) = 0 ∧ _)
      by_cases hp : p (nI m)
      · left; rw [if_pos hp]; exact ⟨rfl, nI m, hp0, hlt, hp⟩
      · rw [if_neg hp]
        rcases ih (by omega) with ⟨h1, j, h2, h3, h4⟩ | ⟨h1, h2⟩
        · left; exact ⟨h1, j, h2, by grind, h4⟩
        · right
          refine ⟨h1, fun j h3 h4 => ?_⟩
          by_cases hj : j = nI m
          · rw [hj]; exact hp
          · exact h2 j h3 (by grind)
  unfold zit
  rw [nI_clamp hn]
  exact key n (Nat.le_refl _)
theorem seen_or (S : Int32 → Int32) {i : Int32} (hi : 0 ≤ i) : (seen S i = 1 ∧ ∃ j, 0 ≤ j ∧ j < i ∧ S j = S i) ∨ (seen S i = 0 ∧ ∀ j, 0 ≤ j → j < i → ¬ S j = S i) := zit_ex (fun j => S j = S i) hi
theorem zcp_3_314 {sg : zSig} {sp dp n : Int32} (h1 : 0 ≤ sp) (h2 : 0 ≤ dp) (h3 : 0 ≤ n) (h4 : n ≤ 200) (h5 : n ≤ 200) (h6 : sp ≤ 200 - n) (h7 : dp ≤ 200 - n) : zCp (zN sg) 3 314 sp dp n := ⟨(by decide : 3 < 411), (by decide : 314 < 411), rfl, rfl, rfl, rfl, h1, h2, h3, h4, h5, h6, h7⟩
theorem zcp_3_316 {sg : zSig} {sp dp n : Int32} (h1 : 0 ≤ sp) (h2 : 0 ≤ dp) (h3 : 0 ≤ n) (h4 : n ≤ 200) (h5 : n ≤ 200) (h6 : sp ≤ 200 - n) (h7 : dp ≤ 200 - n) : zCp (zN sg) 3 316 sp dp n := ⟨(by decide : 3 < 411), (by decide : 316 < 411), rfl, rfl, rfl, rfl, h1, h2, h3, h4, h5, h6, h7⟩
theorem zcp_323_35 {sg : zSig} {sp dp n : Int32} (h1 : 0 ≤ sp) (h2 : 0 ≤ dp) (h3 : 0 ≤ n) (h4 : n ≤ 400) (h5 : n ≤ 400) (h6 : sp ≤ 400 - n) (h7 : dp ≤ 400 - n) : zCp (zN sg) 323 35 sp dp n := ⟨(by decide : 323 < 411), (by decide : 35 < 411), rfl, rfl, rfl, rfl, h1, h2, h3, h4, h5, h6, h7⟩
theorem zcp_318_2 {sg : zSig} {sp dp n : Int32} (h1 : 0 ≤ sp) (h2 : 0 ≤ dp) (h3 : 0 ≤ n) (h4 : n ≤ 200) (h5 : n ≤ 200) (h6 : sp ≤ 200 - n) (h7 : dp ≤ 200 - n) : zCp (zN sg) 318 2 sp dp n := ⟨(by decide : 318 < 411), (by decide : 2 < 411), rfl, rfl, rfl, rfl, h1, h2, h3, h4, h5, h6, h7⟩
theorem zcp_319_3 {sg : zSig} {sp dp n : Int32} (h1 : 0 ≤ sp) (h2 : 0 ≤ dp) (h3 : 0 ≤ n) (h4 : n ≤ 200) (h5 : n ≤ 200) (h6 : sp ≤ 200 - n) (h7 : dp ≤ 200 - n) : zCp (zN sg) 319 3 sp dp n := ⟨(by decide : 319 < 411), (by decide : 3 < 411), rfl, rfl, rfl, rfl, h1, h2, h3, h4, h5, h6, h7⟩
theorem zcp_2_2 {sg : zSig} {sp dp n : Int32} (h1 : 0 ≤ sp) (h2 : 0 ≤ dp) (h3 : 0 ≤ n) (h4 : n ≤ 200) (h5 : n ≤ 200) (h6 : sp ≤ 200 - n) (h7 : dp ≤ 200 - n) : zCp (zN sg) 2 2 sp dp n := ⟨(by decide : 2 < 411), (by decide : 2 < 411), rfl, rfl, rfl, rfl, h1, h2, h3, h4, h5, h6, h7⟩
theorem zcp_3_3 {sg : zSig} {sp dp n : Int32} (h1 : 0 ≤ sp) (h2 : 0 ≤ dp) (h3 : 0 ≤ n) (h4 : n ≤ 200) (h5 : n ≤ 200) (h6 : sp ≤ 200 - n) (h7 : dp ≤ 200 - n) : zCp (zN sg) 3 3 sp dp n := ⟨(by decide : 3 < 411), (by decide : 3 < 411), rfl, rfl, rfl, rfl, h1, h2, h3, h4, h5, h6, h7⟩
theorem bkLoo_unlikeStyles_0 : zBk mLoo_unlikeStyles 0 [(0, 0, 0, 0, 0), (2, 1, 0, 0, 0), (0, 0, 0, 0, 0), (2, 2, 0, 0, 0)] = some 4 := by decide +kernel
theorem bkLoo_unlikeStyles_4 : zBk mLoo_unlikeStyles 4 [(1, 2, 0, 0, 0), (1, 0, 1, 0, 0), (5, 3, 1, 0, 1)] = some 9 := by decide +kernel
theorem bkLoo_unlikeStyles_43 : zBk mLoo_unlikeStyles 43 [(1, 1, 0, 0, 0)] = some 44 := by decide +kernel
theorem bkLoo_unlikeStyles_12 : zBk mLoo_unlikeStyles 12 [(1, 0, 1, 0, 0), (1, 2, 0, 0, 0)] = some 14 := by decide +kernel
theorem bkLoo_unlikeStyles_17 : zBk mLoo_unlikeStyles 17 [] = some 17 := by decide +kernel
theorem bkLoo_unlikeStyles_37 : zBk mLoo_unlikeStyles 37 [(3, 2, 0, 0, 1), (22, 4, 0, 0, 0)] = some 4 := by decide +kernel
theorem bkLoo_unlikeStyles_20 : zBk mLoo_unlikeStyles 20 [(1, 0, 1, 0, 0), (1, 0, 1, 0, 0), (5, 3, 0, 1, 0), (1, 2, 0, 0, 0), (7, 0, 0, 0, 0), (1, 2, 0, 0, 0)] = some 28 := by decide +kernel
theorem bkLoo_unlikeStyles_31 : zBk mLoo_unlikeStyles 31 [] = some 31 := by decide +kernel
theorem bkLoo_unlikeStyles_34 : zBk mLoo_unlikeStyles 34 [(3, 1, 0, 0, 1), (3, 2, 0, 0, 1), (22, 4, 0, 0, 0)] = some 4 := by decide +kernel
theorem bdLoo_unlikeStyles_9 : decode mLoo_unlikeStyles.2.2.1 9 = .ok (.if_icmp .ge 34, 3) := by decide +kernel
theorem bdLoo_unlikeStyles_14 : decode mLoo_unlikeStyles.2.2.1 14 = .ok (.invokevirtual 84, 3) := by decide +kernel
theorem bdLoo_unlikeStyles_17 : decode mLoo_unlikeStyles.2.2.1 17 = .ok (.ifCond .eq 20, 3) := by decide +kernel
theorem bdLoo_unlikeStyles_28 : decode mLoo_unlikeStyles.2.2.1 28 = .ok (.invokevirtual 92, 3) := by decide +kernel
theorem bdLoo_unlikeStyles_31 : decode mLoo_unlikeStyles.2.2.1 31 = .ok (.ifCond .ne 6, 3) := by decide +kernel
theorem bdLoo_unlikeStyles_44 : decode mLoo_unlikeStyles.2.2.1 44 = .ok (.ireturn, 1) := by decide +kernel
theorem lLoo_unlikeStyles_313 {sg : zSig}  (hn0 : 0 ≤ sg 313 1) (hn : sg 313 1 ≤ 200) {Q : Option Value → zHp → Prop} (hq : ∀ rr h', (rr = some (.int (zit (uN (sg 314)) 0 (sg 313 1))) ∧ h' = zN sg) → Q rr h') : zG mLoo_unlikeStyles 411 Q 0 [(0, .ref 313)] [] (zN sg) := by
  refine zG_run bkLoo_unlikeStyles_0 (lv' := [(2, .int 0), (1, .int 0), (0, .ref 313)]) (st' := []) (h' := zN sg) (Ps := []) rfl trivial ?_
  refine zG_pick (lv' := [(0, .ref 313), (1, .int 0), (2, .int 0)]) [2, 1, 0] rfl ?_
  refine zlp2 (fun (n : Int32) (i : Int32) => zG mLoo_unlikeStyles 411 Q 4 [(0, .ref 313), (1, .int n), (2, .int i)] [] (zN sg)) (fun (n : Int32) (i : Int32) => (0 ≤ i) ∧ (i ≤ sg 313 1) ∧ (n = zit (uN (sg 314)) 0 i)) (fun (n : Int32) (i : Int32) => zmu (sg 313 1) i) ?_ 0 0 ?_
  · intro n i hI ih
    obtain ⟨h0, h1, h2⟩ := hI
    refine zb_icge (tgt := 43) bkLoo_unlikeStyles_4 bdLoo_unlikeStyles_9 (by decide) (lv' := [(0, .ref 313), (1, .int n), (2, .int i)]) (st' := []) (h' := zN sg) (x := i) (y := sg 313 1) (Ps := [zOb (zN sg) 313 3]) rfl (zA zob_313 trivial) (fun c1 => ?_) (fun c1 => ?_)
    · skip
      refine zb_iret bkLoo_unlikeStyles_43 bdLoo_unlikeStyles_44 rfl (x := n) (h' := zN sg) (Ps := []) rfl trivial rfl ?_
      refine hq _ _ ?_
      exact ⟨by grind, rfl⟩
    · skip
      refine zG_run bkLoo_unlikeStyles_12 (lv' := [(0, .ref 313), (1, .int n), (2, .int i)]) (st' := [.int i, .ref 313]) (h' := zN sg) (Ps := []) rfl trivial ?_
      refine zG_callv (a := 313) (c := 3) (As := [.int i]) (rest := []) (N2 := 411) bdLoo_unlikeStyles_14 okLoo_beginsRun lk3_84 (And.intro (by decide) (by decide)) (by decide) rfl rfl rfl (Nat.le_of_ble_eq_true rfl) (Nat.le_of_ble_eq_true rfl) (Nat.le_refl 411) (Nat.le_refl 411) zob_313 (cLoo_beginsRun_313 (by grind) (by grind)) ?_
      rintro rr h' ⟨rfl, rfl⟩ -
      refine zb_ifeq (tgt := 37) bkLoo_unlikeStyles_17 bdLoo_unlikeStyles_17 (by decide) (lv' := [(0, .ref 313), (1, .int n), (2, .int i)]) (st' := []) (h' := zN sg) (x := bg (sg 314) i) (Ps := []) rfl trivial (fun c2 => ?_) (fun c2 => ?_)
      · skip
        refine zG_run bkLoo_unlikeStyles_37 (lv' := [(2, .int (i + 1)), (0, .ref 313), (1, .int n)]) (st' := []) (h' := zN sg) (Ps := []) rfl trivial ?_
        refine zG_pick (lv' := [(0, .ref 313), (1, .int n), (2, .int (i + 1))]) [1, 2, 0] rfl ?_
        refine ih n (i + 1) ?_ ?_
        · refine ⟨?_, ?_, ?_⟩
          · grind
          · grind
          · rw [zit_s _ _ h0 (by grind : i < sg 313 1)]
            have hs := seen_or (sg 314) h0
            simp only [uN]
            have hb : bg (sg 314) i = 0 → ∃ j, 0 ≤ j ∧ j < i ∧ sg 314 j = sg 314 i := by intro hb; exact ⟨i - 1, by grind [bg], by grind [bg], by grind [bg]⟩
            grind
        · exact zmu_up (by grind)
      · skip
        refine zG_run bkLoo_unlikeStyles_20 (lv' := [(0, .ref 313), (1, .int n), (2, .int i)]) (st' := [.int i, .int (sg 314 i), .ref 313]) (h' := zN sg) (Ps := [zOb (zN sg) 313 3 ∧ (zN sg).2.2 313 0 = true, zInL (zN sg) 314 i]) rfl (zA ⟨zob_313, rfl⟩ (zA (zinL_314 (i := i) (by grind) (by grind)) trivial)) ?_
        refine zG_callv (a := 313) (c := 3) (As := [.int (sg 314 i), .int i]) (rest := []) (N2 := 411) bdLoo_unlikeStyles_28 okLoo_standsAhead lk3_92 (And.intro (by decide) (by decide)) (by decide) rfl rfl rfl (Nat.le_of_ble_eq_true rfl) (Nat.le_of_ble_eq_true rfl) (Nat.le_refl 411) (Nat.le_refl 411) zob_313 (cLoo_standsAhead_313 (y := sg 314 i) (q := i) (by grind) (by grind)) ?_
        rintro rr h' ⟨v3, rfl, rfl, hv⟩ -
        refine zb_ifne (tgt := 37) bkLoo_unlikeStyles_31 bdLoo_unlikeStyles_31 (by decide) (lv' := [(0, .ref 313), (1, .int n), (2, .int i)]) (st' := []) (h' := zN sg) (x := v3) (Ps := []) rfl trivial (fun c4 => ?_) (fun c4 => ?_)
        · skip
          refine zG_run bkLoo_unlikeStyles_37 (lv' := [(2, .int (i + 1)), (0, .ref 313), (1, .int n)]) (st' := []) (h' := zN sg) (Ps := []) rfl trivial ?_
          refine zG_pick (lv' := [(0, .ref 313), (1, .int n), (2, .int (i + 1))]) [1, 2, 0] rfl ?_
          refine ih n (i + 1) ?_ ?_
          · refine ⟨?_, ?_, ?_⟩
            · grind
            · grind
            · rw [zit_s _ _ h0 (by grind : i < sg 313 1)]
              have hs := seen_or (sg 314) h0
              simp only [uN]
              have hb : bg (sg 314) i = 0 → ∃ j, 0 ≤ j ∧ j < i ∧ sg 314 j = sg 314 i := by intro hb; exact ⟨i - 1, by grind [bg], by grind [bg], by grind [bg]⟩
              grind
          · exact zmu_up (by grind)
        · skip
          refine zG_run bkLoo_unlikeStyles_34 (lv' := [(2, .int (i + 1)), (1, .int (n + 1)), (0, .ref 313)]) (st' := []) (h' := zN sg) (Ps := []) rfl trivial ?_
          refine zG_pick (lv' := [(0, .ref 313), (1, .int (n + 1)), (2, .int (i + 1))]) [2, 1, 0] rfl ?_
          refine ih (n + 1) (i + 1) ?_ ?_
          · refine ⟨?_, ?_, ?_⟩
            · grind
            · grind
            · rw [zit_s _ _ h0 (by grind : i < sg 313 1)]
              have hs := seen_or (sg 314) h0
              simp only [uN]
              have hb : bg (sg 314) i = 0 → ∃ j, 0 ≤ j ∧ j < i ∧ sg 314 j = sg 314 i := by intro hb; exact ⟨i - 1, by grind [bg], by grind [bg], by grind [bg]⟩
              grind
          · exact zmu_up (by grind)
  · refine ⟨?_, ?_, ?_⟩
    · grind
    · grind
    · rfl
theorem cLoo_unlikeStyles_313 {sg : zSig}  (hn0 : 0 ≤ sg 313 1) (hn : sg 313 1 ≤ 200) : zG mLoo_unlikeStyles 411 (fun rr h' => rr = some (.int (zit (uN (sg 314)) 0 (sg 313 1))) ∧ h' = zN sg) 0 [(0, .ref 313)] [] (zN sg) := lLoo_unlikeStyles_313 hn0 hn (fun _ _ q => q)
theorem bkLoo_longestRun_0 : zBk mLoo_longestRun 0 [(1, 0, 1, 0, 0)] = some 1 := by decide +kernel
theorem bkLoo_longestRun_4 : zBk mLoo_longestRun 4 [(2, 1, 0, 0, 0), (0, 0, 0, 0, -1), (2, 2, 0, 0, 0), (0, 0, 0, 0, 0), (2, 3, 0, 0, 0), (0, 0, 0, 0, 0), (2, 4, 0, 0, 0)] = some 12 := by decide +kernel
theorem bkLoo_longestRun_12 : zBk mLoo_longestRun 12 [(1, 4, 0, 0, 0), (1, 0, 1, 0, 0), (5, 3, 1, 0, 1)] = some 18 := by decide +kernel
theorem bkLoo_longestRun_68 : zBk mLoo_longestRun 68 [(0, 0, 0, 0, -1)] = some 69 := by decide +kernel
theorem bkLoo_longestRun_21 : zBk mLoo_longestRun 21 [(1, 0, 1, 0, 0), (1, 4, 0, 0, 0)] = some 24 := by decide +kernel
theorem bkLoo_longestRun_27 : zBk mLoo_longestRun 27 [(2, 5, 0, 0, 0), (1, 5, 0, 0, 0)] = some 31 := by decide +kernel
theorem bkLoo_longestRun_40 : zBk mLoo_longestRun 40 [(1, 2, 0, 0, 0), (2, 2, 0, 0, 0), (1, 5, 0, 0, 0)] = some 44 := by decide +kernel
theorem bkLoo_longestRun_51 : zBk mLoo_longestRun 51 [(1, 3, 0, 0, 0), (0, 0, 0, 0, 1), (4, 0, 0, 0, 0), (2, 3, 0, 0, 0), (1, 3, 0, 0, 0), (1, 1, 0, 0, 0)] = some 57 := by decide +kernel
theorem bkLoo_longestRun_62 : zBk mLoo_longestRun 62 [(3, 4, 0, 0, 1), (22, 12, 0, 0, 0)] = some 12 := by decide +kernel
theorem bkLoo_longestRun_60 : zBk mLoo_longestRun 60 [(1, 2, 0, 0, 0)] = some 61 := by decide +kernel
theorem bkLoo_longestRun_47 : zBk mLoo_longestRun 47 [(0, 0, 0, 0, 1), (22, 54, 0, 0, 0), (2, 3, 0, 0, 0), (1, 3, 0, 0, 0), (1, 1, 0, 0, 0)] = some 57 := by decide +kernel
theorem bkLoo_longestRun_34 : zBk mLoo_longestRun 34 [(1, 2, 0, 0, 0), (0, 0, 0, 0, 1), (4, 0, 0, 0, 0), (22, 41, 0, 0, 0), (2, 2, 0, 0, 0), (1, 5, 0, 0, 0)] = some 44 := by decide +kernel
theorem bdLoo_longestRun_1 : decode mLoo_longestRun.2.2.1 1 = .ok (.invokevirtual 88, 3) := by decide +kernel
theorem bdLoo_longestRun_18 : decode mLoo_longestRun.2.2.1 18 = .ok (.if_icmp .ge 50, 3) := by decide +kernel
theorem bdLoo_longestRun_24 : decode mLoo_longestRun.2.2.1 24 = .ok (.invokevirtual 84, 3) := by decide +kernel
theorem bdLoo_longestRun_31 : decode mLoo_longestRun.2.2.1 31 = .ok (.ifCond .eq 9, 3) := by decide +kernel
theorem bdLoo_longestRun_44 : decode mLoo_longestRun.2.2.1 44 = .ok (.ifCond .eq 7, 3) := by decide +kernel
theorem bdLoo_longestRun_57 : decode mLoo_longestRun.2.2.1 57 = .ok (.if_icmp .ne 5, 3) := by decide +kernel
theorem bdLoo_longestRun_61 : decode mLoo_longestRun.2.2.1 61 = .ok (.ireturn, 1) := by decide +kernel
theorem bdLoo_longestRun_69 : decode mLoo_longestRun.2.2.1 69 = .ok (.ireturn, 1) := by decide +kernel
theorem lLoo_longestRun_313 {sg : zSig}  (hn0 : 0 ≤ sg 313 1) (hn : sg 313 1 ≤ 200) {Q : Option Value → zHp → Prop} (hq : ∀ rr h', (∃ v, rr = some (.int v) ∧ h' = zN sg ∧ ((∃ i, 0 ≤ i ∧ i < sg 313 1 ∧ v = zit (rN (sg 314)) (-1) (i + 1) ∧ (zit (rL (sg 314)) (0, 0) (i + 1)).2 = (zit (rL (sg 314)) (0, 0) (sg 313 1)).1 ∧ ∀ j, 0 ≤ j → j < i → (zit (rL (sg 314)) (0, 0) (j + 1)).2 ≠ (zit (rL (sg 314)) (0, 0) (sg 313 1)).1) ∨ (v = -1 ∧ ∀ j, 0 ≤ j → j < sg 313 1 → (zit (rL (sg 314)) (0, 0) (j + 1)).2 ≠ (zit (rL (sg 314)) (0, 0) (sg 313 1)).1))) → Q rr h') : zG mLoo_longestRun 411 Q 0 [(0, .ref 313)] [] (zN sg) := by
  refine zG_run bkLoo_longestRun_0 (lv' := [(0, .ref 313)]) (st' := [.ref 313]) (h' := zN sg) (Ps := []) rfl trivial ?_
  refine zG_callv (a := 313) (c := 3) (As := []) (rest := []) (N2 := 411) bdLoo_longestRun_1 okLoo_longestLength lk3_88 (And.intro (by decide) (by decide)) (by decide) rfl rfl rfl (Nat.le_of_ble_eq_true rfl) (Nat.le_of_ble_eq_true rfl) (Nat.le_refl 411) (Nat.le_refl 411) zob_313 (cLoo_longestLength_313 (by grind) (by grind)) ?_
  rintro rr h' ⟨rfl, rfl⟩ -
  refine zG_run bkLoo_longestRun_4 (lv' := [(4, .int 0), (3, .int 0), (2, .int (-1)), (1, .int ((zit (rL (sg 314)) (0, 0) (sg 313 1)).1)), (0, .ref 313)]) (st' := []) (h' := zN sg) (Ps := []) rfl trivial ?_
  refine zG_pick (lv' := [(0, .ref 313), (1, .int ((zit (rL (sg 314)) (0, 0) (sg 313 1)).1)), (2, .int (-1)), (3, .int 0), (4, .int 0)]) [4, 3, 2, 1, 0] rfl ?_
  refine zlp3 (fun (n : Int32) (le : Int32) (i : Int32) => zG mLoo_longestRun 411 Q 12 [(0, .ref 313), (1, .int ((zit (rL (sg 314)) (0, 0) (sg 313 1)).1)), (2, .int n), (3, .int le), (4, .int i)] [] (zN sg)) (fun (n : Int32) (le : Int32) (i : Int32) => (0 ≤ i) ∧ (i ≤ sg 313 1) ∧ (n = zit (rN (sg 314)) (-1) i) ∧ (le = (zit (rL (sg 314)) (0, 0) i).2) ∧ (∀ j, 0 ≤ j → j < i → (zit (rL (sg 314)) (0, 0) (j + 1)).2 ≠ (zit (rL (sg 314)) (0, 0) (sg 313 1)).1)) (fun (n : Int32) (le : Int32) (i : Int32) => zmu (sg 313 1) i) ?_ (-1) 0 0 ?_
  · intro n le i hI ih
    obtain ⟨h0, h1, h2, h3, h4⟩ := hI
    refine zb_icge (tgt := 68) bkLoo_longestRun_12 bdLoo_longestRun_18 (by decide) (lv' := [(0, .ref 313), (1, .int ((zit (rL (sg 314)) (0, 0) (sg 313 1)).1)), (2, .int n), (3, .int le), (4, .int i)]) (st' := []) (h' := zN sg) (x := i) (y := sg 313 1) (Ps := [zOb (zN sg) 313 3]) rfl (zA zob_313 trivial) (fun c1 => ?_) (fun c1 => ?_)
    · skip
      refine zb_iret bkLoo_longestRun_68 bdLoo_longestRun_69 rfl (x := (-1)) (h' := zN sg) (Ps := []) rfl trivial rfl ?_
      refine hq _ _ ?_
      exact ⟨_, rfl, rfl, Or.inr ⟨rfl, fun j h5 h6 => h4 j h5 (by grind)⟩⟩
    · skip
      refine zG_run bkLoo_longestRun_21 (lv' := [(0, .ref 313), (1, .int ((zit (rL (sg 314)) (0, 0) (sg 313 1)).1)), (2, .int n), (3, .int le), (4, .int i)]) (st' := [.int i, .ref 313]) (h' := zN sg) (Ps := []) rfl trivial ?_
      refine zG_callv (a := 313) (c := 3) (As := [.int i]) (rest := []) (N2 := 411) bdLoo_longestRun_24 okLoo_beginsRun lk3_84 (And.intro (by decide) (by decide)) (by decide) rfl rfl rfl (Nat.le_of_ble_eq_true rfl) (Nat.le_of_ble_eq_true rfl) (Nat.le_refl 411) (Nat.le_refl 411) zob_313 (cLoo_beginsRun_313 (by grind) (by grind)) ?_
      rintro rr h' ⟨rfl, rfl⟩ -
      refine zb_ifeq (tgt := 40) bkLoo_longestRun_27 bdLoo_longestRun_31 (by decide) (lv' := [(5, .int (bg (sg 314) i)), (0, .ref 313), (1, .int ((zit (rL (sg 314)) (0, 0) (sg 313 1)).1)), (2, .int n), (3, .int le), (4, .int i)]) (st' := []) (h' := zN sg) (x := bg (sg 314) i) (Ps := []) rfl trivial (fun c2 => ?_) (fun c2 => ?_)
      · skip
        refine zb_ifeq (tgt := 51) bkLoo_longestRun_40 bdLoo_longestRun_44 (by decide) (lv' := [(2, .int n), (5, .int (bg (sg 314) i)), (0, .ref 313), (1, .int ((zit (rL (sg 314)) (0, 0) (sg 313 1)).1)), (3, .int le), (4, .int i)]) (st' := []) (h' := zN sg) (x := bg (sg 314) i) (Ps := []) rfl trivial (fun c3 => ?_) (fun c3 => ?_)
        · skip
          refine zb_icne (tgt := 62) bkLoo_longestRun_51 bdLoo_longestRun_57 (by decide) (lv' := [(3, .int (le + 1)), (2, .int n), (5, .int (bg (sg 314) i)), (0, .ref 313), (1, .int ((zit (rL (sg 314)) (0, 0) (sg 313 1)).1)), (4, .int i)]) (st' := []) (h' := zN sg) (x := le + 1) (y := (zit (rL (sg 314)) (0, 0) (sg 313 1)).1) (Ps := []) rfl trivial (fun c4 => ?_) (fun c4 => ?_)
          · skip
            refine zG_run bkLoo_longestRun_62 (lv' := [(4, .int (i + 1)), (3, .int (le + 1)), (2, .int n), (5, .int (bg (sg 314) i)), (0, .ref 313), (1, .int ((zit (rL (sg 314)) (0, 0) (sg 313 1)).1))]) (st' := []) (h' := zN sg) (Ps := []) rfl trivial ?_
            refine zG_pick (lv' := [(0, .ref 313), (1, .int ((zit (rL (sg 314)) (0, 0) (sg 313 1)).1)), (2, .int n), (3, .int (le + 1)), (4, .int (i + 1))]) [4, 5, 2, 1, 0] rfl ?_
            refine ih n (le + 1) (i + 1) ?_ ?_
            · refine ⟨?_, ?_, ?_, ?_, ?_⟩
              · grind
              · grind
              · rw [zit_s _ _ h0 (by grind : i < sg 313 1)]; grind [rN]
              · rw [zit_s _ _ h0 (by grind : i < sg 313 1)]; simp only [rL]; grind
              · intro j hj0 hj1; by_cases hj : j = i; · subst hj; rw [zit_s _ _ h0 (by grind : j < sg 313 1)]; simp only [rL]; grind
                exact h4 j hj0 (by grind)
            · exact zmu_up (by grind)
          · skip
            refine zb_iret bkLoo_longestRun_60 bdLoo_longestRun_61 rfl (x := n) (h' := zN sg) (Ps := []) rfl trivial rfl ?_
            refine hq _ _ ?_
            exact ⟨_, rfl, rfl, Or.inl ⟨i, h0, by grind, by rw [zit_s _ _ h0 (by grind : i < sg 313 1)]; grind [rN], by rw [zit_s _ _ h0 (by grind : i < sg 313 1)]; simp only [rL]; grind, h4⟩⟩
        · skip
          refine zb_icne (tgt := 62) bkLoo_longestRun_47 bdLoo_longestRun_57 (by decide) (lv' := [(3, .int 1), (2, .int n), (5, .int (bg (sg 314) i)), (0, .ref 313), (1, .int ((zit (rL (sg 314)) (0, 0) (sg 313 1)).1)), (4, .int i)]) (st' := []) (h' := zN sg) (x := 1) (y := (zit (rL (sg 314)) (0, 0) (sg 313 1)).1) (Ps := []) rfl trivial (fun c5 => ?_) (fun c5 => ?_)
          · skip
            refine zG_run bkLoo_longestRun_62 (lv' := [(4, .int (i + 1)), (3, .int 1), (2, .int n), (5, .int (bg (sg 314) i)), (0, .ref 313), (1, .int ((zit (rL (sg 314)) (0, 0) (sg 313 1)).1))]) (st' := []) (h' := zN sg) (Ps := []) rfl trivial ?_
            refine zG_pick (lv' := [(0, .ref 313), (1, .int ((zit (rL (sg 314)) (0, 0) (sg 313 1)).1)), (2, .int n), (3, .int 1), (4, .int (i + 1))]) [4, 5, 2, 1, 0] rfl ?_
            refine ih n 1 (i + 1) ?_ ?_
            · refine ⟨?_, ?_, ?_, ?_, ?_⟩
              · grind
              · grind
              · rw [zit_s _ _ h0 (by grind : i < sg 313 1)]; grind [rN]
              · rw [zit_s _ _ h0 (by grind : i < sg 313 1)]; simp only [rL]; grind
              · intro j hj0 hj1; by_cases hj : j = i; · subst hj; rw [zit_s _ _ h0 (by grind : j < sg 313 1)]; simp only [rL]; grind
                exact h4 j hj0 (by grind)
            · exact zmu_up (by grind)
          · skip
            refine zb_iret bkLoo_longestRun_60 bdLoo_longestRun_61 rfl (x := n) (h' := zN sg) (Ps := []) rfl trivial rfl ?_
            refine hq _ _ ?_
            exact ⟨_, rfl, rfl, Or.inl ⟨i, h0, by grind, by rw [zit_s _ _ h0 (by grind : i < sg 313 1)]; grind [rN], by rw [zit_s _ _ h0 (by grind : i < sg 313 1)]; simp only [rL]; grind, h4⟩⟩
      · skip
        refine zb_ifeq (tgt := 51) bkLoo_longestRun_34 bdLoo_longestRun_44 (by decide) (lv' := [(2, .int (n + 1)), (5, .int (bg (sg 314) i)), (0, .ref 313), (1, .int ((zit (rL (sg 314)) (0, 0) (sg 313 1)).1)), (3, .int le), (4, .int i)]) (st' := []) (h' := zN sg) (x := bg (sg 314) i) (Ps := []) rfl trivial (fun c6 => ?_) (fun c6 => ?_)
        · skip
          refine zb_icne (tgt := 62) bkLoo_longestRun_51 bdLoo_longestRun_57 (by decide) (lv' := [(3, .int (le + 1)), (2, .int (n + 1)), (5, .int (bg (sg 314) i)), (0, .ref 313), (1, .int ((zit (rL (sg 314)) (0, 0) (sg 313 1)).1)), (4, .int i)]) (st' := []) (h' := zN sg) (x := le + 1) (y := (zit (rL (sg 314)) (0, 0) (sg 313 1)).1) (Ps := []) rfl trivial (fun c7 => ?_) (fun c7 => ?_)
          · skip
            refine zG_run bkLoo_longestRun_62 (lv' := [(4, .int (i + 1)), (3, .int (le + 1)), (2, .int (n + 1)), (5, .int (bg (sg 314) i)), (0, .ref 313), (1, .int ((zit (rL (sg 314)) (0, 0) (sg 313 1)).1))]) (st' := []) (h' := zN sg) (Ps := []) rfl trivial ?_
            refine zG_pick (lv' := [(0, .ref 313), (1, .int ((zit (rL (sg 314)) (0, 0) (sg 313 1)).1)), (2, .int (n + 1)), (3, .int (le + 1)), (4, .int (i + 1))]) [4, 5, 2, 1, 0] rfl ?_
            refine ih (n + 1) (le + 1) (i + 1) ?_ ?_
            · refine ⟨?_, ?_, ?_, ?_, ?_⟩
              · grind
              · grind
              · rw [zit_s _ _ h0 (by grind : i < sg 313 1)]; grind [rN]
              · rw [zit_s _ _ h0 (by grind : i < sg 313 1)]; simp only [rL]; grind
              · intro j hj0 hj1; by_cases hj : j = i; · subst hj; rw [zit_s _ _ h0 (by grind : j < sg 313 1)]; simp only [rL]; grind
                exact h4 j hj0 (by grind)
            · exact zmu_up (by grind)
          · skip
            refine zb_iret bkLoo_longestRun_60 bdLoo_longestRun_61 rfl (x := n + 1) (h' := zN sg) (Ps := []) rfl trivial rfl ?_
            refine hq _ _ ?_
            exact ⟨_, rfl, rfl, Or.inl ⟨i, h0, by grind, by rw [zit_s _ _ h0 (by grind : i < sg 313 1)]; grind [rN], by rw [zit_s _ _ h0 (by grind : i < sg 313 1)]; simp only [rL]; grind, h4⟩⟩
        · skip
          refine zb_icne (tgt := 62) bkLoo_longestRun_47 bdLoo_longestRun_57 (by decide) (lv' := [(3, .int 1), (2, .int (n + 1)), (5, .int (bg (sg 314) i)), (0, .ref 313), (1, .int ((zit (rL (sg 314)) (0, 0) (sg 313 1)).1)), (4, .int i)]) (st' := []) (h' := zN sg) (x := 1) (y := (zit (rL (sg 314)) (0, 0) (sg 313 1)).1) (Ps := []) rfl trivial (fun c8 => ?_) (fun c8 => ?_)
          · skip
            refine zG_run bkLoo_longestRun_62 (lv' := [(4, .int (i + 1)), (3, .int 1), (2, .int (n + 1)), (5, .int (bg (sg 314) i)), (0, .ref 313), (1, .int ((zit (rL (sg 314)) (0, 0) (sg 313 1)).1))]) (st' := []) (h' := zN sg) (Ps := []) rfl trivial ?_
            refine zG_pick (lv' := [(0, .ref 313), (1, .int ((zit (rL (sg 314)) (0, 0) (sg 313 1)).1)), (2, .int (n + 1)), (3, .int 1), (4, .int (i + 1))]) [4, 5, 2, 1, 0] rfl ?_
            refine ih (n + 1) 1 (i + 1) ?_ ?_
            · refine ⟨?_, ?_, ?_, ?_, ?_⟩
              · grind
              · grind
              · rw [zit_s _ _ h0 (by grind : i < sg 313 1)]; grind [rN]
              · rw [zit_s _ _ h0 (by grind : i < sg 313 1)]; simp only [rL]; grind
              · intro j hj0 hj1; by_cases hj : j = i; · subst hj; rw [zit_s _ _ h0 (by grind : j < sg 313 1)]; simp only [rL]; grind
                exact h4 j hj0 (by grind)
            · exact zmu_up (by grind)
          · skip
            refine zb_iret bkLoo_longestRun_60 bdLoo_longestRun_61 rfl (x := n + 1) (h' := zN sg) (Ps := []) rfl trivial rfl ?_
            refine hq _ _ ?_
            exact ⟨_, rfl, rfl, Or.inl ⟨i, h0, by grind, by rw [zit_s _ _ h0 (by grind : i < sg 313 1)]; grind [rN], by rw [zit_s _ _ h0 (by grind : i < sg 313 1)]; simp only [rL]; grind, h4⟩⟩
  · refine ⟨?_, ?_, ?_, ?_, ?_⟩
    · grind
    · grind
    · rfl
    · rfl
    · grind
theorem cLoo_longestRun_313 {sg : zSig}  (hn0 : 0 ≤ sg 313 1) (hn : sg 313 1 ≤ 200) : zG mLoo_longestRun 411 (fun rr h' => ∃ v, rr = some (.int v) ∧ h' = zN sg ∧ ((∃ i, 0 ≤ i ∧ i < sg 313 1 ∧ v = zit (rN (sg 314)) (-1) (i + 1) ∧ (zit (rL (sg 314)) (0, 0) (i + 1)).2 = (zit (rL (sg 314)) (0, 0) (sg 313 1)).1 ∧ ∀ j, 0 ≤ j → j < i → (zit (rL (sg 314)) (0, 0) (j + 1)).2 ≠ (zit (rL (sg 314)) (0, 0) (sg 313 1)).1) ∨ (v = -1 ∧ ∀ j, 0 ≤ j → j < sg 313 1 → (zit (rL (sg 314)) (0, 0) (j + 1)).2 ≠ (zit (rL (sg 314)) (0, 0) (sg 313 1)).1))) 0 [(0, .ref 313)] [] (zN sg) := lLoo_longestRun_313 hn0 hn (fun _ _ q => q)
theorem bkLoo_brush_0 : zBk mLoo_brush 0 [(1, 1, 1, 0, 0), (5, 6, 2, 0, 2), (1, 0, 1, 0, 0), (5, 3, 1, 0, 1)] = some 8 := by decide +kernel
theorem bkLoo_brush_11 : zBk mLoo_brush 11 [(2, 2, 0, 0, 0), (1, 1, 1, 0, 0), (5, 6, 1, 0, 1), (0, 0, 0, 0, 0)] = some 17 := by decide +kernel
theorem bkLoo_brush_20 : zBk mLoo_brush 20 [(2, 3, 0, 0, 0)] = some 21 := by decide +kernel
theorem bkLoo_brush_21 : zBk mLoo_brush 21 [(1, 3, 0, 0, 0), (1, 2, 0, 0, 0)] = some 23 := by decide +kernel
theorem bkLoo_brush_63 : zBk mLoo_brush 63 [] = some 63 := by decide +kernel
theorem bkLoo_brush_26 : zBk mLoo_brush 26 [(1, 0, 1, 0, 0), (5, 3, 0, 1, 0), (1, 3, 0, 0, 0), (1, 0, 1, 0, 0), (5, 3, 0, 1, 0), (1, 3, 0, 0, 0), (7, 0, 0, 0, 0), (1, 1, 1, 0, 0), (5, 6, 4, 0, 4), (1, 1, 1, 0, 0), (5, 6, 5, 0, 5), (1, 1, 1, 0, 0), (5, 6, 6, 0, 6), (1, 1, 1, 0, 0), (5, 6, 7, 0, 7)] = some 53 := by decide +kernel
theorem bkLoo_brush_56 : zBk mLoo_brush 56 [(8, 0, 0, 0, 0), (3, 3, 0, 0, 1), (22, 21, 0, 0, 0)] = some 21 := by decide +kernel
theorem bdLoo_brush_8 : decode mLoo_brush.2.2.1 8 = .ok (.invokestatic 54, 3) := by decide +kernel
theorem bdLoo_brush_17 : decode mLoo_brush.2.2.1 17 = .ok (.invokestatic 63, 3) := by decide +kernel
theorem bdLoo_brush_23 : decode mLoo_brush.2.2.1 23 = .ok (.if_icmp .ge 40, 3) := by decide +kernel
theorem bdLoo_brush_53 : decode mLoo_brush.2.2.1 53 = .ok (.invokestatic 78, 3) := by decide +kernel
theorem bdLoo_brush_63 : decode mLoo_brush.2.2.1 63 = .ok (.return_, 1) := by decide +kernel
theorem lLoo_brush_313 {sg : zSig} {s : Nat} (ho : zOb (zN sg) s 6) (hn0 : 0 ≤ sg 313 1) (hn : sg 313 1 ≤ 200) {Q : Option Value → zHp → Prop} (hq : ∀ rr h', (∃ sg', rr = none ∧ h' = zN sg' ∧ (∀ c j, c ≠ 314 → sg' c j = sg c j) ∧ ∀ j, 0 ≤ j → j < sg 313 1 → sg' 314 j = if sg s 1 ≤ j ∧ j < sg s 2 then fBr (sg 314 j) (sg s 4) (sg s 5) (sg s 6) (sg s 7) else sg 314 j) → Q rr h') : zG mLoo_brush 411 Q 0 [(0, .ref 313), (1, .ref s)] [] (zN sg) := by
  have hs : s ≠ 314 := by intro q; have := ho.2; rw [q] at this; exact absurd this (by decide)
  refine zG_run bkLoo_brush_0 (lv' := [(0, .ref 313), (1, .ref s)]) (st' := [.int (sg 313 1), .int (sg s 2)]) (h' := zN sg) (Ps := [zOb (zN sg) s 6, zOb (zN sg) 313 3]) rfl (zA ho (zA zob_313 trivial)) ?_
  refine zG_calls (As := [.int (sg s 2), .int (sg 313 1)]) (rest := []) (N2 := 411) bdLoo_brush_8 okMa_min lk3_54 (And.intro (by decide) (by decide)) rfl rfl (Nat.le_of_ble_eq_true rfl) (Nat.le_of_ble_eq_true rfl) (Nat.le_refl 411) (Nat.le_refl 411) cMa_min ?_
  rintro rr h' ⟨rfl, rfl⟩ -
  refine zG_run bkLoo_brush_11 (lv' := [(2, .int (fMin (sg s 2) (sg 313 1))), (0, .ref 313), (1, .ref s)]) (st' := [.int 0, .int (sg s 1)]) (h' := zN sg) (Ps := [zOb (zN sg) s 6]) rfl (zA ho trivial) ?_
  refine zG_calls (As := [.int (sg s 1), .int 0]) (rest := []) (N2 := 411) bdLoo_brush_17 okMa_max lk3_63 (And.intro (by decide) (by decide)) rfl rfl (Nat.le_of_ble_eq_true rfl) (Nat.le_of_ble_eq_true rfl) (Nat.le_refl 411) (Nat.le_refl 411) cMa_max ?_
  rintro rr h' ⟨rfl, rfl⟩ -
  refine zG_run bkLoo_brush_20 (lv' := [(3, .int (fMax (sg s 1) 0)), (2, .int (fMin (sg s 2) (sg 313 1))), (0, .ref 313), (1, .ref s)]) (st' := []) (h' := zN sg) (Ps := []) rfl trivial ?_
  refine zG_pick (lv' := [(0, .ref 313), (1, .ref s), (2, .int (fMin (sg s 2) (sg 313 1))), (3, .int (fMax (sg s 1) 0))]) [2, 3, 1, 0] rfl ?_
  refine zlp2 (fun (i : Int32) (sg1 : zSig) => zG mLoo_brush 411 Q 21 [(0, .ref 313), (1, .ref s), (2, .int (fMin (sg s 2) (sg 313 1))), (3, .int i)] [] (zN sg1)) (fun (i : Int32) (sg1 : zSig) => (fMax (sg s 1) 0 ≤ i) ∧ (∀ c j, c ≠ 314 → sg1 c j = sg c j) ∧ (∀ j, 0 ≤ j → j < sg 313 1 → sg1 314 j = if sg s 1 ≤ j ∧ j < sg s 2 ∧ j < i then fBr (sg 314 j) (sg s 4) (sg s 5) (sg s 6) (sg s 7) else sg 314 j)) (fun (i : Int32) (sg1 : zSig) => zmu (fMin (sg s 2) (sg 313 1)) i) ?_ (fMax (sg s 1) 0) sg ?_
  · intro i sg1 hI ih
    obtain ⟨h0, hf, h2⟩ := hI
    refine zb_icge (tgt := 63) bkLoo_brush_21 bdLoo_brush_23 (by decide) (lv' := [(0, .ref 313), (1, .ref s), (2, .int (fMin (sg s 2) (sg 313 1))), (3, .int i)]) (st' := []) (h' := zN sg1) (x := i) (y := fMin (sg s 2) (sg 313 1)) (Ps := []) rfl trivial (fun c1 => ?_) (fun c1 => ?_)
    · skip
      refine zb_vret bkLoo_brush_63 bdLoo_brush_63 rfl (h' := zN sg1) (Ps := []) rfl trivial rfl ?_
      refine hq _ _ ?_
      exact ⟨sg1, rfl, rfl, hf, fun j h5 h6 => by have h3 := h2 j h5 h6; grind [fMax, fMin]⟩
    · skip
      refine zG_run bkLoo_brush_26 (lv' := [(0, .ref 313), (1, .ref s), (2, .int (fMin (sg s 2) (sg 313 1))), (3, .int i)]) (st' := [.int (sg1 s 7), .int (sg1 s 6), .int (sg1 s 5), .int (sg1 s 4), .int (sg1 314 i), .int i, .ref 314]) (h' := zN sg1) (Ps := [zOb (zN sg1) 313 3 ∧ (zN sg1).2.2 313 0 = true, zOb (zN sg1) 313 3 ∧ (zN sg1).2.2 313 0 = true, zInL (zN sg1) 314 i, zOb (zN sg1) s 6, zOb (zN sg1) s 6, zOb (zN sg1) s 6, zOb (zN sg1) s 6]) rfl (zA ⟨zob_313, rfl⟩ (zA ⟨zob_313, rfl⟩ (zA (zinL_314 (i := i) (by grind [fMax, fMin]) (by grind [fMax, fMin])) (zA ho (zA ho (zA ho (zA ho trivial))))))) ?_
      refine zG_calls (As := [.int (sg1 314 i), .int (sg1 s 4), .int (sg1 s 5), .int (sg1 s 6), .int (sg1 s 7)]) (rest := [.int i, .ref 314]) (N2 := 411) bdLoo_brush_53 okSty_brushed lk3_78 (And.intro (by decide) (by decide)) rfl rfl (Nat.le_of_ble_eq_true rfl) (Nat.le_of_ble_eq_true rfl) (Nat.le_refl 411) (Nat.le_refl 411) cSty_brushed ?_
      rintro rr h' ⟨rfl, rfl⟩ -
      refine zG_run bkLoo_brush_56 (lv' := [(3, .int (i + 1)), (0, .ref 313), (1, .ref s), (2, .int (fMin (sg s 2) (sg 313 1)))]) (st' := []) (h' := zN (zup sg1 314 i (fBr (sg1 314 i) (sg1 s 4) (sg1 s 5) (sg1 s 6) (sg1 s 7)))) (Ps := [zIn (zN sg1) 314 0 i]) rfl (zA (zin_314 (i := i) (by grind [fMax, fMin]) (by grind [fMax, fMin])) trivial) ?_
      refine zG_pick (lv' := [(0, .ref 313), (1, .ref s), (2, .int (fMin (sg s 2) (sg 313 1))), (3, .int (i + 1))]) [1, 2, 3, 0] rfl ?_
      refine ih (i + 1) (zup sg1 314 i (fBr (sg1 314 i) (sg1 s 4) (sg1 s 5) (sg1 s 6) (sg1 s 7))) ?_ ?_
      · refine ⟨?_, ?_, ?_⟩
        · grind
        · intro c j hc; rw [zup_a hc]; exact hf c j hc
        · intro j hj0 hj1; rw [zup_e]; have h3 := h2 j hj0 hj1; have f4 := hf s 4 hs; have f5 := hf s 5 hs; have f6 := hf s 6 hs; have f7 := hf s 7 hs; grind [fMax, fMin]
      · exact zmu_up (by grind)
  · refine ⟨?_, ?_, ?_⟩
    · grind
    · intro c j _; rfl
    · grind [fMax]
theorem cLoo_brush_313 {sg : zSig} {s : Nat} (ho : zOb (zN sg) s 6) (hn0 : 0 ≤ sg 313 1) (hn : sg 313 1 ≤ 200) : zG mLoo_brush 411 (fun rr h' => ∃ sg', rr = none ∧ h' = zN sg' ∧ (∀ c j, c ≠ 314 → sg' c j = sg c j) ∧ ∀ j, 0 ≤ j → j < sg 313 1 → sg' 314 j = if sg s 1 ≤ j ∧ j < sg s 2 then fBr (sg 314 j) (sg s 4) (sg s 5) (sg s 6) (sg s 7) else sg 314 j) 0 [(0, .ref 313), (1, .ref s)] [] (zN sg) := lLoo_brush_313 ho hn0 hn (fun _ _ q => q)
theorem lLoo_unlikeStyles_315 {sg : zSig}  (hn0 : 0 ≤ sg 315 1) (hn : sg 315 1 ≤ 200) {Q : Option Value → zHp → Prop} (hq : ∀ rr h', (rr = some (.int (zit (uN (sg 316)) 0 (sg 315 1))) ∧ h' = zN sg) → Q rr h') : zG mLoo_unlikeStyles 411 Q 0 [(0, .ref 315)] [] (zN sg) := by
  refine zG_run bkLoo_unlikeStyles_0 (lv' := [(2, .int 0), (1, .int 0), (0, .ref 315)]) (st' := []) (h' := zN sg) (Ps := []) rfl trivial ?_
  refine zG_pick (lv' := [(0, .ref 315), (1, .int 0), (2, .int 0)]) [2, 1, 0] rfl ?_
  refine zlp2 (fun (n : Int32) (i : Int32) => zG mLoo_unlikeStyles 411 Q 4 [(0, .ref 315), (1, .int n), (2, .int i)] [] (zN sg)) (fun (n : Int32) (i : Int32) => (0 ≤ i) ∧ (i ≤ sg 315 1) ∧ (n = zit (uN (sg 316)) 0 i)) (fun (n : Int32) (i : Int32) => zmu (sg 315 1) i) ?_ 0 0 ?_
  · intro n i hI ih
    obtain ⟨h0, h1, h2⟩ := hI
    refine zb_icge (tgt := 43) bkLoo_unlikeStyles_4 bdLoo_unlikeStyles_9 (by decide) (lv' := [(0, .ref 315), (1, .int n), (2, .int i)]) (st' := []) (h' := zN sg) (x := i) (y := sg 315 1) (Ps := [zOb (zN sg) 315 3]) rfl (zA zob_315 trivial) (fun c1 => ?_) (fun c1 => ?_)
    · skip
      refine zb_iret bkLoo_unlikeStyles_43 bdLoo_unlikeStyles_44 rfl (x := n) (h' := zN sg) (Ps := []) rfl trivial rfl ?_
      refine hq _ _ ?_
      exact ⟨by grind, rfl⟩
    · skip
      refine zG_run bkLoo_unlikeStyles_12 (lv' := [(0, .ref 315), (1, .int n), (2, .int i)]) (st' := [.int i, .ref 315]) (h' := zN sg) (Ps := []) rfl trivial ?_
      refine zG_callv (a := 315) (c := 3) (As := [.int i]) (rest := []) (N2 := 411) bdLoo_unlikeStyles_14 okLoo_beginsRun lk3_84 (And.intro (by decide) (by decide)) (by decide) rfl rfl rfl (Nat.le_of_ble_eq_true rfl) (Nat.le_of_ble_eq_true rfl) (Nat.le_refl 411) (Nat.le_refl 411) zob_315 (cLoo_beginsRun_315 (by grind) (by grind)) ?_
      rintro rr h' ⟨rfl, rfl⟩ -
      refine zb_ifeq (tgt := 37) bkLoo_unlikeStyles_17 bdLoo_unlikeStyles_17 (by decide) (lv' := [(0, .ref 315), (1, .int n), (2, .int i)]) (st' := []) (h' := zN sg) (x := bg (sg 316) i) (Ps := []) rfl trivial (fun c2 => ?_) (fun c2 => ?_)
      · skip
        refine zG_run bkLoo_unlikeStyles_37 (lv' := [(2, .int (i + 1)), (0, .ref 315), (1, .int n)]) (st' := []) (h' := zN sg) (Ps := []) rfl trivial ?_
        refine zG_pick (lv' := [(0, .ref 315), (1, .int n), (2, .int (i + 1))]) [1, 2, 0] rfl ?_
        refine ih n (i + 1) ?_ ?_
        · refine ⟨?_, ?_, ?_⟩
          · grind
          · grind
          · rw [zit_s _ _ h0 (by grind : i < sg 315 1)]
            have hs := seen_or (sg 316) h0
            simp only [uN]
            have hb : bg (sg 316) i = 0 → ∃ j, 0 ≤ j ∧ j < i ∧ sg 316 j = sg 316 i := by intro hb; exact ⟨i - 1, by grind [bg], by grind [bg], by grind [bg]⟩
            grind
        · exact zmu_up (by grind)
      · skip
        refine zG_run bkLoo_unlikeStyles_20 (lv' := [(0, .ref 315), (1, .int n), (2, .int i)]) (st' := [.int i, .int (sg 316 i), .ref 315]) (h' := zN sg) (Ps := [zOb (zN sg) 315 3 ∧ (zN sg).2.2 315 0 = true, zInL (zN sg) 316 i]) rfl (zA ⟨zob_315, rfl⟩ (zA (zinL_316 (i := i) (by grind) (by grind)) trivial)) ?_
        refine zG_callv (a := 315) (c := 3) (As := [.int (sg 316 i), .int i]) (rest := []) (N2 := 411) bdLoo_unlikeStyles_28 okLoo_standsAhead lk3_92 (And.intro (by decide) (by decide)) (by decide) rfl rfl rfl (Nat.le_of_ble_eq_true rfl) (Nat.le_of_ble_eq_true rfl) (Nat.le_refl 411) (Nat.le_refl 411) zob_315 (cLoo_standsAhead_315 (y := sg 316 i) (q := i) (by grind) (by grind)) ?_
        rintro rr h' ⟨v3, rfl, rfl, hv⟩ -
        refine zb_ifne (tgt := 37) bkLoo_unlikeStyles_31 bdLoo_unlikeStyles_31 (by decide) (lv' := [(0, .ref 315), (1, .int n), (2, .int i)]) (st' := []) (h' := zN sg) (x := v3) (Ps := []) rfl trivial (fun c4 => ?_) (fun c4 => ?_)
        · skip
          refine zG_run bkLoo_unlikeStyles_37 (lv' := [(2, .int (i + 1)), (0, .ref 315), (1, .int n)]) (st' := []) (h' := zN sg) (Ps := []) rfl trivial ?_
          refine zG_pick (lv' := [(0, .ref 315), (1, .int n), (2, .int (i + 1))]) [1, 2, 0] rfl ?_
          refine ih n (i + 1) ?_ ?_
          · refine ⟨?_, ?_, ?_⟩
            · grind
            · grind
            · rw [zit_s _ _ h0 (by grind : i < sg 315 1)]
              have hs := seen_or (sg 316) h0
              simp only [uN]
              have hb : bg (sg 316) i = 0 → ∃ j, 0 ≤ j ∧ j < i ∧ sg 316 j = sg 316 i := by intro hb; exact ⟨i - 1, by grind [bg], by grind [bg], by grind [bg]⟩
              grind
          · exact zmu_up (by grind)
        · skip
          refine zG_run bkLoo_unlikeStyles_34 (lv' := [(2, .int (i + 1)), (1, .int (n + 1)), (0, .ref 315)]) (st' := []) (h' := zN sg) (Ps := []) rfl trivial ?_
          refine zG_pick (lv' := [(0, .ref 315), (1, .int (n + 1)), (2, .int (i + 1))]) [2, 1, 0] rfl ?_
          refine ih (n + 1) (i + 1) ?_ ?_
          · refine ⟨?_, ?_, ?_⟩
            · grind
            · grind
            · rw [zit_s _ _ h0 (by grind : i < sg 315 1)]
              have hs := seen_or (sg 316) h0
              simp only [uN]
              have hb : bg (sg 316) i = 0 → ∃ j, 0 ≤ j ∧ j < i ∧ sg 316 j = sg 316 i := by intro hb; exact ⟨i - 1, by grind [bg], by grind [bg], by grind [bg]⟩
              grind
          · exact zmu_up (by grind)
  · refine ⟨?_, ?_, ?_⟩
    · grind
    · grind
    · rfl
theorem cLoo_unlikeStyles_315 {sg : zSig}  (hn0 : 0 ≤ sg 315 1) (hn : sg 315 1 ≤ 200) : zG mLoo_unlikeStyles 411 (fun rr h' => rr = some (.int (zit (uN (sg 316)) 0 (sg 315 1))) ∧ h' = zN sg) 0 [(0, .ref 315)] [] (zN sg) := lLoo_unlikeStyles_315 hn0 hn (fun _ _ q => q)
theorem lLoo_longestRun_315 {sg : zSig}  (hn0 : 0 ≤ sg 315 1) (hn : sg 315 1 ≤ 200) {Q : Option Value → zHp → Prop} (hq : ∀ rr h', (∃ v, rr = some (.int v) ∧ h' = zN sg ∧ ((∃ i, 0 ≤ i ∧ i < sg 315 1 ∧ v = zit (rN (sg 316)) (-1) (i + 1) ∧ (zit (rL (sg 316)) (0, 0) (i + 1)).2 = (zit (rL (sg 316)) (0, 0) (sg 315 1)).1 ∧ ∀ j, 0 ≤ j → j < i → (zit (rL (sg 316)) (0, 0) (j + 1)).2 ≠ (zit (rL (sg 316)) (0, 0) (sg 315 1)).1) ∨ (v = -1 ∧ ∀ j, 0 ≤ j → j < sg 315 1 → (zit (rL (sg 316)) (0, 0) (j + 1)).2 ≠ (zit (rL (sg 316)) (0, 0) (sg 315 1)).1))) → Q rr h') : zG mLoo_longestRun 411 Q 0 [(0, .ref 315)] [] (zN sg) := by
  refine zG_run bkLoo_longestRun_0 (lv' := [(0, .ref 315)]) (st' := [.ref 315]) (h' := zN sg) (Ps := []) rfl trivial ?_
  refine zG_callv (a := 315) (c := 3) (As := []) (rest := []) (N2 := 411) bdLoo_longestRun_1 okLoo_longestLength lk3_88 (And.intro (by decide) (by decide)) (by decide) rfl rfl rfl (Nat.le_of_ble_eq_true rfl) (Nat.le_of_ble_eq_true rfl) (Nat.le_refl 411) (Nat.le_refl 411) zob_315 (cLoo_longestLength_315 (by grind) (by grind)) ?_
  rintro rr h' ⟨rfl, rfl⟩ -
  refine zG_run bkLoo_longestRun_4 (lv' := [(4, .int 0), (3, .int 0), (2, .int (-1)), (1, .int ((zit (rL (sg 316)) (0, 0) (sg 315 1)).1)), (0, .ref 315)]) (st' := []) (h' := zN sg) (Ps := []) rfl trivial ?_
  refine zG_pick (lv' := [(0, .ref 315), (1, .int ((zit (rL (sg 316)) (0, 0) (sg 315 1)).1)), (2, .int (-1)), (3, .int 0), (4, .int 0)]) [4, 3, 2, 1, 0] rfl ?_
  refine zlp3 (fun (n : Int32) (le : Int32) (i : Int32) => zG mLoo_longestRun 411 Q 12 [(0, .ref 315), (1, .int ((zit (rL (sg 316)) (0, 0) (sg 315 1)).1)), (2, .int n), (3, .int le), (4, .int i)] [] (zN sg)) (fun (n : Int32) (le : Int32) (i : Int32) => (0 ≤ i) ∧ (i ≤ sg 315 1) ∧ (n = zit (rN (sg 316)) (-1) i) ∧ (le = (zit (rL (sg 316)) (0, 0) i).2) ∧ (∀ j, 0 ≤ j → j < i → (zit (rL (sg 316)) (0, 0) (j + 1)).2 ≠ (zit (rL (sg 316)) (0, 0) (sg 315 1)).1)) (fun (n : Int32) (le : Int32) (i : Int32) => zmu (sg 315 1) i) ?_ (-1) 0 0 ?_
  · intro n le i hI ih
    obtain ⟨h0, h1, h2, h3, h4⟩ := hI
    refine zb_icge (tgt := 68) bkLoo_longestRun_12 bdLoo_longestRun_18 (by decide) (lv' := [(0, .ref 315), (1, .int ((zit (rL (sg 316)) (0, 0) (sg 315 1)).1)), (2, .int n), (3, .int le), (4, .int i)]) (st' := []) (h' := zN sg) (x := i) (y := sg 315 1) (Ps := [zOb (zN sg) 315 3]) rfl (zA zob_315 trivial) (fun c1 => ?_) (fun c1 => ?_)
    · skip
      refine zb_iret bkLoo_longestRun_68 bdLoo_longestRun_69 rfl (x := (-1)) (h' := zN sg) (Ps := []) rfl trivial rfl ?_
      refine hq _ _ ?_
      exact ⟨_, rfl, rfl, Or.inr ⟨rfl, fun j h5 h6 => h4 j h5 (by grind)⟩⟩
    · skip
      refine zG_run bkLoo_longestRun_21 (lv' := [(0, .ref 315), (1, .int ((zit (rL (sg 316)) (0, 0) (sg 315 1)).1)), (2, .int n), (3, .int le), (4, .int i)]) (st' := [.int i, .ref 315]) (h' := zN sg) (Ps := []) rfl trivial ?_
      refine zG_callv (a := 315) (c := 3) (As := [.int i]) (rest := []) (N2 := 411) bdLoo_longestRun_24 okLoo_beginsRun lk3_84 (And.intro (by decide) (by decide)) (by decide) rfl rfl rfl (Nat.le_of_ble_eq_true rfl) (Nat.le_of_ble_eq_true rfl) (Nat.le_refl 411) (Nat.le_refl 411) zob_315 (cLoo_beginsRun_315 (by grind) (by grind)) ?_
      rintro rr h' ⟨rfl, rfl⟩ -
      refine zb_ifeq (tgt := 40) bkLoo_longestRun_27 bdLoo_longestRun_31 (by decide) (lv' := [(5, .int (bg (sg 316) i)), (0, .ref 315), (1, .int ((zit (rL (sg 316)) (0, 0) (sg 315 1)).1)), (2, .int n), (3, .int le), (4, .int i)]) (st' := []) (h' := zN sg) (x := bg (sg 316) i) (Ps := []) rfl trivial (fun c2 => ?_) (fun c2 => ?_)
      · skip
        refine zb_ifeq (tgt := 51) bkLoo_longestRun_40 bdLoo_longestRun_44 (by decide) (lv' := [(2, .int n), (5, .int (bg (sg 316) i)), (0, .ref 315), (1, .int ((zit (rL (sg 316)) (0, 0) (sg 315 1)).1)), (3, .int le), (4, .int i)]) (st' := []) (h' := zN sg) (x := bg (sg 316) i) (Ps := []) rfl trivial (fun c3 => ?_) (fun c3 => ?_)
        · skip
          refine zb_icne (tgt := 62) bkLoo_longestRun_51 bdLoo_longestRun_57 (by decide) (lv' := [(3, .int (le + 1)), (2, .int n), (5, .int (bg (sg 316) i)), (0, .ref 315), (1, .int ((zit (rL (sg 316)) (0, 0) (sg 315 1)).1)), (4, .int i)]) (st' := []) (h' := zN sg) (x := le + 1) (y := (zit (rL (sg 316)) (0, 0) (sg 315 1)).1) (Ps := []) rfl trivial (fun c4 => ?_) (fun c4 => ?_)
          · skip
            refine zG_run bkLoo_longestRun_62 (lv' := [(4, .int (i + 1)), (3, .int (le + 1)), (2, .int n), (5, .int (bg (sg 316) i)), (0, .ref 315), (1, .int ((zit (rL (sg 316)) (0, 0) (sg 315 1)).1))]) (st' := []) (h' := zN sg) (Ps := []) rfl trivial ?_
            refine zG_pick (lv' := [(0, .ref 315), (1, .int ((zit (rL (sg 316)) (0, 0) (sg 315 1)).1)), (2, .int n), (3, .int (le + 1)), (4, .int (i + 1))]) [4, 5, 2, 1, 0] rfl ?_
            refine ih n (le + 1) (i + 1) ?_ ?_
            · refine ⟨?_, ?_, ?_, ?_, ?_⟩
              · grind
              · grind
              · rw [zit_s _ _ h0 (by grind : i < sg 315 1)]; grind [rN]
              · rw [zit_s _ _ h0 (by grind : i < sg 315 1)]; simp only [rL]; grind
              · intro j hj0 hj1; by_cases hj : j = i; · subst hj; rw [zit_s _ _ h0 (by grind : j < sg 315 1)]; simp only [rL]; grind
                exact h4 j hj0 (by grind)
            · exact zmu_up (by grind)
          · skip
            refine zb_iret bkLoo_longestRun_60 bdLoo_longestRun_61 rfl (x := n) (h' := zN sg) (Ps := []) rfl trivial rfl ?_
            refine hq _ _ ?_
            exact ⟨_, rfl, rfl, Or.inl ⟨i, h0, by grind, by rw [zit_s _ _ h0 (by grind : i < sg 315 1)]; grind [rN], by rw [zit_s _ _ h0 (by grind : i < sg 315 1)]; simp only [rL]; grind, h4⟩⟩
        · skip
          refine zb_icne (tgt := 62) bkLoo_longestRun_47 bdLoo_longestRun_57 (by decide) (lv' := [(3, .int 1), (2, .int n), (5, .int (bg (sg 316) i)), (0, .ref 315), (1, .int ((zit (rL (sg 316)) (0, 0) (sg 315 1)).1)), (4, .int i)]) (st' := []) (h' := zN sg) (x := 1) (y := (zit (rL (sg 316)) (0, 0) (sg 315 1)).1) (Ps := []) rfl trivial (fun c5 => ?_) (fun c5 => ?_)
          · skip
            refine zG_run bkLoo_longestRun_62 (lv' := [(4, .int (i + 1)), (3, .int 1), (2, .int n), (5, .int (bg (sg 316) i)), (0, .ref 315), (1, .int ((zit (rL (sg 316)) (0, 0) (sg 315 1)).1))]) (st' := []) (h' := zN sg) (Ps := []) rfl trivial ?_
            refine zG_pick (lv' := [(0, .ref 315), (1, .int ((zit (rL (sg 316)) (0, 0) (sg 315 1)).1)), (2, .int n), (3, .int 1), (4, .int (i + 1))]) [4, 5, 2, 1, 0] rfl ?_
            refine ih n 1 (i + 1) ?_ ?_
            · refine ⟨?_, ?_, ?_, ?_, ?_⟩
              · grind
              · grind
              · rw [zit_s _ _ h0 (by grind : i < sg 315 1)]; grind [rN]
              · rw [zit_s _ _ h0 (by grind : i < sg 315 1)]; simp only [rL]; grind
              · intro j hj0 hj1; by_cases hj : j = i; · subst hj; rw [zit_s _ _ h0 (by grind : j < sg 315 1)]; simp only [rL]; grind
                exact h4 j hj0 (by grind)
            · exact zmu_up (by grind)
          · skip
            refine zb_iret bkLoo_longestRun_60 bdLoo_longestRun_61 rfl (x := n) (h' := zN sg) (Ps := []) rfl trivial rfl ?_
            refine hq _ _ ?_
            exact ⟨_, rfl, rfl, Or.inl ⟨i, h0, by grind, by rw [zit_s _ _ h0 (by grind : i < sg 315 1)]; grind [rN], by rw [zit_s _ _ h0 (by grind : i < sg 315 1)]; simp only [rL]; grind, h4⟩⟩
      · skip
        refine zb_ifeq (tgt := 51) bkLoo_longestRun_34 bdLoo_longestRun_44 (by decide) (lv' := [(2, .int (n + 1)), (5, .int (bg (sg 316) i)), (0, .ref 315), (1, .int ((zit (rL (sg 316)) (0, 0) (sg 315 1)).1)), (3, .int le), (4, .int i)]) (st' := []) (h' := zN sg) (x := bg (sg 316) i) (Ps := []) rfl trivial (fun c6 => ?_) (fun c6 => ?_)
        · skip
          refine zb_icne (tgt := 62) bkLoo_longestRun_51 bdLoo_longestRun_57 (by decide) (lv' := [(3, .int (le + 1)), (2, .int (n + 1)), (5, .int (bg (sg 316) i)), (0, .ref 315), (1, .int ((zit (rL (sg 316)) (0, 0) (sg 315 1)).1)), (4, .int i)]) (st' := []) (h' := zN sg) (x := le + 1) (y := (zit (rL (sg 316)) (0, 0) (sg 315 1)).1) (Ps := []) rfl trivial (fun c7 => ?_) (fun c7 => ?_)
          · skip
            refine zG_run bkLoo_longestRun_62 (lv' := [(4, .int (i + 1)), (3, .int (le + 1)), (2, .int (n + 1)), (5, .int (bg (sg 316) i)), (0, .ref 315), (1, .int ((zit (rL (sg 316)) (0, 0) (sg 315 1)).1))]) (st' := []) (h' := zN sg) (Ps := []) rfl trivial ?_
            refine zG_pick (lv' := [(0, .ref 315), (1, .int ((zit (rL (sg 316)) (0, 0) (sg 315 1)).1)), (2, .int (n + 1)), (3, .int (le + 1)), (4, .int (i + 1))]) [4, 5, 2, 1, 0] rfl ?_
            refine ih (n + 1) (le + 1) (i + 1) ?_ ?_
            · refine ⟨?_, ?_, ?_, ?_, ?_⟩
              · grind
              · grind
              · rw [zit_s _ _ h0 (by grind : i < sg 315 1)]; grind [rN]
              · rw [zit_s _ _ h0 (by grind : i < sg 315 1)]; simp only [rL]; grind
              · intro j hj0 hj1; by_cases hj : j = i; · subst hj; rw [zit_s _ _ h0 (by grind : j < sg 315 1)]; simp only [rL]; grind
                exact h4 j hj0 (by grind)
            · exact zmu_up (by grind)
          · skip
            refine zb_iret bkLoo_longestRun_60 bdLoo_longestRun_61 rfl (x := n + 1) (h' := zN sg) (Ps := []) rfl trivial rfl ?_
            refine hq _ _ ?_
            exact ⟨_, rfl, rfl, Or.inl ⟨i, h0, by grind, by rw [zit_s _ _ h0 (by grind : i < sg 315 1)]; grind [rN], by rw [zit_s _ _ h0 (by grind : i < sg 315 1)]; simp only [rL]; grind, h4⟩⟩
        · skip
          refine zb_icne (tgt := 62) bkLoo_longestRun_47 bdLoo_longestRun_57 (by decide) (lv' := [(3, .int 1), (2, .int (n + 1)), (5, .int (bg (sg 316) i)), (0, .ref 315), (1, .int ((zit (rL (sg 316)) (0, 0) (sg 315 1)).1)), (4, .int i)]) (st' := []) (h' := zN sg) (x := 1) (y := (zit (rL (sg 316)) (0, 0) (sg 315 1)).1) (Ps := []) rfl trivial (fun c8 => ?_) (fun c8 => ?_)
          · skip
            refine zG_run bkLoo_longestRun_62 (lv' := [(4, .int (i + 1)), (3, .int 1), (2, .int (n + 1)), (5, .int (bg (sg 316) i)), (0, .ref 315), (1, .int ((zit (rL (sg 316)) (0, 0) (sg 315 1)).1))]) (st' := []) (h' := zN sg) (Ps := []) rfl trivial ?_
            refine zG_pick (lv' := [(0, .ref 315), (1, .int ((zit (rL (sg 316)) (0, 0) (sg 315 1)).1)), (2, .int (n + 1)), (3, .int 1), (4, .int (i + 1))]) [4, 5, 2, 1, 0] rfl ?_
            refine ih (n + 1) 1 (i + 1) ?_ ?_
            · refine ⟨?_, ?_, ?_, ?_, ?_⟩
              · grind
              · grind
              · rw [zit_s _ _ h0 (by grind : i < sg 315 1)]; grind [rN]
              · rw [zit_s _ _ h0 (by grind : i < sg 315 1)]; simp only [rL]; grind
              · intro j hj0 hj1; by_cases hj : j = i; · subst hj; rw [zit_s _ _ h0 (by grind : j < sg 315 1)]; simp only [rL]; grind
                exact h4 j hj0 (by grind)
            · exact zmu_up (by grind)
          · skip
            refine zb_iret bkLoo_longestRun_60 bdLoo_longestRun_61 rfl (x := n + 1) (h' := zN sg) (Ps := []) rfl trivial rfl ?_
            refine hq _ _ ?_
            exact ⟨_, rfl, rfl, Or.inl ⟨i, h0, by grind, by rw [zit_s _ _ h0 (by grind : i < sg 315 1)]; grind [rN], by rw [zit_s _ _ h0 (by grind : i < sg 315 1)]; simp only [rL]; grind, h4⟩⟩
  · refine ⟨?_, ?_, ?_, ?_, ?_⟩
    · grind
    · grind
    · rfl
    · rfl
    · grind
theorem cLoo_longestRun_315 {sg : zSig}  (hn0 : 0 ≤ sg 315 1) (hn : sg 315 1 ≤ 200) : zG mLoo_longestRun 411 (fun rr h' => ∃ v, rr = some (.int v) ∧ h' = zN sg ∧ ((∃ i, 0 ≤ i ∧ i < sg 315 1 ∧ v = zit (rN (sg 316)) (-1) (i + 1) ∧ (zit (rL (sg 316)) (0, 0) (i + 1)).2 = (zit (rL (sg 316)) (0, 0) (sg 315 1)).1 ∧ ∀ j, 0 ≤ j → j < i → (zit (rL (sg 316)) (0, 0) (j + 1)).2 ≠ (zit (rL (sg 316)) (0, 0) (sg 315 1)).1) ∨ (v = -1 ∧ ∀ j, 0 ≤ j → j < sg 315 1 → (zit (rL (sg 316)) (0, 0) (j + 1)).2 ≠ (zit (rL (sg 316)) (0, 0) (sg 315 1)).1))) 0 [(0, .ref 315)] [] (zN sg) := lLoo_longestRun_315 hn0 hn (fun _ _ q => q)
theorem lLoo_brush_315 {sg : zSig} {s : Nat} (ho : zOb (zN sg) s 6) (hn0 : 0 ≤ sg 315 1) (hn : sg 315 1 ≤ 200) {Q : Option Value → zHp → Prop} (hq : ∀ rr h', (∃ sg', rr = none ∧ h' = zN sg' ∧ (∀ c j, c ≠ 316 → sg' c j = sg c j) ∧ ∀ j, 0 ≤ j → j < sg 315 1 → sg' 316 j = if sg s 1 ≤ j ∧ j < sg s 2 then fBr (sg 316 j) (sg s 4) (sg s 5) (sg s 6) (sg s 7) else sg 316 j) → Q rr h') : zG mLoo_brush 411 Q 0 [(0, .ref 315), (1, .ref s)] [] (zN sg) := by
  have hs : s ≠ 316 := by intro q; have := ho.2; rw [q] at this; exact absurd this (by decide)
  refine zG_run bkLoo_brush_0 (lv' := [(0, .ref 315), (1, .ref s)]) (st' := [.int (sg 315 1), .int (sg s 2)]) (h' := zN sg) (Ps := [zOb (zN sg) s 6, zOb (zN sg) 315 3]) rfl (zA ho (zA zob_315 trivial)) ?_
  refine zG_calls (As := [.int (sg s 2), .int (sg 315 1)]) (rest := []) (N2 := 411) bdLoo_brush_8 okMa_min lk3_54 (And.intro (by decide) (by decide)) rfl rfl (Nat.le_of_ble_eq_true rfl) (Nat.le_of_ble_eq_true rfl) (Nat.le_refl 411) (Nat.le_refl 411) cMa_min ?_
  rintro rr h' ⟨rfl, rfl⟩ -
  refine zG_run bkLoo_brush_11 (lv' := [(2, .int (fMin (sg s 2) (sg 315 1))), (0, .ref 315), (1, .ref s)]) (st' := [.int 0, .int (sg s 1)]) (h' := zN sg) (Ps := [zOb (zN sg) s 6]) rfl (zA ho trivial) ?_
  refine zG_calls (As := [.int (sg s 1), .int 0]) (rest := []) (N2 := 411) bdLoo_brush_17 okMa_max lk3_63 (And.intro (by decide) (by decide)) rfl rfl (Nat.le_of_ble_eq_true rfl) (Nat.le_of_ble_eq_true rfl) (Nat.le_refl 411) (Nat.le_refl 411) cMa_max ?_
  rintro rr h' ⟨rfl, rfl⟩ -
  refine zG_run bkLoo_brush_20 (lv' := [(3, .int (fMax (sg s 1) 0)), (2, .int (fMin (sg s 2) (sg 315 1))), (0, .ref 315), (1, .ref s)]) (st' := []) (h' := zN sg) (Ps := []) rfl trivial ?_
  refine zG_pick (lv' := [(0, .ref 315), (1, .ref s), (2, .int (fMin (sg s 2) (sg 315 1))), (3, .int (fMax (sg s 1) 0))]) [2, 3, 1, 0] rfl ?_
  refine zlp2 (fun (i : Int32) (sg1 : zSig) => zG mLoo_brush 411 Q 21 [(0, .ref 315), (1, .ref s), (2, .int (fMin (sg s 2) (sg 315 1))), (3, .int i)] [] (zN sg1)) (fun (i : Int32) (sg1 : zSig) => (fMax (sg s 1) 0 ≤ i) ∧ (∀ c j, c ≠ 316 → sg1 c j = sg c j) ∧ (∀ j, 0 ≤ j → j < sg 315 1 → sg1 316 j = if sg s 1 ≤ j ∧ j < sg s 2 ∧ j < i then fBr (sg 316 j) (sg s 4) (sg s 5) (sg s 6) (sg s 7) else sg 316 j)) (fun (i : Int32) (sg1 : zSig) => zmu (fMin (sg s 2) (sg 315 1)) i) ?_ (fMax (sg s 1) 0) sg ?_
  · intro i sg1 hI ih
    obtain ⟨h0, hf, h2⟩ := hI
    refine zb_icge (tgt := 63) bkLoo_brush_21 bdLoo_brush_23 (by decide) (lv' := [(0, .ref 315), (1, .ref s), (2, .int (fMin (sg s 2) (sg 315 1))), (3, .int i)]) (st' := []) (h' := zN sg1) (x := i) (y := fMin (sg s 2) (sg 315 1)) (Ps := []) rfl trivial (fun c1 => ?_) (fun c1 => ?_)
    · skip
      refine zb_vret bkLoo_brush_63 bdLoo_brush_63 rfl (h' := zN sg1) (Ps := []) rfl trivial rfl ?_
      refine hq _ _ ?_
      exact ⟨sg1, rfl, rfl, hf, fun j h5 h6 => by have h3 := h2 j h5 h6; grind [fMax, fMin]⟩
    · skip
      refine zG_run bkLoo_brush_26 (lv' := [(0, .ref 315), (1, .ref s), (2, .int (fMin (sg s 2) (sg 315 1))), (3, .int i)]) (st' := [.int (sg1 s 7), .int (sg1 s 6), .int (sg1 s 5), .int (sg1 s 4), .int (sg1 316 i), .int i, .ref 316]) (h' := zN sg1) (Ps := [zOb (zN sg1) 315 3 ∧ (zN sg1).2.2 315 0 = true, zOb (zN sg1) 315 3 ∧ (zN sg1).2.2 315 0 = true, zInL (zN sg1) 316 i, zOb (zN sg1) s 6, zOb (zN sg1) s 6, zOb (zN sg1) s 6, zOb (zN sg1) s 6]) rfl (zA ⟨zob_315, rfl⟩ (zA ⟨zob_315, rfl⟩ (zA (zinL_316 (i := i) (by grind [fMax, fMin]) (by grind [fMax, fMin])) (zA ho (zA ho (zA ho (zA ho trivial))))))) ?_
      refine zG_calls (As := [.int (sg1 316 i), .int (sg1 s 4), .int (sg1 s 5), .int (sg1 s 6), .int (sg1 s 7)]) (rest := [.int i, .ref 316]) (N2 := 411) bdLoo_brush_53 okSty_brushed lk3_78 (And.intro (by decide) (by decide)) rfl rfl (Nat.le_of_ble_eq_true rfl) (Nat.le_of_ble_eq_true rfl) (Nat.le_refl 411) (Nat.le_refl 411) cSty_brushed ?_
      rintro rr h' ⟨rfl, rfl⟩ -
      refine zG_run bkLoo_brush_56 (lv' := [(3, .int (i + 1)), (0, .ref 315), (1, .ref s), (2, .int (fMin (sg s 2) (sg 315 1)))]) (st' := []) (h' := zN (zup sg1 316 i (fBr (sg1 316 i) (sg1 s 4) (sg1 s 5) (sg1 s 6) (sg1 s 7)))) (Ps := [zIn (zN sg1) 316 0 i]) rfl (zA (zin_316 (i := i) (by grind [fMax, fMin]) (by grind [fMax, fMin])) trivial) ?_
      refine zG_pick (lv' := [(0, .ref 315), (1, .ref s), (2, .int (fMin (sg s 2) (sg 315 1))), (3, .int (i + 1))]) [1, 2, 3, 0] rfl ?_
      refine ih (i + 1) (zup sg1 316 i (fBr (sg1 316 i) (sg1 s 4) (sg1 s 5) (sg1 s 6) (sg1 s 7))) ?_ ?_
      · refine ⟨?_, ?_, ?_⟩
        · grind
        · intro c j hc; rw [zup_a hc]; exact hf c j hc
        · intro j hj0 hj1; rw [zup_e]; have h3 := h2 j hj0 hj1; have f4 := hf s 4 hs; have f5 := hf s 5 hs; have f6 := hf s 6 hs; have f7 := hf s 7 hs; grind [fMax, fMin]
      · exact zmu_up (by grind)
  · refine ⟨?_, ?_, ?_⟩
    · grind
    · intro c j _; rfl
    · grind [fMax]
theorem cLoo_brush_315 {sg : zSig} {s : Nat} (ho : zOb (zN sg) s 6) (hn0 : 0 ≤ sg 315 1) (hn : sg 315 1 ≤ 200) : zG mLoo_brush 411 (fun rr h' => ∃ sg', rr = none ∧ h' = zN sg' ∧ (∀ c j, c ≠ 316 → sg' c j = sg c j) ∧ ∀ j, 0 ≤ j → j < sg 315 1 → sg' 316 j = if sg s 1 ≤ j ∧ j < sg s 2 then fBr (sg 316 j) (sg s 4) (sg s 5) (sg s 6) (sg s 7) else sg 316 j) 0 [(0, .ref 315), (1, .ref s)] [] (zN sg) := lLoo_brush_315 ho hn0 hn (fun _ _ q => q)
