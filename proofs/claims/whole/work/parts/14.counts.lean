/-! counting loops: printed by wip/whole/p14.py -/
theorem zG_pick {M : zMT} {N : Nat} {Q : Option Value → zHp → Prop} {pc : Nat} {lv lv' : zLv} {st : List Value} {h : zHp} (ks : List Nat) (hl : lv_pick lv ks = lv') (kk : zG M N Q pc lv' st h) : zG M N Q pc lv st h := by
  intro k p l e R s m args below meth c H ls locs cells slots Qf C P S L Z F
  refine kk k p l e R s m args below meth c H ls locs cells slots Qf C P S ⟨L.1, L.2.1, fun q hq => ?_⟩ Z F
  obtain ⟨q0, hq0, rfl⟩ := List.mem_map.mp hq
  rw [← hl] at hq0
  obtain ⟨i, -, hi⟩ := List.mem_filterMap.mp hq0
  exact L.2.2 _ (List.mem_map.mpr ⟨q0, List.mem_of_getElem? hi, rfl⟩)
theorem zit_congr {A : Type} {f g : Int32 → A → A} {a : A} {n : Int32} (hn : 0 ≤ n) (h : ∀ i x, 0 ≤ i → i < n → f i x = g i x) : zit f a n = zit g a n := by
  obtain ⟨m, hm, rfl⟩ := znn hn
  have key : ∀ j : Nat, j ≤ m → zitN f a j = zitN g a j := by
    intro j
    induction j with
    | zero => intro _; rfl
    | succ j ih =>
      intro hj
      show f (nI j) (zitN f a j) = g (nI j) (zitN g a j)
      rw [ih (by omega)]
      exact h _ _ (nI_pos' (by omega)) (nI_lt (by omega) (by omega))
  unfold zit
  rw [nI_clamp hm]
  exact key m (Nat.le_refl _)
def nSp (sg : zSig) (k a : Int32) : Int32 := if sg (zel 4 k) 0 = 0 then a else a + 1
def nAn (sg : zSig) (k a : Int32) : Int32 := if sg (zel 5 k) 0 = 0 then a else a + 1
def nLo (sg : zSig) (k a : Int32) : Int32 := if sg (zel 5 k) 0 = 0 then a else a + sg (zel 5 k) 3
theorem bkShe_standingSpans_0 : zBk mShe_standingSpans 0 [(0, 0, 0, 0, 0), (2, 1, 0, 0, 0), (0, 0, 0, 0, 0), (2, 2, 0, 0, 0)] = some 4 := by decide +kernel
theorem bkShe_standingSpans_4 : zBk mShe_standingSpans 4 [(1, 2, 0, 0, 0), (1, 0, 1, 0, 0), (5, 5, 4, 0, 4)] = some 9 := by decide +kernel
theorem bkShe_standingSpans_33 : zBk mShe_standingSpans 33 [(1, 1, 0, 0, 0)] = some 34 := by decide +kernel
theorem bkShe_standingSpans_12 : zBk mShe_standingSpans 12 [(1, 0, 1, 0, 0), (5, 5, 3, 3, 3), (1, 2, 0, 0, 0), (9, 0, 0, 0, 0), (5, 6, 0, 0, 0)] = some 21 := by decide +kernel
theorem bkShe_standingSpans_27 : zBk mShe_standingSpans 27 [(3, 2, 0, 0, 1), (22, 4, 0, 0, 0)] = some 4 := by decide +kernel
theorem bkShe_standingSpans_24 : zBk mShe_standingSpans 24 [(3, 1, 0, 0, 1), (3, 2, 0, 0, 1), (22, 4, 0, 0, 0)] = some 4 := by decide +kernel
theorem bdShe_standingSpans_9 : decode mShe_standingSpans.2.2.1 9 = .ok (.if_icmp .ge 24, 3) := by decide +kernel
theorem bdShe_standingSpans_21 : decode mShe_standingSpans.2.2.1 21 = .ok (.ifCond .eq 6, 3) := by decide +kernel
theorem bdShe_standingSpans_34 : decode mShe_standingSpans.2.2.1 34 = .ok (.ireturn, 1) := by decide +kernel
theorem lShe_standingSpans {sg : zSig}  (hn0 : 0 ≤ sg 1 4) (hn : sg 1 4 ≤ 16) {Q : Option Value → zHp → Prop} (hq : ∀ rr h', (rr = some (.int (zit (nSp sg) 0 (sg 1 4))) ∧ h' = zN sg) → Q rr h') : zG mShe_standingSpans 411 Q 0 [(0, .ref 1)] [] (zN sg) := by
  refine zG_run bkShe_standingSpans_0 (lv' := [(2, .int 0), (1, .int 0), (0, .ref 1)]) (st' := []) (h' := zN sg) (Ps := []) rfl trivial ?_
  refine zG_pick (lv' := [(0, .ref 1), (1, .int 0), (2, .int 0)]) [2, 1, 0] rfl ?_
  refine zlp2 (fun (n : Int32) (k : Int32) => zG mShe_standingSpans 411 Q 4 [(0, .ref 1), (1, .int n), (2, .int k)] [] (zN sg)) (fun (n : Int32) (k : Int32) => (0 ≤ k) ∧ (k ≤ sg 1 4) ∧ (n = zit (nSp sg) 0 k)) (fun (n : Int32) (k : Int32) => zmu (sg 1 4) k) ?_ 0 0 ?_
  · intro n k hI ih
    obtain ⟨h0, h1, h2⟩ := hI
    refine zb_icge (tgt := 33) bkShe_standingSpans_4 bdShe_standingSpans_9 (by decide) (lv' := [(0, .ref 1), (1, .int n), (2, .int k)]) (st' := []) (h' := zN sg) (x := k) (y := sg 1 4) (Ps := [zOb (zN sg) 1 5]) rfl (zA zob_1 trivial) (fun c1 => ?_) (fun c1 => ?_)
    · skip
      refine zb_iret bkShe_standingSpans_33 bdShe_standingSpans_34 rfl (x := n) (h' := zN sg) (Ps := []) rfl trivial rfl ?_
      refine hq _ _ ?_
      exact ⟨by grind, rfl⟩
    · skip
      refine zb_ifeq (tgt := 27) bkShe_standingSpans_12 bdShe_standingSpans_21 (by decide) (lv' := [(0, .ref 1), (1, .int n), (2, .int k)]) (st' := []) (h' := zN sg) (x := sg (zel 4 k) 0) (Ps := [zOb (zN sg) 1 5 ∧ (zN sg).2.2 1 3 = true, zInR (zN sg) 4 k, zOb (zN sg) (zel 4 k) 6]) rfl (zA ⟨zob_1, rfl⟩ (zA (zinR_4 (i := k) (by grind) (by grind)) (zA (zel_ob4 (i := k) (by grind) (by grind)) trivial))) (fun c2 => ?_) (fun c2 => ?_)
      · skip
        refine zG_run bkShe_standingSpans_27 (lv' := [(2, .int (k + 1)), (0, .ref 1), (1, .int n)]) (st' := []) (h' := zN sg) (Ps := []) rfl trivial ?_
        refine zG_pick (lv' := [(0, .ref 1), (1, .int n), (2, .int (k + 1))]) [1, 2, 0] rfl ?_
        refine ih n (k + 1) ?_ ?_
        · refine ⟨?_, ?_, ?_⟩
          · grind
          · grind
          · rw [zit_s _ _ h0 (by grind : k < sg 1 4)]; grind [nSp]
        · exact zmu_up (by grind)
      · skip
        refine zG_run bkShe_standingSpans_24 (lv' := [(2, .int (k + 1)), (1, .int (n + 1)), (0, .ref 1)]) (st' := []) (h' := zN sg) (Ps := []) rfl trivial ?_
        refine zG_pick (lv' := [(0, .ref 1), (1, .int (n + 1)), (2, .int (k + 1))]) [2, 1, 0] rfl ?_
        refine ih (n + 1) (k + 1) ?_ ?_
        · refine ⟨?_, ?_, ?_⟩
          · grind
          · grind
          · rw [zit_s _ _ h0 (by grind : k < sg 1 4)]; grind [nSp]
        · exact zmu_up (by grind)
  · refine ⟨?_, ?_, ?_⟩
    · grind
    · grind
    · rfl
theorem cShe_standingSpans {sg : zSig}  (hn0 : 0 ≤ sg 1 4) (hn : sg 1 4 ≤ 16) : zG mShe_standingSpans 411 (fun rr h' => rr = some (.int (zit (nSp sg) 0 (sg 1 4))) ∧ h' = zN sg) 0 [(0, .ref 1)] [] (zN sg) := lShe_standingSpans hn0 hn (fun _ _ q => q)
theorem bkShe_standingAnchors_0 : zBk mShe_standingAnchors 0 [(0, 0, 0, 0, 0), (2, 1, 0, 0, 0), (0, 0, 0, 0, 0), (2, 2, 0, 0, 0)] = some 4 := by decide +kernel
theorem bkShe_standingAnchors_4 : zBk mShe_standingAnchors 4 [(1, 2, 0, 0, 0), (1, 0, 1, 0, 0), (5, 5, 6, 0, 6)] = some 9 := by decide +kernel
theorem bkShe_standingAnchors_33 : zBk mShe_standingAnchors 33 [(1, 1, 0, 0, 0)] = some 34 := by decide +kernel
theorem bkShe_standingAnchors_12 : zBk mShe_standingAnchors 12 [(1, 0, 1, 0, 0), (5, 5, 5, 4, 5), (1, 2, 0, 0, 0), (9, 0, 0, 0, 0), (5, 1, 0, 0, 0)] = some 21 := by decide +kernel
theorem bkShe_standingAnchors_27 : zBk mShe_standingAnchors 27 [(3, 2, 0, 0, 1), (22, 4, 0, 0, 0)] = some 4 := by decide +kernel
theorem bkShe_standingAnchors_24 : zBk mShe_standingAnchors 24 [(3, 1, 0, 0, 1), (3, 2, 0, 0, 1), (22, 4, 0, 0, 0)] = some 4 := by decide +kernel
theorem bdShe_standingAnchors_9 : decode mShe_standingAnchors.2.2.1 9 = .ok (.if_icmp .ge 24, 3) := by decide +kernel
theorem bdShe_standingAnchors_21 : decode mShe_standingAnchors.2.2.1 21 = .ok (.ifCond .eq 6, 3) := by decide +kernel
theorem bdShe_standingAnchors_34 : decode mShe_standingAnchors.2.2.1 34 = .ok (.ireturn, 1) := by decide +kernel
theorem lShe_standingAnchors {sg : zSig}  (hn0 : 0 ≤ sg 1 6) (hn : sg 1 6 ≤ 12) {Q : Option Value → zHp → Prop} (hq : ∀ rr h', (rr = some (.int (zit (nAn sg) 0 (sg 1 6))) ∧ h' = zN sg) → Q rr h') : zG mShe_standingAnchors 411 Q 0 [(0, .ref 1)] [] (zN sg) := by
  refine zG_run bkShe_standingAnchors_0 (lv' := [(2, .int 0), (1, .int 0), (0, .ref 1)]) (st' := []) (h' := zN sg) (Ps := []) rfl trivial ?_
  refine zG_pick (lv' := [(0, .ref 1), (1, .int 0), (2, .int 0)]) [2, 1, 0] rfl ?_
  refine zlp2 (fun (n : Int32) (k : Int32) => zG mShe_standingAnchors 411 Q 4 [(0, .ref 1), (1, .int n), (2, .int k)] [] (zN sg)) (fun (n : Int32) (k : Int32) => (0 ≤ k) ∧ (k ≤ sg 1 6) ∧ (n = zit (nAn sg) 0 k)) (fun (n : Int32) (k : Int32) => zmu (sg 1 6) k) ?_ 0 0 ?_
  · intro n k hI ih
    obtain ⟨h0, h1, h2⟩ := hI
    refine zb_icge (tgt := 33) bkShe_standingAnchors_4 bdShe_standingAnchors_9 (by decide) (lv' := [(0, .ref 1), (1, .int n), (2, .int k)]) (st' := []) (h' := zN sg) (x := k) (y := sg 1 6) (Ps := [zOb (zN sg) 1 5]) rfl (zA zob_1 trivial) (fun c1 => ?_) (fun c1 => ?_)
    · skip
      refine zb_iret bkShe_standingAnchors_33 bdShe_standingAnchors_34 rfl (x := n) (h' := zN sg) (Ps := []) rfl trivial rfl ?_
      refine hq _ _ ?_
      exact ⟨by grind, rfl⟩
    · skip
      refine zb_ifeq (tgt := 27) bkShe_standingAnchors_12 bdShe_standingAnchors_21 (by decide) (lv' := [(0, .ref 1), (1, .int n), (2, .int k)]) (st' := []) (h' := zN sg) (x := sg (zel 5 k) 0) (Ps := [zOb (zN sg) 1 5 ∧ (zN sg).2.2 1 5 = true, zInR (zN sg) 5 k, zOb (zN sg) (zel 5 k) 1]) rfl (zA ⟨zob_1, rfl⟩ (zA (zinR_5 (i := k) (by grind) (by grind)) (zA (zel_ob5 (i := k) (by grind) (by grind)) trivial))) (fun c2 => ?_) (fun c2 => ?_)
      · skip
        refine zG_run bkShe_standingAnchors_27 (lv' := [(2, .int (k + 1)), (0, .ref 1), (1, .int n)]) (st' := []) (h' := zN sg) (Ps := []) rfl trivial ?_
        refine zG_pick (lv' := [(0, .ref 1), (1, .int n), (2, .int (k + 1))]) [1, 2, 0] rfl ?_
        refine ih n (k + 1) ?_ ?_
        · refine ⟨?_, ?_, ?_⟩
          · grind
          · grind
          · rw [zit_s _ _ h0 (by grind : k < sg 1 6)]; grind [nAn]
        · exact zmu_up (by grind)
      · skip
        refine zG_run bkShe_standingAnchors_24 (lv' := [(2, .int (k + 1)), (1, .int (n + 1)), (0, .ref 1)]) (st' := []) (h' := zN sg) (Ps := []) rfl trivial ?_
        refine zG_pick (lv' := [(0, .ref 1), (1, .int (n + 1)), (2, .int (k + 1))]) [2, 1, 0] rfl ?_
        refine ih (n + 1) (k + 1) ?_ ?_
        · refine ⟨?_, ?_, ?_⟩
          · grind
          · grind
          · rw [zit_s _ _ h0 (by grind : k < sg 1 6)]; grind [nAn]
        · exact zmu_up (by grind)
  · refine ⟨?_, ?_, ?_⟩
    · grind
    · grind
    · rfl
theorem cShe_standingAnchors {sg : zSig}  (hn0 : 0 ≤ sg 1 6) (hn : sg 1 6 ≤ 12) : zG mShe_standingAnchors 411 (fun rr h' => rr = some (.int (zit (nAn sg) 0 (sg 1 6))) ∧ h' = zN sg) 0 [(0, .ref 1)] [] (zN sg) := lShe_standingAnchors hn0 hn (fun _ _ q => q)
theorem bkShe_lostOfAll_0 : zBk mShe_lostOfAll 0 [(0, 0, 0, 0, 0), (2, 1, 0, 0, 0), (0, 0, 0, 0, 0), (2, 2, 0, 0, 0)] = some 4 := by decide +kernel
theorem bkShe_lostOfAll_4 : zBk mShe_lostOfAll 4 [(1, 2, 0, 0, 0), (1, 0, 1, 0, 0), (5, 5, 6, 0, 6)] = some 9 := by decide +kernel
theorem bkShe_lostOfAll_42 : zBk mShe_lostOfAll 42 [(1, 1, 0, 0, 0)] = some 43 := by decide +kernel
theorem bkShe_lostOfAll_12 : zBk mShe_lostOfAll 12 [(1, 0, 1, 0, 0), (5, 5, 5, 4, 5), (1, 2, 0, 0, 0), (9, 0, 0, 0, 0), (5, 1, 0, 0, 0)] = some 21 := by decide +kernel
theorem bkShe_lostOfAll_36 : zBk mShe_lostOfAll 36 [(3, 2, 0, 0, 1), (22, 4, 0, 0, 0)] = some 4 := by decide +kernel
theorem bkShe_lostOfAll_24 : zBk mShe_lostOfAll 24 [(1, 1, 0, 0, 0), (1, 0, 1, 0, 0), (5, 5, 5, 4, 5), (1, 2, 0, 0, 0), (9, 0, 0, 0, 0), (5, 1, 3, 0, 3), (4, 0, 0, 0, 0), (2, 1, 0, 0, 0), (3, 2, 0, 0, 1), (22, 4, 0, 0, 0)] = some 4 := by decide +kernel
theorem bdShe_lostOfAll_9 : decode mShe_lostOfAll.2.2.1 9 = .ok (.if_icmp .ge 33, 3) := by decide +kernel
theorem bdShe_lostOfAll_21 : decode mShe_lostOfAll.2.2.1 21 = .ok (.ifCond .eq 15, 3) := by decide +kernel
theorem bdShe_lostOfAll_43 : decode mShe_lostOfAll.2.2.1 43 = .ok (.ireturn, 1) := by decide +kernel
theorem lShe_lostOfAll {sg : zSig}  (hn0 : 0 ≤ sg 1 6) (hn : sg 1 6 ≤ 12) {Q : Option Value → zHp → Prop} (hq : ∀ rr h', (rr = some (.int (zit (nLo sg) 0 (sg 1 6))) ∧ h' = zN sg) → Q rr h') : zG mShe_lostOfAll 411 Q 0 [(0, .ref 1)] [] (zN sg) := by
  refine zG_run bkShe_lostOfAll_0 (lv' := [(2, .int 0), (1, .int 0), (0, .ref 1)]) (st' := []) (h' := zN sg) (Ps := []) rfl trivial ?_
  refine zG_pick (lv' := [(0, .ref 1), (1, .int 0), (2, .int 0)]) [2, 1, 0] rfl ?_
  refine zlp2 (fun (n : Int32) (k : Int32) => zG mShe_lostOfAll 411 Q 4 [(0, .ref 1), (1, .int n), (2, .int k)] [] (zN sg)) (fun (n : Int32) (k : Int32) => (0 ≤ k) ∧ (k ≤ sg 1 6) ∧ (n = zit (nLo sg) 0 k)) (fun (n : Int32) (k : Int32) => zmu (sg 1 6) k) ?_ 0 0 ?_
  · intro n k hI ih
    obtain ⟨h0, h1, h2⟩ := hI
    refine zb_icge (tgt := 42) bkShe_lostOfAll_4 bdShe_lostOfAll_9 (by decide) (lv' := [(0, .ref 1), (1, .int n), (2, .int k)]) (st' := []) (h' := zN sg) (x := k) (y := sg 1 6) (Ps := [zOb (zN sg) 1 5]) rfl (zA zob_1 trivial) (fun c1 => ?_) (fun c1 => ?_)
    · skip
      refine zb_iret bkShe_lostOfAll_42 bdShe_lostOfAll_43 rfl (x := n) (h' := zN sg) (Ps := []) rfl trivial rfl ?_
      refine hq _ _ ?_
      exact ⟨by grind, rfl⟩
    · skip
      refine zb_ifeq (tgt := 36) bkShe_lostOfAll_12 bdShe_lostOfAll_21 (by decide) (lv' := [(0, .ref 1), (1, .int n), (2, .int k)]) (st' := []) (h' := zN sg) (x := sg (zel 5 k) 0) (Ps := [zOb (zN sg) 1 5 ∧ (zN sg).2.2 1 5 = true, zInR (zN sg) 5 k, zOb (zN sg) (zel 5 k) 1]) rfl (zA ⟨zob_1, rfl⟩ (zA (zinR_5 (i := k) (by grind) (by grind)) (zA (zel_ob5 (i := k) (by grind) (by grind)) trivial))) (fun c2 => ?_) (fun c2 => ?_)
      · skip
        refine zG_run bkShe_lostOfAll_36 (lv' := [(2, .int (k + 1)), (0, .ref 1), (1, .int n)]) (st' := []) (h' := zN sg) (Ps := []) rfl trivial ?_
        refine zG_pick (lv' := [(0, .ref 1), (1, .int n), (2, .int (k + 1))]) [1, 2, 0] rfl ?_
        refine ih n (k + 1) ?_ ?_
        · refine ⟨?_, ?_, ?_⟩
          · grind
          · grind
          · rw [zit_s _ _ h0 (by grind : k < sg 1 6)]; grind [nLo]
        · exact zmu_up (by grind)
      · skip
        refine zG_run bkShe_lostOfAll_24 (lv' := [(2, .int (k + 1)), (1, .int (n + (sg (zel 5 k) 3))), (0, .ref 1)]) (st' := []) (h' := zN sg) (Ps := [zOb (zN sg) 1 5 ∧ (zN sg).2.2 1 5 = true, zInR (zN sg) 5 k, zOb (zN sg) (zel 5 k) 1]) rfl (zA ⟨zob_1, rfl⟩ (zA (zinR_5 (i := k) (by grind) (by grind)) (zA (zel_ob5 (i := k) (by grind) (by grind)) trivial))) ?_
        refine zG_pick (lv' := [(0, .ref 1), (1, .int (n + (sg (zel 5 k) 3))), (2, .int (k + 1))]) [2, 1, 0] rfl ?_
        refine ih (n + (sg (zel 5 k) 3)) (k + 1) ?_ ?_
        · refine ⟨?_, ?_, ?_⟩
          · grind
          · grind
          · rw [zit_s _ _ h0 (by grind : k < sg 1 6)]; grind [nLo]
        · exact zmu_up (by grind)
  · refine ⟨?_, ?_, ?_⟩
    · grind
    · grind
    · rfl
theorem cShe_lostOfAll {sg : zSig}  (hn0 : 0 ≤ sg 1 6) (hn : sg 1 6 ≤ 12) : zG mShe_lostOfAll 411 (fun rr h' => rr = some (.int (zit (nLo sg) 0 (sg 1 6))) ∧ h' = zN sg) 0 [(0, .ref 1)] [] (zN sg) := lShe_lostOfAll hn0 hn (fun _ _ q => q)
