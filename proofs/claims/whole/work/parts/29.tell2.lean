/-! what the class tells, the rest: printed by wip/whole/p29.py -/
def qRs (sg : zSig) (n l : Int32) : Int32 := zit (rN (cS sg (-1) n l)) 0 (sg 1 2)
theorem bkSR_raised_0 : zBk mSR_raised 0 [(1, 0, 1, 0, 0), (5, 9, 0, 1, 0), (1, 1, 0, 0, 0)] = some 5 := by decide +kernel
theorem bkSR_raised_8 : zBk mSR_raised 8 [] = some 8 := by decide +kernel
theorem bkSR_raised_24 : zBk mSR_raised 24 [(0, 0, 0, 0, 0), (2, 3, 0, 0, 0), (1, 3, 0, 0, 0)] = some 27 := by decide +kernel
theorem bkSR_raised_39 : zBk mSR_raised 39 [(0, 0, 0, 0, -1)] = some 40 := by decide +kernel
theorem bkSR_raised_11 : zBk mSR_raised 11 [(1, 2, 0, 0, 0), (0, 0, 0, 0, 9)] = some 14 := by decide +kernel
theorem bkSR_raised_17 : zBk mSR_raised 17 [] = some 17 := by decide +kernel
theorem bkSR_raised_20 : zBk mSR_raised 20 [(0, 0, 0, 0, 1), (22, 25, 0, 0, 0), (2, 3, 0, 0, 0), (1, 3, 0, 0, 0)] = some 27 := by decide +kernel
theorem bkSR_raised_30 : zBk mSR_raised 30 [(1, 0, 1, 0, 0), (1, 1, 0, 0, 0), (1, 2, 0, 0, 0)] = some 33 := by decide +kernel
theorem bkSR_raised_36 : zBk mSR_raised 36 [(22, 40, 0, 0, 0)] = some 40 := by decide +kernel
theorem bdSR_raised_5 : decode mSR_raised.2.2.1 5 = .ok (.invokevirtual 169, 3) := by decide +kernel
theorem bdSR_raised_8 : decode mSR_raised.2.2.1 8 = .ok (.ifCond .eq 16, 3) := by decide +kernel
theorem bdSR_raised_14 : decode mSR_raised.2.2.1 14 = .ok (.invokestatic 126, 3) := by decide +kernel
theorem bdSR_raised_17 : decode mSR_raised.2.2.1 17 = .ok (.ifCond .eq 7, 3) := by decide +kernel
theorem bdSR_raised_27 : decode mSR_raised.2.2.1 27 = .ok (.ifCond .eq 12, 3) := by decide +kernel
theorem bdSR_raised_33 : decode mSR_raised.2.2.1 33 = .ok (.invokevirtual 304, 3) := by decide +kernel
theorem bdSR_raised_40 : decode mSR_raised.2.2.1 40 = .ok (.ireturn, 1) := by decide +kernel
theorem cSR_raised {sg : zSig} {n l : Int32} (ob : okS sg 1) (h0 : 0 ≤ sg 36 2) (h1 : sg 36 2 < 8) (u0 : 0 ≤ sg 36 3) (u1 : sg 36 3 ≤ 8) (hf : okF sg) : zG mSR_raised 411 (fun rr h' => ∃ v sg', rr = some (.int v) ∧ h' = zN sg' ∧ hQ sg sg' ∧ v = if ((0 ≤ n ∧ n < sg 1 4) ∧ sg (zel 4 n) 0 ≠ 0) ∧ 0 ≤ l ∧ l ≤ 9 then qRs sg n l else -1) 0 [(0, .ref 0), (1, .int n), (2, .int l)] [] (zN sg) := by
  obtain ⟨⟨n0, n1⟩, ⟨g0, g1⟩, ⟨a0, a1⟩, -⟩ := id ob
  refine zG_run bkSR_raised_0 (lv' := [(0, .ref 0), (1, .int n), (2, .int l)]) (st' := [.int n, .ref 1]) (h' := zN sg) (Ps := [zOb (zN sg) 0 9 ∧ (zN sg).2.2 0 0 = true]) rfl (zA ⟨zob_0, rfl⟩ trivial) ?_
  refine zG_callv (a := 1) (c := 5) (As := [.int n]) (rest := []) (N2 := 411) bdSR_raised_5 okShe_hasSpan lk9_169 (And.intro (by decide) (by decide)) (by decide) rfl rfl rfl (Nat.le_of_ble_eq_true rfl) (Nat.le_of_ble_eq_true rfl) (Nat.le_refl 411) (Nat.le_refl 411) zob_1 (cShe_hasSpan (by lia)) ?_
  rintro rr h' ⟨rfl, rfl⟩ -
  refine zb_ifeq (tgt := 24) bkSR_raised_8 bdSR_raised_8 (by decide) (lv' := [(0, .ref 0), (1, .int n), (2, .int l)]) (st' := []) (h' := zN sg) (x := if (0 ≤ n ∧ n < sg 1 4) ∧ sg (zel 4 n) 0 ≠ 0 then 1 else 0) (Ps := []) rfl trivial (fun c1 => ?_) (fun c1 => ?_)
  · skip
    refine zb_ifeq (tgt := 39) bkSR_raised_24 bdSR_raised_27 (by decide) (lv' := [(3, .int 0), (0, .ref 0), (1, .int n), (2, .int l)]) (st' := []) (h' := zN sg) (x := 0) (Ps := []) rfl trivial (fun c2 => ?_) (fun c2 => ?_)
    · skip
      refine zb_iret bkSR_raised_39 bdSR_raised_40 rfl (x := (-1)) (h' := zN sg) (Ps := []) rfl trivial rfl ?_
      refine ⟨_, _, rfl, rfl, hQ_refl hf, ?_⟩
      rw [if_neg (by grind)]
    · exact absurd c2 (by decide)
  · skip
    refine zG_run bkSR_raised_11 (lv' := [(0, .ref 0), (1, .int n), (2, .int l)]) (st' := [.int 9, .int l]) (h' := zN sg) (Ps := []) rfl trivial ?_
    refine zG_calls (As := [.int l, .int 9]) (rest := []) (N2 := 411) bdSR_raised_14 okSR_isWithin lk9_126 (And.intro (by decide) (by decide)) rfl rfl (Nat.le_of_ble_eq_true rfl) (Nat.le_of_ble_eq_true rfl) (Nat.le_refl 411) (Nat.le_refl 411) cSR_isWithin ?_
    rintro rr h' ⟨rfl, rfl⟩ -
    refine zb_ifeq (tgt := 24) bkSR_raised_17 bdSR_raised_17 (by decide) (lv' := [(0, .ref 0), (1, .int n), (2, .int l)]) (st' := []) (h' := zN sg) (x := if 0 ≤ l ∧ l ≤ 9 then 1 else 0) (Ps := []) rfl trivial (fun c3 => ?_) (fun c3 => ?_)
    · skip
      refine zb_ifeq (tgt := 39) bkSR_raised_24 bdSR_raised_27 (by decide) (lv' := [(3, .int 0), (0, .ref 0), (1, .int n), (2, .int l)]) (st' := []) (h' := zN sg) (x := 0) (Ps := []) rfl trivial (fun c4 => ?_) (fun c4 => ?_)
      · skip
        refine zb_iret bkSR_raised_39 bdSR_raised_40 rfl (x := (-1)) (h' := zN sg) (Ps := []) rfl trivial rfl ?_
        refine ⟨_, _, rfl, rfl, hQ_refl hf, ?_⟩
        rw [if_neg (by grind)]
      · exact absurd c4 (by decide)
    · skip
      refine zb_ifeq (tgt := 39) bkSR_raised_20 bdSR_raised_27 (by decide) (lv' := [(3, .int 1), (0, .ref 0), (1, .int n), (2, .int l)]) (st' := []) (h' := zN sg) (x := 1) (Ps := []) rfl trivial (fun c5 => ?_) (fun c5 => ?_)
      · exact absurd c5 (by decide)
      · skip
        refine zG_run bkSR_raised_30 (lv' := [(3, .int 1), (0, .ref 0), (1, .int n), (2, .int l)]) (st' := [.int l, .int n, .ref 0]) (h' := zN sg) (Ps := []) rfl trivial ?_
        refine zG_callv (a := 0) (c := 9) (As := [.int n, .int l]) (rest := []) (N2 := 411) bdSR_raised_33 okSR_runsIfRaised lk9_304 (And.intro (by decide) (by decide)) (by decide) rfl rfl rfl (Nat.le_of_ble_eq_true rfl) (Nat.le_of_ble_eq_true rfl) (Nat.le_refl 411) (Nat.le_refl 411) zob_0 (cSR_runsIfRaised (k := n) (l := l) ob h0 h1 u0 u1 hf) ?_
        rintro rr h' ⟨vq, sgq, rfl, rfl, hqq, hv⟩ -
        refine zb_iret bkSR_raised_36 bdSR_raised_40 rfl (x := vq) (h' := zN sgq) (Ps := []) rfl trivial rfl ?_
        refine ⟨_, _, rfl, rfl, hqq, ?_⟩
        rw [if_pos (by grind)]; exact hv
def bs1 (sg : zSig) (n l : Int32) (p : Int32 × Int32) : Int32 × Int32 := if l = 0 then p else if qRs sg n l < p.2 then (l, qRs sg n l) else p
def qBs (sg : zSig) (n : Int32) : Int32 × Int32 := zit (bs1 sg n) (0, qRs sg n 0) 10
theorem qRs_Q {sg sg' : zSig} {n l : Int32} (h : hQ sg sg') (ob : okS sg 1) : qRs sg' n l = qRs sg n l := by
  unfold qRs
  rw [hQ_s h 1 2 (by decide) (by decide)]
  exact rN_congr (n := sg 1 2) (fun j _ _ => hQ_cS h ob) ob.1.1 (Int32.le_refl _)
theorem bkSR_best_0 : zBk mSR_best 0 [(1, 0, 1, 0, 0), (5, 9, 0, 1, 0), (1, 1, 0, 0, 0)] = some 5 := by decide +kernel
theorem bkSR_best_8 : zBk mSR_best 8 [] = some 8 := by decide +kernel
theorem bkSR_best_19 : zBk mSR_best 19 [(0, 0, 0, 0, -1)] = some 20 := by decide +kernel
theorem bkSR_best_11 : zBk mSR_best 11 [(1, 2, 0, 0, 0), (0, 0, 0, 0, 1)] = some 13 := by decide +kernel
theorem bkSR_best_16 : zBk mSR_best 16 [] = some 16 := by decide +kernel
theorem bkSR_best_21 : zBk mSR_best 21 [(0, 0, 0, 0, 0), (2, 3, 0, 0, 0), (1, 0, 1, 0, 0), (1, 1, 0, 0, 0), (0, 0, 0, 0, 0)] = some 26 := by decide +kernel
theorem bkSR_best_29 : zBk mSR_best 29 [(2, 4, 0, 0, 0), (0, 0, 0, 0, 1), (2, 5, 0, 0, 0)] = some 34 := by decide +kernel
theorem bkSR_best_34 : zBk mSR_best 34 [(1, 5, 0, 0, 0), (0, 0, 0, 0, 10)] = some 38 := by decide +kernel
theorem bkSR_best_70 : zBk mSR_best 70 [(1, 2, 0, 0, 0)] = some 71 := by decide +kernel
theorem bkSR_best_78 : zBk mSR_best 78 [(1, 4, 0, 0, 0)] = some 80 := by decide +kernel
theorem bkSR_best_74 : zBk mSR_best 74 [(1, 3, 0, 0, 0), (22, 80, 0, 0, 0)] = some 80 := by decide +kernel
theorem bkSR_best_41 : zBk mSR_best 41 [(1, 0, 1, 0, 0), (1, 1, 0, 0, 0), (1, 5, 0, 0, 0)] = some 45 := by decide +kernel
theorem bkSR_best_48 : zBk mSR_best 48 [(2, 6, 0, 0, 0), (1, 6, 0, 0, 0), (1, 4, 0, 0, 0)] = some 54 := by decide +kernel
theorem bkSR_best_64 : zBk mSR_best 64 [(3, 5, 0, 0, 1), (22, 34, 0, 0, 0)] = some 34 := by decide +kernel
theorem bkSR_best_57 : zBk mSR_best 57 [(1, 6, 0, 0, 0), (2, 4, 0, 0, 0), (1, 5, 0, 0, 0), (2, 3, 0, 0, 0), (3, 5, 0, 0, 1), (22, 34, 0, 0, 0)] = some 34 := by decide +kernel
theorem bdSR_best_5 : decode mSR_best.2.2.1 5 = .ok (.invokevirtual 169, 3) := by decide +kernel
theorem bdSR_best_8 : decode mSR_best.2.2.1 8 = .ok (.ifCond .eq 11, 3) := by decide +kernel
theorem bdSR_best_13 : decode mSR_best.2.2.1 13 = .ok (.invokestatic 126, 3) := by decide +kernel
theorem bdSR_best_16 : decode mSR_best.2.2.1 16 = .ok (.ifCond .ne 5, 3) := by decide +kernel
theorem bdSR_best_20 : decode mSR_best.2.2.1 20 = .ok (.ireturn, 1) := by decide +kernel
theorem bdSR_best_26 : decode mSR_best.2.2.1 26 = .ok (.invokevirtual 304, 3) := by decide +kernel
theorem bdSR_best_38 : decode mSR_best.2.2.1 38 = .ok (.if_icmp .ge 32, 3) := by decide +kernel
theorem bdSR_best_45 : decode mSR_best.2.2.1 45 = .ok (.invokevirtual 304, 3) := by decide +kernel
theorem bdSR_best_54 : decode mSR_best.2.2.1 54 = .ok (.if_icmp .ge 10, 3) := by decide +kernel
theorem bdSR_best_71 : decode mSR_best.2.2.1 71 = .ok (.ifCond .ne 7, 3) := by decide +kernel
theorem bdSR_best_80 : decode mSR_best.2.2.1 80 = .ok (.ireturn, 1) := by decide +kernel
theorem lSR_best {sg : zSig} {n w : Int32} (ob : okS sg 1) (h0 : 0 ≤ sg 36 2) (h1 : sg 36 2 < 8) (u0 : 0 ≤ sg 36 3) (u1 : sg 36 3 ≤ 8) (hf : okF sg) {Q : Option Value → zHp → Prop} (hq : ∀ rr h', (∃ v sg', rr = some (.int v) ∧ h' = zN sg' ∧ hQ sg sg' ∧ v = if ((0 ≤ n ∧ n < sg 1 4) ∧ sg (zel 4 n) 0 ≠ 0) ∧ 0 ≤ w ∧ w ≤ 1 then (if w = 0 then (qBs sg n).1 else (qBs sg n).2) else -1) → Q rr h') : zG mSR_best 411 Q 0 [(0, .ref 0), (1, .int n), (2, .int w)] [] (zN sg) := by
  obtain ⟨⟨n0, n1⟩, ⟨g0, g1⟩, ⟨a0, a1⟩, -⟩ := id ob
  refine zG_run bkSR_best_0 (lv' := [(0, .ref 0), (1, .int n), (2, .int w)]) (st' := [.int n, .ref 1]) (h' := zN sg) (Ps := [zOb (zN sg) 0 9 ∧ (zN sg).2.2 0 0 = true]) rfl (zA ⟨zob_0, rfl⟩ trivial) ?_
  refine zG_callv (a := 1) (c := 5) (As := [.int n]) (rest := []) (N2 := 411) bdSR_best_5 okShe_hasSpan lk9_169 (And.intro (by decide) (by decide)) (by decide) rfl rfl rfl (Nat.le_of_ble_eq_true rfl) (Nat.le_of_ble_eq_true rfl) (Nat.le_refl 411) (Nat.le_refl 411) zob_1 (cShe_hasSpan (by lia)) ?_
  rintro rr h' ⟨rfl, rfl⟩ -
  refine zb_ifeq (tgt := 19) bkSR_best_8 bdSR_best_8 (by decide) (lv' := [(0, .ref 0), (1, .int n), (2, .int w)]) (st' := []) (h' := zN sg) (x := if (0 ≤ n ∧ n < sg 1 4) ∧ sg (zel 4 n) 0 ≠ 0 then 1 else 0) (Ps := []) rfl trivial (fun c1 => ?_) (fun c1 => ?_)
  · skip
    refine zb_iret bkSR_best_19 bdSR_best_20 rfl (x := (-1)) (h' := zN sg) (Ps := []) rfl trivial rfl ?_
    refine hq _ _ ?_
    refine ⟨_, _, rfl, rfl, hQ_refl hf, ?_⟩
    rw [if_neg (by grind)]
  · skip
    refine zG_run bkSR_best_11 (lv' := [(0, .ref 0), (1, .int n), (2, .int w)]) (st' := [.int 1, .int w]) (h' := zN sg) (Ps := []) rfl trivial ?_
    refine zG_calls (As := [.int w, .int 1]) (rest := []) (N2 := 411) bdSR_best_13 okSR_isWithin lk9_126 (And.intro (by decide) (by decide)) rfl rfl (Nat.le_of_ble_eq_true rfl) (Nat.le_of_ble_eq_true rfl) (Nat.le_refl 411) (Nat.le_refl 411) cSR_isWithin ?_
    rintro rr h' ⟨rfl, rfl⟩ -
    refine zb_ifne (tgt := 21) bkSR_best_16 bdSR_best_16 (by decide) (lv' := [(0, .ref 0), (1, .int n), (2, .int w)]) (st' := []) (h' := zN sg) (x := if 0 ≤ w ∧ w ≤ 1 then 1 else 0) (Ps := []) rfl trivial (fun c2 => ?_) (fun c2 => ?_)
    · skip
      have hw : ((0 ≤ n ∧ n < sg 1 4) ∧ sg (zel 4 n) 0 ≠ 0) ∧ 0 ≤ w ∧ w ≤ 1 := by grind
      refine zG_run bkSR_best_21 (lv' := [(3, .int 0), (0, .ref 0), (1, .int n), (2, .int w)]) (st' := [.int 0, .int n, .ref 0]) (h' := zN sg) (Ps := []) rfl trivial ?_
      refine zG_callv (a := 0) (c := 9) (As := [.int n, .int 0]) (rest := []) (N2 := 411) bdSR_best_26 okSR_runsIfRaised lk9_304 (And.intro (by decide) (by decide)) (by decide) rfl rfl rfl (Nat.le_of_ble_eq_true rfl) (Nat.le_of_ble_eq_true rfl) (Nat.le_refl 411) (Nat.le_refl 411) zob_0 (cSR_runsIfRaised (k := n) (l := 0) ob h0 h1 u0 u1 hf) ?_
      rintro rr h' ⟨v0, sg0, rfl, rfl, hq0, hv0⟩ -
      refine zG_run bkSR_best_29 (lv' := [(5, .int 1), (4, .int v0), (3, .int 0), (0, .ref 0), (1, .int n), (2, .int w)]) (st' := []) (h' := zN sg0) (Ps := []) rfl trivial ?_
      refine zG_pick (lv' := [(0, .ref 0), (1, .int n), (2, .int w), (3, .int 0), (4, .int v0), (5, .int 1)]) [3, 4, 5, 2, 1, 0] rfl ?_
      refine zlp4 (fun (b : Int32) (f : Int32) (l : Int32) (sg1 : zSig) => zG mSR_best 411 Q 34 [(0, .ref 0), (1, .int n), (2, .int w), (3, .int b), (4, .int f), (5, .int l)] [] (zN sg1)) (fun (b : Int32) (f : Int32) (l : Int32) (sg1 : zSig) => (1 ≤ l) ∧ (l ≤ 10) ∧ (hQ sg sg1) ∧ ((b, f) = zit (bs1 sg n) (0, qRs sg n 0) l)) (fun (b : Int32) (f : Int32) (l : Int32) (sg1 : zSig) => zmu 10 l) ?_ 0 v0 1 sg0 ?_
      · intro b f l sg1 hI ih
        obtain ⟨l0, l1, iq, iz⟩ := hI
        have i36 := hQ_s iq 36 2 (by decide) (by decide)
        have i37 := hQ_s iq 36 3 (by decide) (by decide)
        refine zb_icge (tgt := 70) bkSR_best_34 bdSR_best_38 (by decide) (lv' := [(0, .ref 0), (1, .int n), (2, .int w), (3, .int b), (4, .int f), (5, .int l)]) (st' := []) (h' := zN sg1) (x := l) (y := 10) (Ps := []) rfl trivial (fun c3 => ?_) (fun c3 => ?_)
        · skip
          refine zb_ifne (tgt := 78) bkSR_best_70 bdSR_best_71 (by decide) (lv' := [(0, .ref 0), (1, .int n), (2, .int w), (3, .int b), (4, .int f), (5, .int l)]) (st' := []) (h' := zN sg1) (x := w) (Ps := []) rfl trivial (fun c4 => ?_) (fun c4 => ?_)
          · skip
            refine zb_iret bkSR_best_78 bdSR_best_80 rfl (x := f) (h' := zN sg1) (Ps := []) rfl trivial rfl ?_
            refine hq _ _ ?_
            have e10 : l = 10 := by lia
            subst e10
            refine ⟨_, _, rfl, rfl, iq, ?_⟩
            rw [if_pos hw]
            unfold qBs; rw [← iz]
            first | rw [if_pos (by lia)] | rw [if_neg (by lia)]
          · skip
            refine zb_iret bkSR_best_74 bdSR_best_80 rfl (x := b) (h' := zN sg1) (Ps := []) rfl trivial rfl ?_
            refine hq _ _ ?_
            have e10 : l = 10 := by lia
            subst e10
            refine ⟨_, _, rfl, rfl, iq, ?_⟩
            rw [if_pos hw]
            unfold qBs; rw [← iz]
            first | rw [if_pos (by lia)] | rw [if_neg (by lia)]
        · skip
          refine zG_run bkSR_best_41 (lv' := [(0, .ref 0), (1, .int n), (2, .int w), (3, .int b), (4, .int f), (5, .int l)]) (st' := [.int l, .int n, .ref 0]) (h' := zN sg1) (Ps := []) rfl trivial ?_
          refine zG_callv (a := 0) (c := 9) (As := [.int n, .int l]) (rest := []) (N2 := 411) bdSR_best_45 okSR_runsIfRaised lk9_304 (And.intro (by decide) (by decide)) (by decide) rfl rfl rfl (Nat.le_of_ble_eq_true rfl) (Nat.le_of_ble_eq_true rfl) (Nat.le_refl 411) (Nat.le_refl 411) zob_0 (cSR_runsIfRaised (k := n) (l := l) (hQ_okS iq ob) (by rw [i36]; exact h0) (by rw [i36]; exact h1) (by rw [i37]; exact u0) (by rw [i37]; exact u1) iq.2) ?_
          rintro rr h' ⟨v1, sg2, rfl, rfl, hq2, hv1⟩ -
          have hr1 : v1 = qRs sg n l := by rw [hv1]; exact qRs_Q iq ob
          refine zb_icge (tgt := 64) bkSR_best_48 bdSR_best_54 (by decide) (lv' := [(6, .int v1), (0, .ref 0), (1, .int n), (2, .int w), (3, .int b), (4, .int f), (5, .int l)]) (st' := []) (h' := zN sg2) (x := v1) (y := f) (Ps := []) rfl trivial (fun c5 => ?_) (fun c5 => ?_)
          · skip
            refine zG_run bkSR_best_64 (lv' := [(5, .int (l + 1)), (6, .int v1), (0, .ref 0), (1, .int n), (2, .int w), (3, .int b), (4, .int f)]) (st' := []) (h' := zN sg2) (Ps := []) rfl trivial ?_
            refine zG_pick (lv' := [(0, .ref 0), (1, .int n), (2, .int w), (3, .int b), (4, .int f), (5, .int (l + 1))]) [2, 3, 4, 5, 6, 0] rfl ?_
            refine ih b f (l + 1) sg2 ?_ ?_
            · refine ⟨?_, ?_, ?_, ?_⟩
              · lia
              · lia
              · exact hQ_trans iq hq2
              · rw [zit_s _ _ (by lia : 0 ≤ l) (by lia : l < 10), ← iz]; unfold bs1; rw [if_neg (by lia), ← hr1]; first | rw [if_pos (by assumption)] | (rw [if_neg (by assumption)]) | (rw [if_pos (by lia)]) | (rw [if_neg (by lia)])
            · exact zmu_up (by lia)
          · skip
            refine zG_run bkSR_best_57 (lv' := [(5, .int (l + 1)), (3, .int l), (4, .int v1), (6, .int v1), (0, .ref 0), (1, .int n), (2, .int w)]) (st' := []) (h' := zN sg2) (Ps := []) rfl trivial ?_
            refine zG_pick (lv' := [(0, .ref 0), (1, .int n), (2, .int w), (3, .int l), (4, .int v1), (5, .int (l + 1))]) [4, 5, 6, 1, 2, 0] rfl ?_
            refine ih l v1 (l + 1) sg2 ?_ ?_
            · refine ⟨?_, ?_, ?_, ?_⟩
              · lia
              · lia
              · exact hQ_trans iq hq2
              · rw [zit_s _ _ (by lia : 0 ≤ l) (by lia : l < 10), ← iz]; unfold bs1; rw [if_neg (by lia), ← hr1]; first | rw [if_pos (by assumption)] | (rw [if_neg (by assumption)]) | (rw [if_pos (by lia)]) | (rw [if_neg (by lia)])
            · exact zmu_up (by lia)
      · refine ⟨?_, ?_, ?_, ?_⟩
        · lia
        · lia
        · exact hq0
        · rw [show (1 : Int32) = 0 + 1 by decide, zit_s _ _ (Int32.le_refl 0) (by decide : (0 : Int32) < 10), zit_0]; unfold bs1; rw [if_pos rfl, hv0]; rfl
    · skip
      refine zb_iret bkSR_best_19 bdSR_best_20 rfl (x := (-1)) (h' := zN sg) (Ps := []) rfl trivial rfl ?_
      refine hq _ _ ?_
      refine ⟨_, _, rfl, rfl, hQ_refl hf, ?_⟩
      rw [if_neg (by grind)]
theorem cSR_best {sg : zSig} {n w : Int32} (ob : okS sg 1) (h0 : 0 ≤ sg 36 2) (h1 : sg 36 2 < 8) (u0 : 0 ≤ sg 36 3) (u1 : sg 36 3 ≤ 8) (hf : okF sg) : zG mSR_best 411 (fun rr h' => ∃ v sg', rr = some (.int v) ∧ h' = zN sg' ∧ hQ sg sg' ∧ v = if ((0 ≤ n ∧ n < sg 1 4) ∧ sg (zel 4 n) 0 ≠ 0) ∧ 0 ≤ w ∧ w ≤ 1 then (if w = 0 then (qBs sg n).1 else (qBs sg n).2) else -1) 0 [(0, .ref 0), (1, .int n), (2, .int w)] [] (zN sg) := lSR_best ob h0 h1 u0 u1 hf (fun _ _ q => q)
def qIb (sg : zSig) (k : Int32) : Int32 := zit (fun j a => if cS sg k (-1) 0 j ≠ nS sg j then 0 else a) 1 (sg 1 2)
theorem zit_all (p : Int32 → Prop) [DecidablePred p] {q : Int32} (hq : 0 ≤ q) : (zit (fun j a => if p j then 0 else a) (1 : Int32) q = 0 ∧ ∃ j, 0 ≤ j ∧ j < q ∧ p j) ∨ (zit (fun j a => if p j then 0 else a) (1 : Int32) q = 1 ∧ ∀ j, 0 ≤ j → j < q → ¬ p j) := by
  obtain ⟨n, hn, rfl⟩ := znn hq
  have key : ∀ m : Nat, m ≤ n → (zitN (fun j a => if p j then 0 else a) (1 : Int32) m = 0 ∧ ∃ j, 0 ≤ j ∧ j < nI m ∧ p j) ∨ (zitN (fun j a => if p j then 0 else a) (1 : Int32) m = 1 ∧ ∀ j, 0 ≤ j → j < nI m → ¬ p j) := by
    intro m
    induction m with
    | zero => intro _; right; exact ⟨rfl, fun j h1 h2 => by rw [nI_0] at h2; grind⟩
    | succ m ih =>
      intro hm
      have hlt : nI m < nI (m + 1) := nI_lt (by omega) (by omega)
      have hs : nI (m + 1) = nI m + 1 := (nI_1 m).symm
      have hp0 := nI_pos' (n := m) (by omega)
      show (((if p (nI m) then 0 else zitN (fun j a => if p j then 0 else a) (1 : Int32) m) : Int32) = 0 ∧ _) ∨ (((if p (nI m) then 0 else zitN (fun j a => if p j then 0 else a) (1 : Int32) m) : Int32) = 1 ∧ _)
      by_cases hp : p (nI m)
      · left; rw [if_pos hp]; exact ⟨rfl, nI m, hp0, hlt, hp⟩
      · rw [if_neg hp]
        rcases ih (by omega) with ⟨h1, j, h2, h3, h4⟩ | ⟨h1, h2⟩
        · left; exact ⟨h1, j, h2, by lia, h4⟩
        · right
          refine ⟨h1, fun j h3 h4 => ?_⟩
          by_cases hj : j = nI m
          · rw [hj]; exact hp
          · exact h2 j h3 (by lia)
  unfold zit
  rw [nI_clamp hn]
  exact key n (Nat.le_refl _)
theorem qId_b {sg : zSig} {k v : Int32} (n0 : 0 ≤ sg 1 2) (h : qId sg k v) : v = qIb sg k := by
  rcases zit_all (fun j => cS sg k (-1) 0 j ≠ nS sg j) n0 with ⟨h1, j, j0, j1, j2⟩ | ⟨h1, h2⟩
  · rcases h with ⟨a1, a2⟩ | ⟨a1, a2⟩
    · exact absurd (a2 j j0 j1) j2
    · rw [a1]; exact h1.symm
  · rcases h with ⟨a1, a2⟩ | ⟨a1, j, j0, j1, j2⟩
    · rw [a1]; exact h1.symm
    · exact absurd j2 (h2 j j0 j1)
theorem qIb_or {sg : zSig} {k : Int32} (n0 : 0 ≤ sg 1 2) : qIb sg k = 0 ∨ qIb sg k = 1 := by
  rcases zit_all (fun j => cS sg k (-1) 0 j ≠ nS sg j) n0 with h | h
  · exact Or.inl h.1
  · exact Or.inr h.1
theorem qIb_Q {sg sg' : zSig} {k : Int32} (h : hQ sg sg') (ob : okS sg 1) : qIb sg' k = qIb sg k := by
  unfold qIb
  rw [hQ_s h 1 2 (by decide) (by decide)]
  exact zit_congr ob.1.1 (fun j x _ _ => by unfold nS; rw [hQ_cS h ob, hQ_cS h ob])
def id1 (sg : zSig) (k b : Int32) : Int32 := if sg (zel 4 k) 0 ≠ 0 ∧ qIb sg k ≠ 0 then b ||| (1 <<< (k &&& 31)) else b
theorem bkSR_idle_0 : zBk mSR_idle 0 [(0, 0, 0, 0, 0), (2, 1, 0, 0, 0), (0, 0, 0, 0, 0), (2, 2, 0, 0, 0)] = some 4 := by decide +kernel
theorem bkSR_idle_4 : zBk mSR_idle 4 [(1, 2, 0, 0, 0), (1, 0, 1, 0, 0), (5, 9, 0, 1, 0), (5, 5, 4, 0, 4)] = some 12 := by decide +kernel
theorem bkSR_idle_46 : zBk mSR_idle 46 [(1, 1, 0, 0, 0)] = some 47 := by decide +kernel
theorem bkSR_idle_15 : zBk mSR_idle 15 [(1, 0, 1, 0, 0), (5, 9, 0, 1, 0), (1, 2, 0, 0, 0)] = some 20 := by decide +kernel
theorem bkSR_idle_23 : zBk mSR_idle 23 [] = some 23 := by decide +kernel
theorem bkSR_idle_40 : zBk mSR_idle 40 [(3, 2, 0, 0, 1), (22, 4, 0, 0, 0)] = some 4 := by decide +kernel
theorem bkSR_idle_26 : zBk mSR_idle 26 [(1, 0, 1, 0, 0), (1, 2, 0, 0, 0)] = some 28 := by decide +kernel
theorem bkSR_idle_31 : zBk mSR_idle 31 [] = some 31 := by decide +kernel
theorem bkSR_idle_34 : zBk mSR_idle 34 [(1, 1, 0, 0, 0), (0, 0, 0, 0, 1), (1, 2, 0, 0, 0), (4, 6, 0, 0, 0), (4, 4, 0, 0, 0), (2, 1, 0, 0, 0), (3, 2, 0, 0, 1), (22, 4, 0, 0, 0)] = some 4 := by decide +kernel
theorem bdSR_idle_12 : decode mSR_idle.2.2.1 12 = .ok (.if_icmp .ge 34, 3) := by decide +kernel
theorem bdSR_idle_20 : decode mSR_idle.2.2.1 20 = .ok (.invokevirtual 169, 3) := by decide +kernel
theorem bdSR_idle_23 : decode mSR_idle.2.2.1 23 = .ok (.ifCond .eq 17, 3) := by decide +kernel
theorem bdSR_idle_28 : decode mSR_idle.2.2.1 28 = .ok (.invokevirtual 275, 3) := by decide +kernel
theorem bdSR_idle_31 : decode mSR_idle.2.2.1 31 = .ok (.ifCond .eq 9, 3) := by decide +kernel
theorem bdSR_idle_47 : decode mSR_idle.2.2.1 47 = .ok (.ireturn, 1) := by decide +kernel
theorem lSR_idle {sg : zSig}  (ob : okS sg 1) (h0 : 0 ≤ sg 36 2) (h1 : sg 36 2 < 8) (u0 : 0 ≤ sg 36 3) (u1 : sg 36 3 ≤ 8) (hf : okF sg) {Q : Option Value → zHp → Prop} (hq : ∀ rr h', (∃ v sg', rr = some (.int v) ∧ h' = zN sg' ∧ hQ sg sg' ∧ v = zit (id1 sg) 0 (sg 1 4)) → Q rr h') : zG mSR_idle 411 Q 0 [(0, .ref 0)] [] (zN sg) := by
  obtain ⟨⟨n0, n1⟩, ⟨g0, g1⟩, ⟨a0, a1⟩, -⟩ := id ob
  refine zG_run bkSR_idle_0 (lv' := [(2, .int 0), (1, .int 0), (0, .ref 0)]) (st' := []) (h' := zN sg) (Ps := []) rfl trivial ?_
  refine zG_pick (lv' := [(0, .ref 0), (1, .int 0), (2, .int 0)]) [2, 1, 0] rfl ?_
  refine zlp3 (fun (b : Int32) (k : Int32) (sg1 : zSig) => zG mSR_idle 411 Q 4 [(0, .ref 0), (1, .int b), (2, .int k)] [] (zN sg1)) (fun (b : Int32) (k : Int32) (sg1 : zSig) => (0 ≤ k) ∧ (k ≤ sg 1 4) ∧ (hQ sg sg1) ∧ (b = zit (id1 sg) 0 k)) (fun (b : Int32) (k : Int32) (sg1 : zSig) => zmu (sg 1 4) k) ?_ 0 0 sg ?_
  · intro b k sg1 hI ih
    obtain ⟨k0, k1, iq, iz⟩ := hI
    have i36 := hQ_s iq 36 2 (by decide) (by decide)
    have i37 := hQ_s iq 36 3 (by decide) (by decide)
    have i14 := hQ_s iq 1 4 (by decide) (by decide)
    have i12 := hQ_s iq 1 2 (by decide) (by decide)
    refine zb_icge (tgt := 46) bkSR_idle_4 bdSR_idle_12 (by decide) (lv' := [(0, .ref 0), (1, .int b), (2, .int k)]) (st' := []) (h' := zN sg1) (x := k) (y := sg1 1 4) (Ps := [zOb (zN sg1) 0 9 ∧ (zN sg1).2.2 0 0 = true, zOb (zN sg1) 1 5]) rfl (zA ⟨zob_0, rfl⟩ (zA zob_1 trivial)) (fun c1 => ?_) (fun c1 => ?_)
    · skip
      refine zb_iret bkSR_idle_46 bdSR_idle_47 rfl (x := b) (h' := zN sg1) (Ps := []) rfl trivial rfl ?_
      refine hq _ _ ?_
      have ek : k = sg 1 4 := by lia
      refine ⟨_, _, rfl, rfl, iq, ?_⟩
      rw [iz, ek]
    · skip
      have hz := zel4_rng (i := k) k0 (by lia)
      have hz0 := hQ_s iq (zel 4 k) 0 (by omega) (by omega)
      refine zG_run bkSR_idle_15 (lv' := [(0, .ref 0), (1, .int b), (2, .int k)]) (st' := [.int k, .ref 1]) (h' := zN sg1) (Ps := [zOb (zN sg1) 0 9 ∧ (zN sg1).2.2 0 0 = true]) rfl (zA ⟨zob_0, rfl⟩ trivial) ?_
      refine zG_callv (a := 1) (c := 5) (As := [.int k]) (rest := []) (N2 := 411) bdSR_idle_20 okShe_hasSpan lk9_169 (And.intro (by decide) (by decide)) (by decide) rfl rfl rfl (Nat.le_of_ble_eq_true rfl) (Nat.le_of_ble_eq_true rfl) (Nat.le_refl 411) (Nat.le_refl 411) zob_1 (cShe_hasSpan (by lia)) ?_
      rintro rr h' ⟨rfl, rfl⟩ -
      refine zb_ifeq (tgt := 40) bkSR_idle_23 bdSR_idle_23 (by decide) (lv' := [(0, .ref 0), (1, .int b), (2, .int k)]) (st' := []) (h' := zN sg1) (x := if (0 ≤ k ∧ k < sg1 1 4) ∧ sg1 (zel 4 k) 0 ≠ 0 then 1 else 0) (Ps := []) rfl trivial (fun c2 => ?_) (fun c2 => ?_)
      · skip
        refine zG_run bkSR_idle_40 (lv' := [(2, .int (k + 1)), (0, .ref 0), (1, .int b)]) (st' := []) (h' := zN sg1) (Ps := []) rfl trivial ?_
        refine zG_pick (lv' := [(0, .ref 0), (1, .int b), (2, .int (k + 1))]) [1, 2, 0] rfl ?_
        refine ih b (k + 1) sg1 ?_ ?_
        · refine ⟨?_, ?_, ?_, ?_⟩
          · lia
          · lia
          · exact iq
          · rw [zit_s _ _ k0 (by lia : k < sg 1 4), ← iz]; unfold id1; rw [if_neg (by have := hz0; grind)]
        · exact zmu_up (by lia)
      · skip
        refine zG_run bkSR_idle_26 (lv' := [(0, .ref 0), (1, .int b), (2, .int k)]) (st' := [.int k, .ref 0]) (h' := zN sg1) (Ps := []) rfl trivial ?_
        refine zG_callv (a := 0) (c := 9) (As := [.int k]) (rest := []) (N2 := 411) bdSR_idle_28 okSR_isIdle lk9_275 (And.intro (by decide) (by decide)) (by decide) rfl rfl rfl (Nat.le_of_ble_eq_true rfl) (Nat.le_of_ble_eq_true rfl) (Nat.le_refl 411) (Nat.le_refl 411) zob_0 (cSR_isIdle (k := k) (hQ_okS iq ob) (by rw [i36]; exact h0) (by rw [i36]; exact h1) (by rw [i37]; exact u0) (by rw [i37]; exact u1) iq.2) ?_
        rintro rr h' ⟨v1, sg2, rfl, rfl, hq2, hv1⟩ -
        have hr1 : v1 = qIb sg k := by rw [qId_b (by lia) hv1]; exact qIb_Q iq ob
        refine zb_ifeq (tgt := 40) bkSR_idle_31 bdSR_idle_31 (by decide) (lv' := [(0, .ref 0), (1, .int b), (2, .int k)]) (st' := []) (h' := zN sg2) (x := v1) (Ps := []) rfl trivial (fun c3 => ?_) (fun c3 => ?_)
        · skip
          refine zG_run bkSR_idle_40 (lv' := [(2, .int (k + 1)), (0, .ref 0), (1, .int b)]) (st' := []) (h' := zN sg2) (Ps := []) rfl trivial ?_
          refine zG_pick (lv' := [(0, .ref 0), (1, .int b), (2, .int (k + 1))]) [1, 2, 0] rfl ?_
          refine ih b (k + 1) sg2 ?_ ?_
          · refine ⟨?_, ?_, ?_, ?_⟩
            · lia
            · lia
            · exact hQ_trans iq hq2
            · rw [zit_s _ _ k0 (by lia : k < sg 1 4), ← iz]; unfold id1; first | (rw [if_pos (by have := hz0; grind)]; done) | (rw [if_neg (by have := hz0; grind)]; done)
          · exact zmu_up (by lia)
        · skip
          refine zG_run bkSR_idle_34 (lv' := [(2, .int (k + 1)), (1, .int (b ||| (1 <<< (k &&& 31)))), (0, .ref 0)]) (st' := []) (h' := zN sg2) (Ps := []) rfl trivial ?_
          refine zG_pick (lv' := [(0, .ref 0), (1, .int (b ||| (1 <<< (k &&& 31)))), (2, .int (k + 1))]) [2, 1, 0] rfl ?_
          refine ih (b ||| (1 <<< (k &&& 31))) (k + 1) sg2 ?_ ?_
          · refine ⟨?_, ?_, ?_, ?_⟩
            · lia
            · lia
            · exact hQ_trans iq hq2
            · rw [zit_s _ _ k0 (by lia : k < sg 1 4), ← iz]; unfold id1; first | (rw [if_pos (by have := hz0; grind)]; done) | (rw [if_neg (by have := hz0; grind)]; done)
          · exact zmu_up (by lia)
  · refine ⟨?_, ?_, ?_, ?_⟩
    · lia
    · lia
    · exact hQ_refl hf
    · rfl
theorem cSR_idle {sg : zSig}  (ob : okS sg 1) (h0 : 0 ≤ sg 36 2) (h1 : sg 36 2 < 8) (u0 : 0 ≤ sg 36 3) (u1 : sg 36 3 ≤ 8) (hf : okF sg) : zG mSR_idle 411 (fun rr h' => ∃ v sg', rr = some (.int v) ∧ h' = zN sg' ∧ hQ sg sg' ∧ v = zit (id1 sg) 0 (sg 1 4)) 0 [(0, .ref 0)] [] (zN sg) := lSR_idle ob h0 h1 u0 u1 hf (fun _ _ q => q)
def crs (sg : zSig) (a b : Int32) : Bool := decide ((sg (zel 4 a) 0 ≠ 0 ∧ sg (zel 4 b) 0 ≠ 0) ∧ (sg (zel 4 a) 1 < sg (zel 4 b) 2 ∧ sg (zel 4 b) 1 < sg (zel 4 a) 2) ∧ ¬ (sg (zel 4 a) 1 ≤ sg (zel 4 b) 1 ∧ sg (zel 4 b) 2 ≤ sg (zel 4 a) 2) ∧ ¬ (sg (zel 4 b) 1 ≤ sg (zel 4 a) 1 ∧ sg (zel 4 a) 2 ≤ sg (zel 4 b) 2))
def cr1 (sg : zSig) (a b p : Int32) : Int32 := if p = -1 ∧ a < b ∧ crs sg a b = true then 100 * a + b else p
def cr2 (sg : zSig) (a p : Int32) : Int32 := zit (cr1 sg a) p (sg 1 4)
def qCr (sg : zSig) : Int32 := zit (cr2 sg) (-1) (sg 1 4)
theorem cr1_st {sg : zSig} {a b p v : Int32} (h0 : v ≠ -1) (h : p = v) : cr1 sg a b p = v := by
  unfold cr1; rw [if_neg (fun q => h0 (h ▸ q.1))]; exact h
theorem bkSR_crossed_0 : zBk mSR_crossed 0 [(0, 0, 0, 0, 0), (2, 1, 0, 0, 0)] = some 2 := by decide +kernel
theorem bkSR_crossed_2 : zBk mSR_crossed 2 [(1, 1, 0, 0, 0), (1, 0, 1, 0, 0), (5, 9, 0, 1, 0), (5, 5, 4, 0, 4)] = some 10 := by decide +kernel
theorem bkSR_crossed_103 : zBk mSR_crossed 103 [(0, 0, 0, 0, -1)] = some 104 := by decide +kernel
theorem bkSR_crossed_13 : zBk mSR_crossed 13 [(1, 1, 0, 0, 0), (0, 0, 0, 0, 1), (4, 0, 0, 0, 0), (2, 2, 0, 0, 0)] = some 17 := by decide +kernel
theorem bkSR_crossed_17 : zBk mSR_crossed 17 [(1, 2, 0, 0, 0), (1, 0, 1, 0, 0), (5, 9, 0, 1, 0), (5, 5, 4, 0, 4)] = some 25 := by decide +kernel
theorem bkSR_crossed_97 : zBk mSR_crossed 97 [(3, 1, 0, 0, 1), (22, 2, 0, 0, 0)] = some 2 := by decide +kernel
theorem bkSR_crossed_28 : zBk mSR_crossed 28 [(1, 0, 1, 0, 0), (5, 9, 0, 1, 0), (1, 1, 0, 0, 0)] = some 33 := by decide +kernel
theorem bkSR_crossed_36 : zBk mSR_crossed 36 [] = some 36 := by decide +kernel
theorem bkSR_crossed_54 : zBk mSR_crossed 54 [(0, 0, 0, 0, 0), (2, 3, 0, 0, 0), (1, 3, 0, 0, 0)] = some 57 := by decide +kernel
theorem bkSR_crossed_91 : zBk mSR_crossed 91 [(3, 2, 0, 0, 1), (22, 17, 0, 0, 0)] = some 17 := by decide +kernel
theorem bkSR_crossed_39 : zBk mSR_crossed 39 [(1, 0, 1, 0, 0), (5, 9, 0, 1, 0), (1, 2, 0, 0, 0)] = some 44 := by decide +kernel
theorem bkSR_crossed_47 : zBk mSR_crossed 47 [] = some 47 := by decide +kernel
theorem bkSR_crossed_50 : zBk mSR_crossed 50 [(0, 0, 0, 0, 1), (22, 55, 0, 0, 0), (2, 3, 0, 0, 0), (1, 3, 0, 0, 0)] = some 57 := by decide +kernel
theorem bkSR_crossed_60 : zBk mSR_crossed 60 [(1, 0, 1, 0, 0), (5, 9, 0, 1, 0), (5, 5, 3, 3, 3), (1, 1, 0, 0, 0), (9, 0, 0, 0, 0), (1, 0, 1, 0, 0), (5, 9, 0, 1, 0), (5, 5, 3, 3, 3), (1, 2, 0, 0, 0), (9, 0, 0, 0, 0)] = some 78 := by decide +kernel
theorem bkSR_crossed_81 : zBk mSR_crossed 81 [] = some 81 := by decide +kernel
theorem bkSR_crossed_84 : zBk mSR_crossed 84 [(0, 0, 0, 0, 100), (1, 1, 0, 0, 0), (4, 2, 0, 0, 0), (1, 2, 0, 0, 0), (4, 0, 0, 0, 0)] = some 90 := by decide +kernel
theorem bdSR_crossed_10 : decode mSR_crossed.2.2.1 10 = .ok (.if_icmp .ge 93, 3) := by decide +kernel
theorem bdSR_crossed_25 : decode mSR_crossed.2.2.1 25 = .ok (.if_icmp .ge 72, 3) := by decide +kernel
theorem bdSR_crossed_33 : decode mSR_crossed.2.2.1 33 = .ok (.invokevirtual 169, 3) := by decide +kernel
theorem bdSR_crossed_36 : decode mSR_crossed.2.2.1 36 = .ok (.ifCond .eq 18, 3) := by decide +kernel
theorem bdSR_crossed_44 : decode mSR_crossed.2.2.1 44 = .ok (.invokevirtual 169, 3) := by decide +kernel
theorem bdSR_crossed_47 : decode mSR_crossed.2.2.1 47 = .ok (.ifCond .eq 7, 3) := by decide +kernel
theorem bdSR_crossed_57 : decode mSR_crossed.2.2.1 57 = .ok (.ifCond .eq 34, 3) := by decide +kernel
theorem bdSR_crossed_78 : decode mSR_crossed.2.2.1 78 = .ok (.invokevirtual 308, 3) := by decide +kernel
theorem bdSR_crossed_81 : decode mSR_crossed.2.2.1 81 = .ok (.ifCond .eq 10, 3) := by decide +kernel
theorem bdSR_crossed_90 : decode mSR_crossed.2.2.1 90 = .ok (.ireturn, 1) := by decide +kernel
theorem bdSR_crossed_104 : decode mSR_crossed.2.2.1 104 = .ok (.ireturn, 1) := by decide +kernel
theorem lSR_crossed {sg : zSig}  (ob : okS sg 1) (h0 : 0 ≤ sg 36 2) (h1 : sg 36 2 < 8) (u0 : 0 ≤ sg 36 3) (u1 : sg 36 3 ≤ 8) (hf : okF sg) {Q : Option Value → zHp → Prop} (hq : ∀ rr h', (∃ v sg', rr = some (.int v) ∧ h' = zN sg' ∧ hQ sg sg' ∧ v = qCr sg) → Q rr h') : zG mSR_crossed 411 Q 0 [(0, .ref 0)] [] (zN sg) := by
  obtain ⟨⟨n0, n1⟩, ⟨g0, g1⟩, ⟨a0, a1⟩, -⟩ := id ob
  refine zG_run bkSR_crossed_0 (lv' := [(1, .int 0), (0, .ref 0)]) (st' := []) (h' := zN sg) (Ps := []) rfl trivial ?_
  refine zG_pick (lv' := [(0, .ref 0), (1, .int 0)]) [1, 0] rfl ?_
  refine zlp1 (fun (a : Int32) => zG mSR_crossed 411 Q 2 [(0, .ref 0), (1, .int a)] [] (zN sg)) (fun (a : Int32) => (0 ≤ a) ∧ (a ≤ sg 1 4) ∧ (zit (cr2 sg) (-1) a = -1)) (fun (a : Int32) => zmu (sg 1 4) a) ?_ 0 ?_
  · intro a ho iho
    obtain ⟨l0, l1, lz⟩ := ho
    refine zb_icge (tgt := 103) bkSR_crossed_2 bdSR_crossed_10 (by decide) (lv' := [(0, .ref 0), (1, .int a)]) (st' := []) (h' := zN sg) (x := a) (y := sg 1 4) (Ps := [zOb (zN sg) 0 9 ∧ (zN sg).2.2 0 0 = true, zOb (zN sg) 1 5]) rfl (zA ⟨zob_0, rfl⟩ (zA zob_1 trivial)) (fun c1 => ?_) (fun c1 => ?_)
    · skip
      refine zb_iret bkSR_crossed_103 bdSR_crossed_104 rfl (x := (-1)) (h' := zN sg) (Ps := []) rfl trivial rfl ?_
      refine hq _ _ ?_
      refine ⟨_, _, rfl, rfl, hQ_refl hf, ?_⟩
      unfold qCr; rw [show sg 1 4 = a by lia, lz]
    · skip
      refine zG_run bkSR_crossed_13 (lv' := [(2, .int (a + 1)), (0, .ref 0), (1, .int a)]) (st' := []) (h' := zN sg) (Ps := []) rfl trivial ?_
      refine zG_pick (lv' := [(0, .ref 0), (1, .int a), (2, .int (a + 1))]) [1, 2, 0] rfl ?_
      refine zlp1 (fun (b : Int32) => zG mSR_crossed 411 Q 17 [(0, .ref 0), (1, .int a), (2, .int b)] [] (zN sg)) (fun (b : Int32) => (a < b) ∧ (b ≤ sg 1 4 ∨ (b = a + 1)) ∧ (zit (cr1 sg a) (-1) b = -1)) (fun (b : Int32) => zmu (sg 1 4) b) ?_ (a + 1) ?_
      · intro b hk ihk
        obtain ⟨k0, k1, kz⟩ := hk
        refine zb_icge (tgt := 97) bkSR_crossed_17 bdSR_crossed_25 (by decide) (lv' := [(0, .ref 0), (1, .int a), (2, .int b)]) (st' := []) (h' := zN sg) (x := b) (y := sg 1 4) (Ps := [zOb (zN sg) 0 9 ∧ (zN sg).2.2 0 0 = true, zOb (zN sg) 1 5]) rfl (zA ⟨zob_0, rfl⟩ (zA zob_1 trivial)) (fun c2 => ?_) (fun c2 => ?_)
        · skip
          refine zG_run bkSR_crossed_97 (lv' := [(1, .int (a + 1)), (0, .ref 0), (2, .int b)]) (st' := []) (h' := zN sg) (Ps := []) rfl trivial ?_
          refine zG_pick (lv' := [(0, .ref 0), (1, .int (a + 1))]) [1, 0] rfl ?_
          refine iho (a + 1) ?_ ?_
          · refine ⟨?_, ?_, ?_⟩
            · lia
            · lia
            · rw [zit_s _ _ l0 (by lia : a < sg 1 4), lz]; unfold cr2; rw [show sg 1 4 = b by lia]; exact kz
          · exact zmu_up (by lia)
        · skip
          refine zG_run bkSR_crossed_28 (lv' := [(0, .ref 0), (1, .int a), (2, .int b)]) (st' := [.int a, .ref 1]) (h' := zN sg) (Ps := [zOb (zN sg) 0 9 ∧ (zN sg).2.2 0 0 = true]) rfl (zA ⟨zob_0, rfl⟩ trivial) ?_
          refine zG_callv (a := 1) (c := 5) (As := [.int a]) (rest := []) (N2 := 411) bdSR_crossed_33 okShe_hasSpan lk9_169 (And.intro (by decide) (by decide)) (by decide) rfl rfl rfl (Nat.le_of_ble_eq_true rfl) (Nat.le_of_ble_eq_true rfl) (Nat.le_refl 411) (Nat.le_refl 411) zob_1 (cShe_hasSpan (by lia)) ?_
          rintro rr h' ⟨rfl, rfl⟩ -
          refine zb_ifeq (tgt := 54) bkSR_crossed_36 bdSR_crossed_36 (by decide) (lv' := [(0, .ref 0), (1, .int a), (2, .int b)]) (st' := []) (h' := zN sg) (x := if (0 ≤ a ∧ a < sg 1 4) ∧ sg (zel 4 a) 0 ≠ 0 then 1 else 0) (Ps := []) rfl trivial (fun c3 => ?_) (fun c3 => ?_)
          · skip
            refine zb_ifeq (tgt := 91) bkSR_crossed_54 bdSR_crossed_57 (by decide) (lv' := [(3, .int 0), (0, .ref 0), (1, .int a), (2, .int b)]) (st' := []) (h' := zN sg) (x := 0) (Ps := []) rfl trivial (fun c4 => ?_) (fun c4 => ?_)
            · skip
              refine zG_run bkSR_crossed_91 (lv' := [(2, .int (b + 1)), (3, .int 0), (0, .ref 0), (1, .int a)]) (st' := []) (h' := zN sg) (Ps := []) rfl trivial ?_
              refine zG_pick (lv' := [(0, .ref 0), (1, .int a), (2, .int (b + 1))]) [2, 3, 0] rfl ?_
              refine ihk (b + 1) ?_ ?_
              · refine ⟨?_, ?_, ?_⟩
                · lia
                · exact Or.inl (by lia)
                · rw [zit_s _ _ (by lia : 0 ≤ b) (by lia : b < sg 1 4), kz]; unfold cr1; rw [if_neg]; unfold crs; clear ihk iho hq kz lz; grind
              · exact zmu_up (by lia)
            · exact absurd c4 (by decide)
          · skip
            refine zG_run bkSR_crossed_39 (lv' := [(0, .ref 0), (1, .int a), (2, .int b)]) (st' := [.int b, .ref 1]) (h' := zN sg) (Ps := [zOb (zN sg) 0 9 ∧ (zN sg).2.2 0 0 = true]) rfl (zA ⟨zob_0, rfl⟩ trivial) ?_
            refine zG_callv (a := 1) (c := 5) (As := [.int b]) (rest := []) (N2 := 411) bdSR_crossed_44 okShe_hasSpan lk9_169 (And.intro (by decide) (by decide)) (by decide) rfl rfl rfl (Nat.le_of_ble_eq_true rfl) (Nat.le_of_ble_eq_true rfl) (Nat.le_refl 411) (Nat.le_refl 411) zob_1 (cShe_hasSpan (by lia)) ?_
            rintro rr h' ⟨rfl, rfl⟩ -
            refine zb_ifeq (tgt := 54) bkSR_crossed_47 bdSR_crossed_47 (by decide) (lv' := [(0, .ref 0), (1, .int a), (2, .int b)]) (st' := []) (h' := zN sg) (x := if (0 ≤ b ∧ b < sg 1 4) ∧ sg (zel 4 b) 0 ≠ 0 then 1 else 0) (Ps := []) rfl trivial (fun c5 => ?_) (fun c5 => ?_)
            · skip
              refine zb_ifeq (tgt := 91) bkSR_crossed_54 bdSR_crossed_57 (by decide) (lv' := [(3, .int 0), (0, .ref 0), (1, .int a), (2, .int b)]) (st' := []) (h' := zN sg) (x := 0) (Ps := []) rfl trivial (fun c6 => ?_) (fun c6 => ?_)
              · skip
                refine zG_run bkSR_crossed_91 (lv' := [(2, .int (b + 1)), (3, .int 0), (0, .ref 0), (1, .int a)]) (st' := []) (h' := zN sg) (Ps := []) rfl trivial ?_
                refine zG_pick (lv' := [(0, .ref 0), (1, .int a), (2, .int (b + 1))]) [2, 3, 0] rfl ?_
                refine ihk (b + 1) ?_ ?_
                · refine ⟨?_, ?_, ?_⟩
                  · lia
                  · exact Or.inl (by lia)
                  · rw [zit_s _ _ (by lia : 0 ≤ b) (by lia : b < sg 1 4), kz]; unfold cr1; rw [if_neg]; unfold crs; clear ihk iho hq kz lz; grind
                · exact zmu_up (by lia)
              · exact absurd c6 (by decide)
            · skip
              refine zb_ifeq (tgt := 91) bkSR_crossed_50 bdSR_crossed_57 (by decide) (lv' := [(3, .int 1), (0, .ref 0), (1, .int a), (2, .int b)]) (st' := []) (h' := zN sg) (x := 1) (Ps := []) rfl trivial (fun c7 => ?_) (fun c7 => ?_)
              · exact absurd c7 (by decide)
              · skip
                refine zG_run bkSR_crossed_60 (lv' := [(3, .int 1), (0, .ref 0), (1, .int a), (2, .int b)]) (st' := [.ref (zel 4 b), .ref (zel 4 a)]) (h' := zN sg) (Ps := [zOb (zN sg) 0 9 ∧ (zN sg).2.2 0 0 = true, zOb (zN sg) 1 5 ∧ (zN sg).2.2 1 3 = true, zInR (zN sg) 4 a, zOb (zN sg) 0 9 ∧ (zN sg).2.2 0 0 = true, zOb (zN sg) 1 5 ∧ (zN sg).2.2 1 3 = true, zInR (zN sg) 4 b]) rfl (zA ⟨zob_0, rfl⟩ (zA ⟨zob_1, rfl⟩ (zA (zinR_4 (i := a) (by lia) (by lia)) (zA ⟨zob_0, rfl⟩ (zA ⟨zob_1, rfl⟩ (zA (zinR_4 (i := b) (by lia) (by lia)) trivial)))))) ?_
                refine zG_callv (a := zel 4 a) (c := 6) (As := [.ref (zel 4 b)]) (rest := []) (N2 := 411) bdSR_crossed_78 okSpa_crosses lk9_308 (And.intro (by decide) (by decide)) (by decide) rfl rfl rfl (Nat.le_of_ble_eq_true rfl) (Nat.le_of_ble_eq_true rfl) (Nat.le_refl 411) (Nat.le_refl 411) (zel_ob4 (i := a) (by lia) (by lia)) (cSpa_crosses (zel_ob4 (i := a) (by lia) (by lia)) (zel_ob4 (i := b) (by lia) (by lia))) ?_
                rintro rr h' ⟨rfl, rfl⟩ -
                refine zb_ifeq (tgt := 91) bkSR_crossed_81 bdSR_crossed_81 (by decide) (lv' := [(3, .int 1), (0, .ref 0), (1, .int a), (2, .int b)]) (st' := []) (h' := zN sg) (x := if (sg (zel 4 a) 1 < sg (zel 4 b) 2 ∧ sg (zel 4 b) 1 < sg (zel 4 a) 2) ∧ ¬ (sg (zel 4 a) 1 ≤ sg (zel 4 b) 1 ∧ sg (zel 4 b) 2 ≤ sg (zel 4 a) 2) ∧ ¬ (sg (zel 4 b) 1 ≤ sg (zel 4 a) 1 ∧ sg (zel 4 a) 2 ≤ sg (zel 4 b) 2) then 1 else 0) (Ps := []) rfl trivial (fun c8 => ?_) (fun c8 => ?_)
                · skip
                  refine zG_run bkSR_crossed_91 (lv' := [(2, .int (b + 1)), (3, .int 1), (0, .ref 0), (1, .int a)]) (st' := []) (h' := zN sg) (Ps := []) rfl trivial ?_
                  refine zG_pick (lv' := [(0, .ref 0), (1, .int a), (2, .int (b + 1))]) [2, 3, 0] rfl ?_
                  refine ihk (b + 1) ?_ ?_
                  · refine ⟨?_, ?_, ?_⟩
                    · lia
                    · exact Or.inl (by lia)
                    · rw [zit_s _ _ (by lia : 0 ≤ b) (by lia : b < sg 1 4), kz]; unfold cr1; rw [if_neg]; unfold crs; clear ihk iho hq kz lz; grind
                  · exact zmu_up (by lia)
                · skip
                  refine zb_iret bkSR_crossed_84 bdSR_crossed_90 rfl (x := (100 * a) + b) (h' := zN sg) (Ps := []) rfl trivial rfl ?_
                  refine hq _ _ ?_
                  refine ⟨_, _, rfl, rfl, hQ_refl hf, ?_⟩
                  have hc : crs sg a b = true := by unfold crs; clear ihk iho hq kz lz; grind
                  have e1 : zit (cr1 sg a) (-1) (b + 1) = 100 * a + b := by rw [zit_s _ _ (by lia : 0 ≤ b) (by lia : b < sg 1 4), kz]; unfold cr1; rw [if_pos ⟨rfl, k0, hc⟩]
                  have e2 : zit (cr2 sg) (-1) (a + 1) = 100 * a + b := by rw [zit_s _ _ l0 (by lia : a < sg 1 4), lz]; exact zit_stable (P := fun x : Int32 => x = 100 * a + b) (i := b + 1) (by lia) (by lia) (fun j x _ _ h => cr1_st (by lia) h) e1
                  exact (zit_stable (P := fun x : Int32 => x = 100 * a + b) (i := a + 1) (by lia) (by lia) (fun j x _ _ h => zit_stable (P := fun x : Int32 => x = 100 * a + b) (i := 0) (Int32.le_refl 0) (by lia) (fun j x _ _ h => cr1_st (by lia) h) h) e2).symm
      · refine ⟨?_, ?_, ?_⟩
        · lia
        · exact Or.inr rfl
        · exact zit_id (by lia) (fun j x j0 j1 => by unfold cr1; rw [if_neg (by lia)])
  · refine ⟨?_, ?_, ?_⟩
    · lia
    · lia
    · rfl
theorem cSR_crossed {sg : zSig}  (ob : okS sg 1) (h0 : 0 ≤ sg 36 2) (h1 : sg 36 2 < 8) (u0 : 0 ≤ sg 36 3) (u1 : sg 36 3 ≤ 8) (hf : okF sg) : zG mSR_crossed 411 (fun rr h' => ∃ v sg', rr = some (.int v) ∧ h' = zN sg' ∧ hQ sg sg' ∧ v = qCr sg) 0 [(0, .ref 0)] [] (zN sg) := lSR_crossed ob h0 h1 u0 u1 hf (fun _ _ q => q)
def th1 (sg : zSig) (l n m : Int32) (p : Int32 × Int32) : Int32 × Int32 := if p.2 = 1 ∨ sg (zel 38 (hL sg (n - m))) 0 = 11 then (p.1, 1) else (fAct sg (zel 38 (hL sg (n - m))) p.1 l, p.2)
def qTh (sg : zSig) (x l n : Int32) : Int32 := if 0 ≤ x ∧ x ≤ sg (zel 37 (hL sg n)) 2 then (if (zit (th1 sg l n) (x, 0) n).2 = 1 then -1 else (zit (th1 sg l n) (x, 0) n).1) else -1
theorem th1_st {sg : zSig} {l n m : Int32} {p : Int32 × Int32} (h : p.2 = 1) : (th1 sg l n m p).2 = 1 := by
  unfold th1; rw [if_pos (Or.inl h)]
theorem bkHis_placeThrough_0 : zBk mHis_placeThrough 0 [(1, 0, 1, 0, 0), (5, 2, 0, 1, 0), (1, 0, 1, 0, 0), (1, 3, 0, 0, 0)] = some 6 := by decide +kernel
theorem bkHis_placeThrough_9 : zBk mHis_placeThrough 9 [(9, 0, 0, 0, 0), (1, 1, 0, 0, 0)] = some 11 := by decide +kernel
theorem bkHis_placeThrough_14 : zBk mHis_placeThrough 14 [] = some 14 := by decide +kernel
theorem bkHis_placeThrough_19 : zBk mHis_placeThrough 19 [(1, 1, 0, 0, 0), (2, 4, 0, 0, 0), (1, 3, 0, 0, 0), (2, 5, 0, 0, 0)] = some 25 := by decide +kernel
theorem bkHis_placeThrough_25 : zBk mHis_placeThrough 25 [(1, 5, 0, 0, 0), (0, 0, 0, 0, 1)] = some 28 := by decide +kernel
theorem bkHis_placeThrough_72 : zBk mHis_placeThrough 72 [(1, 4, 0, 0, 0)] = some 74 := by decide +kernel
theorem bkHis_placeThrough_31 : zBk mHis_placeThrough 31 [(1, 0, 1, 0, 0), (5, 2, 1, 2, 1), (1, 0, 1, 0, 0), (1, 5, 0, 0, 0)] = some 38 := by decide +kernel
theorem bkHis_placeThrough_41 : zBk mHis_placeThrough 41 [(9, 0, 0, 0, 0), (2, 6, 1, 0, 0), (1, 6, 1, 0, 0), (5, 0, 0, 0, 0), (0, 0, 0, 0, 11)] = some 51 := by decide +kernel
theorem bkHis_placeThrough_56 : zBk mHis_placeThrough 56 [(1, 6, 1, 0, 0), (1, 4, 0, 0, 0), (1, 2, 0, 0, 0)] = some 61 := by decide +kernel
theorem bkHis_placeThrough_64 : zBk mHis_placeThrough 64 [(2, 4, 0, 0, 0), (3, 5, 0, 0, -1), (22, 25, 0, 0, 0)] = some 25 := by decide +kernel
theorem bkHis_placeThrough_54 : zBk mHis_placeThrough 54 [(0, 0, 0, 0, -1)] = some 55 := by decide +kernel
theorem bkHis_placeThrough_17 : zBk mHis_placeThrough 17 [(0, 0, 0, 0, -1)] = some 18 := by decide +kernel
theorem bdHis_placeThrough_6 : decode mHis_placeThrough.2.2.1 6 = .ok (.invokevirtual 45, 3) := by decide +kernel
theorem bdHis_placeThrough_11 : decode mHis_placeThrough.2.2.1 11 = .ok (.invokevirtual 55, 3) := by decide +kernel
theorem bdHis_placeThrough_14 : decode mHis_placeThrough.2.2.1 14 = .ok (.ifCond .ne 5, 3) := by decide +kernel
theorem bdHis_placeThrough_18 : decode mHis_placeThrough.2.2.1 18 = .ok (.ireturn, 1) := by decide +kernel
theorem bdHis_placeThrough_28 : decode mHis_placeThrough.2.2.1 28 = .ok (.if_icmp .lt 44, 3) := by decide +kernel
theorem bdHis_placeThrough_38 : decode mHis_placeThrough.2.2.1 38 = .ok (.invokevirtual 45, 3) := by decide +kernel
theorem bdHis_placeThrough_51 : decode mHis_placeThrough.2.2.1 51 = .ok (.if_icmp .ne 5, 3) := by decide +kernel
theorem bdHis_placeThrough_55 : decode mHis_placeThrough.2.2.1 55 = .ok (.ireturn, 1) := by decide +kernel
theorem bdHis_placeThrough_61 : decode mHis_placeThrough.2.2.1 61 = .ok (.invokevirtual 59, 3) := by decide +kernel
theorem bdHis_placeThrough_74 : decode mHis_placeThrough.2.2.1 74 = .ok (.ireturn, 1) := by decide +kernel
theorem lHis_placeThrough {sg : zSig} {x l n : Int32} (h0 : 0 ≤ sg 36 2) (h1 : sg 36 2 < 8) (m0 : 1 ≤ n) (m1 : n ≤ 8) {Q : Option Value → zHp → Prop} (hq : ∀ rr h', (rr = some (.int (qTh sg x l n)) ∧ h' = zN sg) → Q rr h') : zG mHis_placeThrough 411 Q 0 [(0, .ref 36), (1, .int x), (2, .int l), (3, .int n)] [] (zN sg) := by
  have hk0 := hL_rng h0 h1 (n := n) (by lia) (by lia) (by lia)
  refine zG_run bkHis_placeThrough_0 (lv' := [(0, .ref 36), (1, .int x), (2, .int l), (3, .int n)]) (st' := [.int n, .ref 36, .ref 37]) (h' := zN sg) (Ps := [zOb (zN sg) 36 2 ∧ (zN sg).2.2 36 0 = true]) rfl (zA ⟨zob_36, rfl⟩ trivial) ?_
  refine zG_callv (a := 36) (c := 2) (As := [.int n]) (rest := [.ref 37]) (N2 := 411) bdHis_placeThrough_6 okHis_latest lk2_45 (And.intro (by decide) (by decide)) (by decide) rfl rfl rfl (Nat.le_of_ble_eq_true rfl) (Nat.le_of_ble_eq_true rfl) (Nat.le_refl 411) (Nat.le_refl 411) zob_36 (cHis_latest (by lia) (by lia) (by lia) (by lia)) ?_
  rintro rr h' ⟨rfl, rfl⟩ -
  refine zG_run bkHis_placeThrough_9 (lv' := [(0, .ref 36), (1, .int x), (2, .int l), (3, .int n)]) (st' := [.int x, .ref (zel 37 (hL sg n))]) (h' := zN sg) (Ps := [zInR (zN sg) 37 (hL sg n)]) rfl (zA (zinR_37 (i := hL sg n) (by lia) (by lia)) trivial) ?_
  refine zG_callv (a := zel 37 (hL sg n)) (c := 5) (As := [.int x]) (rest := []) (N2 := 411) bdHis_placeThrough_11 okShe_hasPlace lk2_55 (And.intro (by decide) (by decide)) (by decide) rfl rfl rfl (Nat.le_of_ble_eq_true rfl) (Nat.le_of_ble_eq_true rfl) (Nat.le_refl 411) (Nat.le_refl 411) (zel_ob37 (i := (hL sg n)) (by lia) (by lia)) (cShe_hasPlace (zel_ob37 (i := (hL sg n)) (by lia) (by lia))) ?_
  rintro rr h' ⟨rfl, rfl⟩ -
  refine zb_ifne (tgt := 19) bkHis_placeThrough_14 bdHis_placeThrough_14 (by decide) (lv' := [(0, .ref 36), (1, .int x), (2, .int l), (3, .int n)]) (st' := []) (h' := zN sg) (x := if 0 ≤ x ∧ x ≤ sg (zel 37 (hL sg n)) 2 then 1 else 0) (Ps := []) rfl trivial (fun c1 => ?_) (fun c1 => ?_)
  · skip
    have hp : 0 ≤ x ∧ x ≤ sg (zel 37 (hL sg n)) 2 := by grind
    refine zG_run bkHis_placeThrough_19 (lv' := [(5, .int n), (4, .int x), (0, .ref 36), (1, .int x), (2, .int l), (3, .int n)]) (st' := []) (h' := zN sg) (Ps := []) rfl trivial ?_
    refine zG_pick (lv' := [(0, .ref 36), (1, .int x), (2, .int l), (3, .int n), (4, .int x), (5, .int n)]) [2, 3, 4, 5, 1, 0] rfl ?_
    refine zlp2 (fun (y : Int32) (k : Int32) => zG mHis_placeThrough 411 Q 25 [(0, .ref 36), (1, .int x), (2, .int l), (3, .int n), (4, .int y), (5, .int k)] [] (zN sg)) (fun (y : Int32) (k : Int32) => (0 ≤ k) ∧ (k ≤ n) ∧ ((y, (0 : Int32)) = zit (th1 sg l n) (x, 0) (n - k))) (fun (y : Int32) (k : Int32) => zmu k 0) ?_ x n ?_
    · intro y k hI ih
      obtain ⟨k0, k1, kz⟩ := hI
      have ek : n - (n - k) = k := by clear hq ih kz k0 k1; grind
      refine zb_iclt (tgt := 72) bkHis_placeThrough_25 bdHis_placeThrough_28 (by decide) (lv' := [(0, .ref 36), (1, .int x), (2, .int l), (3, .int n), (4, .int y), (5, .int k)]) (st' := []) (h' := zN sg) (x := k) (y := 1) (Ps := []) rfl trivial (fun c2 => ?_) (fun c2 => ?_)
      · skip
        refine zb_iret bkHis_placeThrough_72 bdHis_placeThrough_74 rfl (x := y) (h' := zN sg) (Ps := []) rfl trivial rfl ?_
        refine hq _ _ ?_
        refine ⟨?_, rfl⟩
        unfold qTh; rw [if_pos hp]
        have ek0 : n - k = n := by lia
        rw [ek0] at kz
        rw [← kz]; rfl
      · skip
        have hk := hL_rng h0 h1 (n := k) (by lia) (by lia) (by lia)
        refine zG_run bkHis_placeThrough_31 (lv' := [(0, .ref 36), (1, .int x), (2, .int l), (3, .int n), (4, .int y), (5, .int k)]) (st' := [.int k, .ref 36, .ref 38]) (h' := zN sg) (Ps := [zOb (zN sg) 36 2 ∧ (zN sg).2.2 36 1 = true]) rfl (zA ⟨zob_36, rfl⟩ trivial) ?_
        refine zG_callv (a := 36) (c := 2) (As := [.int k]) (rest := [.ref 38]) (N2 := 411) bdHis_placeThrough_38 okHis_latest lk2_45 (And.intro (by decide) (by decide)) (by decide) rfl rfl rfl (Nat.le_of_ble_eq_true rfl) (Nat.le_of_ble_eq_true rfl) (Nat.le_refl 411) (Nat.le_refl 411) zob_36 (cHis_latest (by lia) (by lia) (by lia) (by lia)) ?_
        rintro rr h' ⟨rfl, rfl⟩ -
        refine zb_icne (tgt := 56) bkHis_placeThrough_41 bdHis_placeThrough_51 (by decide) (lv' := [(6, .ref (zel 38 (hL sg k))), (0, .ref 36), (1, .int x), (2, .int l), (3, .int n), (4, .int y), (5, .int k)]) (st' := []) (h' := zN sg) (x := sg (zel 38 (hL sg k)) 0) (y := 11) (Ps := [zInR (zN sg) 38 (hL sg k), zOb (zN sg) (zel 38 (hL sg k)) 0]) rfl (zA (zinR_38 (i := hL sg k) (by lia) (by lia)) (zA (zel_ob38 (i := (hL sg k)) (by lia) (by lia)) trivial)) (fun c3 => ?_) (fun c3 => ?_)
        · skip
          refine zG_run bkHis_placeThrough_56 (lv' := [(6, .ref (zel 38 (hL sg k))), (0, .ref 36), (1, .int x), (2, .int l), (3, .int n), (4, .int y), (5, .int k)]) (st' := [.int l, .int y, .ref (zel 38 (hL sg k))]) (h' := zN sg) (Ps := []) rfl trivial ?_
          refine zG_callv (a := zel 38 (hL sg k)) (c := 0) (As := [.int y, .int l]) (rest := []) (N2 := 411) bdHis_placeThrough_61 okAct_follows lk2_59 (And.intro (by decide) (by decide)) (by decide) rfl rfl rfl (Nat.le_of_ble_eq_true rfl) (Nat.le_of_ble_eq_true rfl) (Nat.le_refl 411) (Nat.le_refl 411) (zel_ob38 (i := (hL sg k)) (by lia) (by lia)) (cAct_follows (zel_ob38 (i := (hL sg k)) (by lia) (by lia))) ?_
          rintro rr h' ⟨rfl, rfl⟩ -
          refine zG_run bkHis_placeThrough_64 (lv' := [(5, .int (k + (-1))), (4, .int (fAct sg (zel 38 (hL sg k)) y l)), (6, .ref (zel 38 (hL sg k))), (0, .ref 36), (1, .int x), (2, .int l), (3, .int n)]) (st' := []) (h' := zN sg) (Ps := []) rfl trivial ?_
          refine zG_pick (lv' := [(0, .ref 36), (1, .int x), (2, .int l), (3, .int n), (4, .int (fAct sg (zel 38 (hL sg k)) y l)), (5, .int (k + (-1)))]) [3, 4, 5, 6, 1, 0] rfl ?_
          refine ih (fAct sg (zel 38 (hL sg k)) y l) (k + (-1)) ?_ ?_
          · refine ⟨?_, ?_, ?_⟩
            · lia
            · lia
            · rw [show n - (k + -1) = n - k + 1 by grind, zit_s _ _ (by lia : 0 ≤ n - k) (by lia : n - k < n), ← kz]; unfold th1; rw [ek, if_neg (by rintro (q | q); exact absurd (show (0 : Int32) = 1 from q) (by decide); exact absurd q (by assumption))]
          · rw [show k + -1 = k - 1 by grind]; exact zmu_down (by lia)
        · skip
          refine zb_iret bkHis_placeThrough_54 bdHis_placeThrough_55 rfl (x := (-1)) (h' := zN sg) (Ps := []) rfl trivial rfl ?_
          refine hq _ _ ?_
          refine ⟨?_, rfl⟩
          unfold qTh; rw [if_pos hp]
          have e1 : (zit (th1 sg l n) (x, 0) (n - k + 1)).2 = 1 := by rw [zit_s _ _ (by lia : 0 ≤ n - k) (by lia : n - k < n), ← kz]; unfold th1; rw [ek, if_pos (Or.inr (by assumption))]
          rw [if_pos (zit_stable (P := fun x : Int32 × Int32 => x.2 = 1) (i := n - k + 1) (by lia) (by lia) (fun j x _ _ h => th1_st h) e1)]
    · refine ⟨?_, ?_, ?_⟩
      · lia
      · lia
      · rw [show n - n = 0 by grind]; rfl
  · skip
    refine zb_iret bkHis_placeThrough_17 bdHis_placeThrough_18 rfl (x := (-1)) (h' := zN sg) (Ps := []) rfl trivial rfl ?_
    refine hq _ _ ?_
    refine ⟨?_, rfl⟩
    unfold qTh; rw [if_neg (by lia)]
theorem cHis_placeThrough {sg : zSig} {x l n : Int32} (h0 : 0 ≤ sg 36 2) (h1 : sg 36 2 < 8) (m0 : 1 ≤ n) (m1 : n ≤ 8) : zG mHis_placeThrough 411 (fun rr h' => rr = some (.int (qTh sg x l n)) ∧ h' = zN sg) 0 [(0, .ref 36), (1, .int x), (2, .int l), (3, .int n)] [] (zN sg) := lHis_placeThrough h0 h1 m0 m1 (fun _ _ q => q)
theorem bkSR_through_0 : zBk mSR_through 0 [(1, 3, 0, 0, 0), (0, 0, 0, 0, 1)] = some 2 := by decide +kernel
theorem bkSR_through_20 : zBk mSR_through 20 [(0, 0, 0, 0, 0), (2, 4, 0, 0, 0), (1, 4, 0, 0, 0)] = some 25 := by decide +kernel
theorem bkSR_through_49 : zBk mSR_through 49 [(0, 0, 0, 0, -1)] = some 50 := by decide +kernel
theorem bkSR_through_5 : zBk mSR_through 5 [(1, 3, 0, 0, 0), (1, 0, 1, 0, 0), (5, 9, 2, 36, 2), (5, 2, 3, 0, 3)] = some 13 := by decide +kernel
theorem bkSR_through_16 : zBk mSR_through 16 [(0, 0, 0, 0, 1), (22, 21, 0, 0, 0), (2, 4, 0, 0, 0), (1, 4, 0, 0, 0)] = some 25 := by decide +kernel
theorem bkSR_through_28 : zBk mSR_through 28 [(1, 2, 0, 0, 0), (0, 0, 0, 0, 1)] = some 30 := by decide +kernel
theorem bkSR_through_33 : zBk mSR_through 33 [] = some 33 := by decide +kernel
theorem bkSR_through_36 : zBk mSR_through 36 [(1, 0, 1, 0, 0), (5, 9, 2, 36, 2), (1, 1, 0, 0, 0), (1, 2, 0, 0, 0), (1, 3, 0, 0, 0)] = some 43 := by decide +kernel
theorem bkSR_through_46 : zBk mSR_through 46 [(22, 50, 0, 0, 0)] = some 50 := by decide +kernel
theorem bdSR_through_2 : decode mSR_through.2.2.1 2 = .ok (.if_icmp .lt 18, 3) := by decide +kernel
theorem bdSR_through_13 : decode mSR_through.2.2.1 13 = .ok (.if_icmp .gt 7, 3) := by decide +kernel
theorem bdSR_through_25 : decode mSR_through.2.2.1 25 = .ok (.ifCond .eq 24, 3) := by decide +kernel
theorem bdSR_through_30 : decode mSR_through.2.2.1 30 = .ok (.invokestatic 126, 3) := by decide +kernel
theorem bdSR_through_33 : decode mSR_through.2.2.1 33 = .ok (.ifCond .eq 16, 3) := by decide +kernel
theorem bdSR_through_43 : decode mSR_through.2.2.1 43 = .ok (.invokevirtual 301, 3) := by decide +kernel
theorem bdSR_through_50 : decode mSR_through.2.2.1 50 = .ok (.ireturn, 1) := by decide +kernel
theorem cSR_through {sg : zSig} {x l n : Int32} (ob : okS sg 1) (h0 : 0 ≤ sg 36 2) (h1 : sg 36 2 < 8) (u0 : 0 ≤ sg 36 3) (u1 : sg 36 3 ≤ 8) : zG mSR_through 411 (fun rr h' => rr = some (.int (if (1 ≤ n ∧ n ≤ sg 36 3) ∧ 0 ≤ l ∧ l ≤ 1 then qTh sg x l n else -1)) ∧ h' = zN sg) 0 [(0, .ref 0), (1, .int x), (2, .int l), (3, .int n)] [] (zN sg) := by
  obtain ⟨⟨n0, n1⟩, ⟨g0, g1⟩, ⟨a0, a1⟩, -⟩ := id ob
  refine zb_iclt (tgt := 20) bkSR_through_0 bdSR_through_2 (by decide) (lv' := [(0, .ref 0), (1, .int x), (2, .int l), (3, .int n)]) (st' := []) (h' := zN sg) (x := n) (y := 1) (Ps := []) rfl trivial (fun c1 => ?_) (fun c1 => ?_)
  · skip
    refine zb_ifeq (tgt := 49) bkSR_through_20 bdSR_through_25 (by decide) (lv' := [(4, .int 0), (0, .ref 0), (1, .int x), (2, .int l), (3, .int n)]) (st' := []) (h' := zN sg) (x := 0) (Ps := []) rfl trivial (fun c2 => ?_) (fun c2 => ?_)
    · skip
      refine zb_iret bkSR_through_49 bdSR_through_50 rfl (x := (-1)) (h' := zN sg) (Ps := []) rfl trivial rfl ?_
      exact ⟨by rw [if_neg (by grind)], rfl⟩
    · exact absurd c2 (by decide)
  · skip
    refine zb_icgt (tgt := 20) bkSR_through_5 bdSR_through_13 (by decide) (lv' := [(0, .ref 0), (1, .int x), (2, .int l), (3, .int n)]) (st' := []) (h' := zN sg) (x := n) (y := sg 36 3) (Ps := [zOb (zN sg) 0 9 ∧ (zN sg).2.2 0 2 = true, zOb (zN sg) 36 2]) rfl (zA ⟨zob_0, rfl⟩ (zA zob_36 trivial)) (fun c3 => ?_) (fun c3 => ?_)
    · skip
      refine zb_ifeq (tgt := 49) bkSR_through_20 bdSR_through_25 (by decide) (lv' := [(4, .int 0), (0, .ref 0), (1, .int x), (2, .int l), (3, .int n)]) (st' := []) (h' := zN sg) (x := 0) (Ps := []) rfl trivial (fun c4 => ?_) (fun c4 => ?_)
      · skip
        refine zb_iret bkSR_through_49 bdSR_through_50 rfl (x := (-1)) (h' := zN sg) (Ps := []) rfl trivial rfl ?_
        exact ⟨by rw [if_neg (by grind)], rfl⟩
      · exact absurd c4 (by decide)
    · skip
      refine zb_ifeq (tgt := 49) bkSR_through_16 bdSR_through_25 (by decide) (lv' := [(4, .int 1), (0, .ref 0), (1, .int x), (2, .int l), (3, .int n)]) (st' := []) (h' := zN sg) (x := 1) (Ps := []) rfl trivial (fun c5 => ?_) (fun c5 => ?_)
      · exact absurd c5 (by decide)
      · skip
        refine zG_run bkSR_through_28 (lv' := [(4, .int 1), (0, .ref 0), (1, .int x), (2, .int l), (3, .int n)]) (st' := [.int 1, .int l]) (h' := zN sg) (Ps := []) rfl trivial ?_
        refine zG_calls (As := [.int l, .int 1]) (rest := []) (N2 := 411) bdSR_through_30 okSR_isWithin lk9_126 (And.intro (by decide) (by decide)) rfl rfl (Nat.le_of_ble_eq_true rfl) (Nat.le_of_ble_eq_true rfl) (Nat.le_refl 411) (Nat.le_refl 411) cSR_isWithin ?_
        rintro rr h' ⟨rfl, rfl⟩ -
        refine zb_ifeq (tgt := 49) bkSR_through_33 bdSR_through_33 (by decide) (lv' := [(4, .int 1), (0, .ref 0), (1, .int x), (2, .int l), (3, .int n)]) (st' := []) (h' := zN sg) (x := if 0 ≤ l ∧ l ≤ 1 then 1 else 0) (Ps := []) rfl trivial (fun c6 => ?_) (fun c6 => ?_)
        · skip
          refine zb_iret bkSR_through_49 bdSR_through_50 rfl (x := (-1)) (h' := zN sg) (Ps := []) rfl trivial rfl ?_
          exact ⟨by rw [if_neg (by grind)], rfl⟩
        · skip
          refine zG_run bkSR_through_36 (lv' := [(4, .int 1), (0, .ref 0), (1, .int x), (2, .int l), (3, .int n)]) (st' := [.int n, .int l, .int x, .ref 36]) (h' := zN sg) (Ps := [zOb (zN sg) 0 9 ∧ (zN sg).2.2 0 2 = true]) rfl (zA ⟨zob_0, rfl⟩ trivial) ?_
          refine zG_callv (a := 36) (c := 2) (As := [.int x, .int l, .int n]) (rest := []) (N2 := 411) bdSR_through_43 okHis_placeThrough lk9_301 (And.intro (by decide) (by decide)) (by decide) rfl rfl rfl (Nat.le_of_ble_eq_true rfl) (Nat.le_of_ble_eq_true rfl) (Nat.le_refl 411) (Nat.le_refl 411) zob_36 (cHis_placeThrough h0 h1 (by lia) (by lia)) ?_
          rintro rr h' ⟨rfl, rfl⟩ -
          refine zb_iret bkSR_through_46 bdSR_through_50 rfl (x := qTh sg x l n) (h' := zN sg) (Ps := []) rfl trivial rfl ?_
          exact ⟨by rw [if_pos (by grind)], rfl⟩
def qLr (S : Int32 → Int32) (n v : Int32) : Prop := (∃ i, 0 ≤ i ∧ i < n ∧ v = zit (rN S) (-1) (i + 1) ∧ (zit (rL S) (0, 0) (i + 1)).2 = (zit (rL S) (0, 0) n).1 ∧ ∀ j, 0 ≤ j → j < i → (zit (rL S) (0, 0) (j + 1)).2 ≠ (zit (rL S) (0, 0) n).1) ∨ (v = -1 ∧ ∀ j, 0 ≤ j → j < n → (zit (rL S) (0, 0) (j + 1)).2 ≠ (zit (rL S) (0, 0) n).1)
def qCt (sg : zSig) (w v : Int32) : Prop := (w = 0 → v = sg 1 2) ∧ (w = 1 → v = zit (rN (nS sg)) 0 (sg 1 2)) ∧ (w = 2 → v = zit (nSp sg) 0 (sg 1 4)) ∧ (w = 3 → v = zit (nAn sg) 0 (sg 1 6)) ∧ (w = 4 → v = sg 1 4) ∧ (w = 5 → v = sg 1 6) ∧ (w = 6 → v = (zit (rL (nS sg)) (0, 0) (sg 1 2)).1) ∧ (w = 7 → ∃ T : Int32 → Int32, (∀ j, 0 ≤ j → j < sg 1 2 → T j = nS sg j) ∧ qLr T (sg 1 2) v) ∧ (w = 8 → v = zit (uN (nS sg)) 0 (sg 1 2)) ∧ (w = 9 → v = zit (nMo sg) 0 (sg 1 2)) ∧ (w = 10 → v = zit (nLo sg) 0 (sg 1 6)) ∧ (w = 11 → ∃ sg0, hLk sg sg0 ∧ v = wAll sg0 322 1) ∧ (w = 12 → v = sg 36 3) ∧ (w = 13 → v = sg 34 1) ∧ (w = 14 → v = sg 326 1) ∧ (w = 15 → v = sg 326 2) ∧ (w = 16 → v = sg 326 4) ∧ (w = 17 → v = sg 326 5) ∧ (w = 18 → v = sg 326 6) ∧ (¬ (0 ≤ w ∧ w ≤ 18) → v = -1)
theorem bkSR_count_0 : zBk mSR_count 0 [(1, 1, 0, 0, 0)] = some 1 := by decide +kernel
theorem bkSR_count_92 : zBk mSR_count 92 [(1, 0, 1, 0, 0), (5, 9, 0, 1, 0), (5, 5, 2, 0, 2)] = some 99 := by decide +kernel
theorem bkSR_count_100 : zBk mSR_count 100 [(1, 0, 1, 0, 0)] = some 101 := by decide +kernel
theorem bkSR_count_104 : zBk mSR_count 104 [] = some 104 := by decide +kernel
theorem bkSR_count_107 : zBk mSR_count 107 [] = some 107 := by decide +kernel
theorem bkSR_count_108 : zBk mSR_count 108 [(1, 0, 1, 0, 0), (5, 9, 0, 1, 0)] = some 112 := by decide +kernel
theorem bkSR_count_115 : zBk mSR_count 115 [] = some 115 := by decide +kernel
theorem bkSR_count_116 : zBk mSR_count 116 [(1, 0, 1, 0, 0), (5, 9, 0, 1, 0)] = some 120 := by decide +kernel
theorem bkSR_count_123 : zBk mSR_count 123 [] = some 123 := by decide +kernel
theorem bkSR_count_124 : zBk mSR_count 124 [(1, 0, 1, 0, 0), (5, 9, 0, 1, 0), (5, 5, 4, 0, 4)] = some 131 := by decide +kernel
theorem bkSR_count_132 : zBk mSR_count 132 [(1, 0, 1, 0, 0), (5, 9, 0, 1, 0), (5, 5, 6, 0, 6)] = some 139 := by decide +kernel
theorem bkSR_count_140 : zBk mSR_count 140 [(1, 0, 1, 0, 0)] = some 141 := by decide +kernel
theorem bkSR_count_144 : zBk mSR_count 144 [] = some 144 := by decide +kernel
theorem bkSR_count_147 : zBk mSR_count 147 [] = some 147 := by decide +kernel
theorem bkSR_count_148 : zBk mSR_count 148 [(1, 0, 1, 0, 0)] = some 149 := by decide +kernel
theorem bkSR_count_152 : zBk mSR_count 152 [] = some 152 := by decide +kernel
theorem bkSR_count_155 : zBk mSR_count 155 [] = some 155 := by decide +kernel
theorem bkSR_count_156 : zBk mSR_count 156 [(1, 0, 1, 0, 0)] = some 157 := by decide +kernel
theorem bkSR_count_160 : zBk mSR_count 160 [] = some 160 := by decide +kernel
theorem bkSR_count_163 : zBk mSR_count 163 [] = some 163 := by decide +kernel
theorem bkSR_count_164 : zBk mSR_count 164 [(1, 0, 1, 0, 0), (5, 9, 0, 1, 0)] = some 168 := by decide +kernel
theorem bkSR_count_171 : zBk mSR_count 171 [] = some 171 := by decide +kernel
theorem bkSR_count_172 : zBk mSR_count 172 [(1, 0, 1, 0, 0), (5, 9, 0, 1, 0)] = some 176 := by decide +kernel
theorem bkSR_count_179 : zBk mSR_count 179 [] = some 179 := by decide +kernel
theorem bkSR_count_180 : zBk mSR_count 180 [(1, 0, 1, 0, 0), (5, 9, 8, 322, 8), (1, 0, 1, 0, 0), (5, 9, 0, 1, 0), (1, 0, 1, 0, 0)] = some 189 := by decide +kernel
theorem bkSR_count_192 : zBk mSR_count 192 [] = some 192 := by decide +kernel
theorem bkSR_count_195 : zBk mSR_count 195 [] = some 195 := by decide +kernel
theorem bkSR_count_196 : zBk mSR_count 196 [(1, 0, 1, 0, 0), (5, 9, 2, 36, 2), (5, 2, 3, 0, 3)] = some 203 := by decide +kernel
theorem bkSR_count_204 : zBk mSR_count 204 [(1, 0, 1, 0, 0), (5, 9, 1, 34, 1), (5, 7, 1, 0, 1)] = some 211 := by decide +kernel
theorem bkSR_count_212 : zBk mSR_count 212 [(1, 0, 1, 0, 0), (5, 9, 9, 326, 9), (0, 0, 0, 0, 1), (7, 0, 0, 0, 0)] = some 218 := by decide +kernel
theorem bkSR_count_219 : zBk mSR_count 219 [(1, 0, 1, 0, 0), (5, 9, 9, 326, 9), (0, 0, 0, 0, 2), (7, 0, 0, 0, 0)] = some 225 := by decide +kernel
theorem bkSR_count_226 : zBk mSR_count 226 [(1, 0, 1, 0, 0), (5, 9, 9, 326, 9), (0, 0, 0, 0, 4), (7, 0, 0, 0, 0)] = some 232 := by decide +kernel
theorem bkSR_count_233 : zBk mSR_count 233 [(1, 0, 1, 0, 0), (5, 9, 9, 326, 9), (0, 0, 0, 0, 5), (7, 0, 0, 0, 0)] = some 239 := by decide +kernel
theorem bkSR_count_240 : zBk mSR_count 240 [(1, 0, 1, 0, 0), (5, 9, 9, 326, 9), (0, 0, 0, 0, 6), (7, 0, 0, 0, 0)] = some 247 := by decide +kernel
theorem bkSR_count_248 : zBk mSR_count 248 [(0, 0, 0, 0, -1)] = some 249 := by decide +kernel
theorem bdSR_count_1 : decode mSR_count.2.2.1 1 = .ok (.tableswitch 247 0 18 #[91, 99, 107, 115, 123, 131, 139, 147, 155, 163, 171, 179, 195, 203, 211, 218, 225, 232, 239], 91) := by decide +kernel
theorem bdSR_count_99 : decode mSR_count.2.2.1 99 = .ok (.ireturn, 1) := by decide +kernel
theorem bdSR_count_101 : decode mSR_count.2.2.1 101 = .ok (.invokevirtual 184, 3) := by decide +kernel
theorem bdSR_count_104 : decode mSR_count.2.2.1 104 = .ok (.invokevirtual 312, 3) := by decide +kernel
theorem bdSR_count_107 : decode mSR_count.2.2.1 107 = .ok (.ireturn, 1) := by decide +kernel
theorem bdSR_count_112 : decode mSR_count.2.2.1 112 = .ok (.invokevirtual 172, 3) := by decide +kernel
theorem bdSR_count_115 : decode mSR_count.2.2.1 115 = .ok (.ireturn, 1) := by decide +kernel
theorem bdSR_count_120 : decode mSR_count.2.2.1 120 = .ok (.invokevirtual 315, 3) := by decide +kernel
theorem bdSR_count_123 : decode mSR_count.2.2.1 123 = .ok (.ireturn, 1) := by decide +kernel
theorem bdSR_count_131 : decode mSR_count.2.2.1 131 = .ok (.ireturn, 1) := by decide +kernel
theorem bdSR_count_139 : decode mSR_count.2.2.1 139 = .ok (.ireturn, 1) := by decide +kernel
theorem bdSR_count_141 : decode mSR_count.2.2.1 141 = .ok (.invokevirtual 184, 3) := by decide +kernel
theorem bdSR_count_144 : decode mSR_count.2.2.1 144 = .ok (.invokevirtual 318, 3) := by decide +kernel
theorem bdSR_count_147 : decode mSR_count.2.2.1 147 = .ok (.ireturn, 1) := by decide +kernel
theorem bdSR_count_149 : decode mSR_count.2.2.1 149 = .ok (.invokevirtual 184, 3) := by decide +kernel
theorem bdSR_count_152 : decode mSR_count.2.2.1 152 = .ok (.invokevirtual 321, 3) := by decide +kernel
theorem bdSR_count_155 : decode mSR_count.2.2.1 155 = .ok (.ireturn, 1) := by decide +kernel
theorem bdSR_count_157 : decode mSR_count.2.2.1 157 = .ok (.invokevirtual 184, 3) := by decide +kernel
theorem bdSR_count_160 : decode mSR_count.2.2.1 160 = .ok (.invokevirtual 324, 3) := by decide +kernel
theorem bdSR_count_163 : decode mSR_count.2.2.1 163 = .ok (.ireturn, 1) := by decide +kernel
theorem bdSR_count_168 : decode mSR_count.2.2.1 168 = .ok (.invokevirtual 327, 3) := by decide +kernel
theorem bdSR_count_171 : decode mSR_count.2.2.1 171 = .ok (.ireturn, 1) := by decide +kernel
theorem bdSR_count_176 : decode mSR_count.2.2.1 176 = .ok (.invokevirtual 330, 3) := by decide +kernel
theorem bdSR_count_179 : decode mSR_count.2.2.1 179 = .ok (.ireturn, 1) := by decide +kernel
theorem bdSR_count_189 : decode mSR_count.2.2.1 189 = .ok (.invokevirtual 184, 3) := by decide +kernel
theorem bdSR_count_192 : decode mSR_count.2.2.1 192 = .ok (.invokevirtual 224, 3) := by decide +kernel
theorem bdSR_count_195 : decode mSR_count.2.2.1 195 = .ok (.ireturn, 1) := by decide +kernel
theorem bdSR_count_203 : decode mSR_count.2.2.1 203 = .ok (.ireturn, 1) := by decide +kernel
theorem bdSR_count_211 : decode mSR_count.2.2.1 211 = .ok (.ireturn, 1) := by decide +kernel
theorem bdSR_count_218 : decode mSR_count.2.2.1 218 = .ok (.ireturn, 1) := by decide +kernel
theorem bdSR_count_225 : decode mSR_count.2.2.1 225 = .ok (.ireturn, 1) := by decide +kernel
theorem bdSR_count_232 : decode mSR_count.2.2.1 232 = .ok (.ireturn, 1) := by decide +kernel
theorem bdSR_count_239 : decode mSR_count.2.2.1 239 = .ok (.ireturn, 1) := by decide +kernel
theorem bdSR_count_247 : decode mSR_count.2.2.1 247 = .ok (.ireturn, 1) := by decide +kernel
theorem bdSR_count_249 : decode mSR_count.2.2.1 249 = .ok (.ireturn, 1) := by decide +kernel
set_option maxHeartbeats 4000000 in
theorem cSR_count {sg : zSig} {w : Int32} (ob : okS sg 1) (h0 : 0 ≤ sg 36 2) (h1 : sg 36 2 < 8) (u0 : 0 ≤ sg 36 3) (u1 : sg 36 3 ≤ 8) (hf : okF sg) : zG mSR_count 411 (fun rr h' => ∃ v sg', rr = some (.int v) ∧ h' = zN sg' ∧ hQ sg sg' ∧ qCt sg w v) 0 [(0, .ref 0), (1, .int w)] [] (zN sg) := by
  obtain ⟨⟨n0, n1⟩, ⟨g0, g1⟩, ⟨a0, a1⟩, -⟩ := id ob
  refine zG_run bkSR_count_0 (lv' := [(0, .ref 0), (1, .int w)]) (st' := [.int w]) (h' := zN sg) (Ps := []) rfl trivial ?_
  by_cases w1 : w = 0
  · refine zs_tableIn (off := 91) (tgt := 92) bdSR_count_1 (by rw [w1]; decide) (by rw [w1]; decide) (by rw [w1]; decide) (by decide) ?_
    refine zb_iret bkSR_count_92 bdSR_count_99 rfl (x := sg 1 2) (h' := zN sg) (Ps := [zOb (zN sg) 0 9 ∧ (zN sg).2.2 0 0 = true, zOb (zN sg) 1 5]) rfl (zA ⟨zob_0, rfl⟩ (zA zob_1 trivial)) rfl ?_
    refine ⟨_, _, rfl, rfl, hQ_refl hf, ?_⟩
    refine ⟨?_, ?_, ?_, ?_, ?_, ?_, ?_, ?_, ?_, ?_, ?_, ?_, ?_, ?_, ?_, ?_, ?_, ?_, ?_, ?_⟩ <;> first | (intro hw; exfalso; lia; done) | (intro _; rfl) | (intro _; rw [l3]; exact rN_congr ts n0 (Int32.le_refl _)) | (intro _; rw [l3, rL_congr ts n0 (Int32.le_refl _)]) | (intro _; rw [l3]; exact uN_congr ts n0 (Int32.le_refl _)) | (intro _; rw [l3] at hx; exact ⟨_, ts, hx⟩) | (intro _; exact ⟨_, hl, by rw [v5, z5]⟩)
  by_cases w2 : w = 1
  · refine zs_tableIn (off := 99) (tgt := 100) bdSR_count_1 (by rw [w2]; decide) (by rw [w2]; decide) (by rw [w2]; decide) (by decide) ?_
    refine zG_run bkSR_count_100 (lv' := [(0, .ref 0), (1, .int w)]) (st' := [.ref 0]) (h' := zN sg) (Ps := []) rfl trivial ?_
    refine zG_callv (a := 0) (c := 9) (As := []) (rest := []) (N2 := 411) bdSR_count_101 okSR_looksNow lk9_184 (And.intro (by decide) (by decide)) (by decide) rfl rfl rfl (Nat.le_of_ble_eq_true rfl) (Nat.le_of_ble_eq_true rfl) (Nat.le_refl 411) (Nat.le_refl 411) zob_0 (cSR_looksNow ob hf) ?_
    rintro rr h' ⟨sg0, rfl, rfl, hl⟩ -
    have hq0 : hQ sg sg0 := hLk_Q ob hl
    have fl := hQ_s hq0
    have y2 : sg0 1 2 = sg 1 2 := fl 1 2 (by decide) (by decide)
    have y4 : sg0 1 4 = sg 1 4 := fl 1 4 (by decide) (by decide)
    have y6 : sg0 1 6 = sg 1 6 := fl 1 6 (by decide) (by decide)
    have yt : sg0 34 1 = sg 34 1 := fl 34 1 (by decide) (by decide)
    have l3 : sg0 313 1 = sg 1 2 := hl.2.2.1
    have ts : ∀ j, 0 ≤ j → j < sg 1 2 → sg0 314 j = nS sg j := hl.2.2.2
    refine zG_run bkSR_count_104 (lv' := [(0, .ref 0), (1, .int w)]) (st' := [.ref 313]) (h' := zN sg0) (Ps := []) rfl trivial ?_
    refine zG_callv (a := 313) (c := 3) (As := []) (rest := []) (N2 := 411) bdSR_count_104 okLoo_howManyRuns lk9_312 (And.intro (by decide) (by decide)) (by decide) rfl rfl rfl (Nat.le_of_ble_eq_true rfl) (Nat.le_of_ble_eq_true rfl) (Nat.le_refl 411) (Nat.le_refl 411) zob_313 (cLoo_howManyRuns_313 (by lia) (by lia)) ?_
    rintro rr h' ⟨rfl, rfl⟩ -
    refine zb_iret bkSR_count_107 bdSR_count_107 rfl (x := zit (rN (sg0 314)) 0 (sg0 313 1)) (h' := zN sg0) (Ps := []) rfl trivial rfl ?_
    refine ⟨_, _, rfl, rfl, hq0, ?_⟩
    refine ⟨?_, ?_, ?_, ?_, ?_, ?_, ?_, ?_, ?_, ?_, ?_, ?_, ?_, ?_, ?_, ?_, ?_, ?_, ?_, ?_⟩ <;> first | (intro hw; exfalso; lia; done) | (intro _; rfl) | (intro _; rw [l3]; exact rN_congr ts n0 (Int32.le_refl _)) | (intro _; rw [l3, rL_congr ts n0 (Int32.le_refl _)]) | (intro _; rw [l3]; exact uN_congr ts n0 (Int32.le_refl _)) | (intro _; rw [l3] at hx; exact ⟨_, ts, hx⟩) | (intro _; exact ⟨_, hl, by rw [v5, z5]⟩)
  by_cases w3 : w = 2
  · refine zs_tableIn (off := 107) (tgt := 108) bdSR_count_1 (by rw [w3]; decide) (by rw [w3]; decide) (by rw [w3]; decide) (by decide) ?_
    refine zG_run bkSR_count_108 (lv' := [(0, .ref 0), (1, .int w)]) (st' := [.ref 1]) (h' := zN sg) (Ps := [zOb (zN sg) 0 9 ∧ (zN sg).2.2 0 0 = true]) rfl (zA ⟨zob_0, rfl⟩ trivial) ?_
    refine zG_callv (a := 1) (c := 5) (As := []) (rest := []) (N2 := 411) bdSR_count_112 okShe_standingSpans lk9_172 (And.intro (by decide) (by decide)) (by decide) rfl rfl rfl (Nat.le_of_ble_eq_true rfl) (Nat.le_of_ble_eq_true rfl) (Nat.le_refl 411) (Nat.le_refl 411) zob_1 (cShe_standingSpans (by lia) (by lia)) ?_
    rintro rr h' ⟨rfl, rfl⟩ -
    refine zb_iret bkSR_count_115 bdSR_count_115 rfl (x := zit (nSp sg) 0 (sg 1 4)) (h' := zN sg) (Ps := []) rfl trivial rfl ?_
    refine ⟨_, _, rfl, rfl, hQ_refl hf, ?_⟩
    refine ⟨?_, ?_, ?_, ?_, ?_, ?_, ?_, ?_, ?_, ?_, ?_, ?_, ?_, ?_, ?_, ?_, ?_, ?_, ?_, ?_⟩ <;> first | (intro hw; exfalso; lia; done) | (intro _; rfl) | (intro _; rw [l3]; exact rN_congr ts n0 (Int32.le_refl _)) | (intro _; rw [l3, rL_congr ts n0 (Int32.le_refl _)]) | (intro _; rw [l3]; exact uN_congr ts n0 (Int32.le_refl _)) | (intro _; rw [l3] at hx; exact ⟨_, ts, hx⟩) | (intro _; exact ⟨_, hl, by rw [v5, z5]⟩)
  by_cases w4 : w = 3
  · refine zs_tableIn (off := 115) (tgt := 116) bdSR_count_1 (by rw [w4]; decide) (by rw [w4]; decide) (by rw [w4]; decide) (by decide) ?_
    refine zG_run bkSR_count_116 (lv' := [(0, .ref 0), (1, .int w)]) (st' := [.ref 1]) (h' := zN sg) (Ps := [zOb (zN sg) 0 9 ∧ (zN sg).2.2 0 0 = true]) rfl (zA ⟨zob_0, rfl⟩ trivial) ?_
    refine zG_callv (a := 1) (c := 5) (As := []) (rest := []) (N2 := 411) bdSR_count_120 okShe_standingAnchors lk9_315 (And.intro (by decide) (by decide)) (by decide) rfl rfl rfl (Nat.le_of_ble_eq_true rfl) (Nat.le_of_ble_eq_true rfl) (Nat.le_refl 411) (Nat.le_refl 411) zob_1 (cShe_standingAnchors (by lia) (by lia)) ?_
    rintro rr h' ⟨rfl, rfl⟩ -
    refine zb_iret bkSR_count_123 bdSR_count_123 rfl (x := zit (nAn sg) 0 (sg 1 6)) (h' := zN sg) (Ps := []) rfl trivial rfl ?_
    refine ⟨_, _, rfl, rfl, hQ_refl hf, ?_⟩
    refine ⟨?_, ?_, ?_, ?_, ?_, ?_, ?_, ?_, ?_, ?_, ?_, ?_, ?_, ?_, ?_, ?_, ?_, ?_, ?_, ?_⟩ <;> first | (intro hw; exfalso; lia; done) | (intro _; rfl) | (intro _; rw [l3]; exact rN_congr ts n0 (Int32.le_refl _)) | (intro _; rw [l3, rL_congr ts n0 (Int32.le_refl _)]) | (intro _; rw [l3]; exact uN_congr ts n0 (Int32.le_refl _)) | (intro _; rw [l3] at hx; exact ⟨_, ts, hx⟩) | (intro _; exact ⟨_, hl, by rw [v5, z5]⟩)
  by_cases w5 : w = 4
  · refine zs_tableIn (off := 123) (tgt := 124) bdSR_count_1 (by rw [w5]; decide) (by rw [w5]; decide) (by rw [w5]; decide) (by decide) ?_
    refine zb_iret bkSR_count_124 bdSR_count_131 rfl (x := sg 1 4) (h' := zN sg) (Ps := [zOb (zN sg) 0 9 ∧ (zN sg).2.2 0 0 = true, zOb (zN sg) 1 5]) rfl (zA ⟨zob_0, rfl⟩ (zA zob_1 trivial)) rfl ?_
    refine ⟨_, _, rfl, rfl, hQ_refl hf, ?_⟩
    refine ⟨?_, ?_, ?_, ?_, ?_, ?_, ?_, ?_, ?_, ?_, ?_, ?_, ?_, ?_, ?_, ?_, ?_, ?_, ?_, ?_⟩ <;> first | (intro hw; exfalso; lia; done) | (intro _; rfl) | (intro _; rw [l3]; exact rN_congr ts n0 (Int32.le_refl _)) | (intro _; rw [l3, rL_congr ts n0 (Int32.le_refl _)]) | (intro _; rw [l3]; exact uN_congr ts n0 (Int32.le_refl _)) | (intro _; rw [l3] at hx; exact ⟨_, ts, hx⟩) | (intro _; exact ⟨_, hl, by rw [v5, z5]⟩)
  by_cases w6 : w = 5
  · refine zs_tableIn (off := 131) (tgt := 132) bdSR_count_1 (by rw [w6]; decide) (by rw [w6]; decide) (by rw [w6]; decide) (by decide) ?_
    refine zb_iret bkSR_count_132 bdSR_count_139 rfl (x := sg 1 6) (h' := zN sg) (Ps := [zOb (zN sg) 0 9 ∧ (zN sg).2.2 0 0 = true, zOb (zN sg) 1 5]) rfl (zA ⟨zob_0, rfl⟩ (zA zob_1 trivial)) rfl ?_
    refine ⟨_, _, rfl, rfl, hQ_refl hf, ?_⟩
    refine ⟨?_, ?_, ?_, ?_, ?_, ?_, ?_, ?_, ?_, ?_, ?_, ?_, ?_, ?_, ?_, ?_, ?_, ?_, ?_, ?_⟩ <;> first | (intro hw; exfalso; lia; done) | (intro _; rfl) | (intro _; rw [l3]; exact rN_congr ts n0 (Int32.le_refl _)) | (intro _; rw [l3, rL_congr ts n0 (Int32.le_refl _)]) | (intro _; rw [l3]; exact uN_congr ts n0 (Int32.le_refl _)) | (intro _; rw [l3] at hx; exact ⟨_, ts, hx⟩) | (intro _; exact ⟨_, hl, by rw [v5, z5]⟩)
  by_cases w7 : w = 6
  · refine zs_tableIn (off := 139) (tgt := 140) bdSR_count_1 (by rw [w7]; decide) (by rw [w7]; decide) (by rw [w7]; decide) (by decide) ?_
    refine zG_run bkSR_count_140 (lv' := [(0, .ref 0), (1, .int w)]) (st' := [.ref 0]) (h' := zN sg) (Ps := []) rfl trivial ?_
    refine zG_callv (a := 0) (c := 9) (As := []) (rest := []) (N2 := 411) bdSR_count_141 okSR_looksNow lk9_184 (And.intro (by decide) (by decide)) (by decide) rfl rfl rfl (Nat.le_of_ble_eq_true rfl) (Nat.le_of_ble_eq_true rfl) (Nat.le_refl 411) (Nat.le_refl 411) zob_0 (cSR_looksNow ob hf) ?_
    rintro rr h' ⟨sg0, rfl, rfl, hl⟩ -
    have hq0 : hQ sg sg0 := hLk_Q ob hl
    have fl := hQ_s hq0
    have y2 : sg0 1 2 = sg 1 2 := fl 1 2 (by decide) (by decide)
    have y4 : sg0 1 4 = sg 1 4 := fl 1 4 (by decide) (by decide)
    have y6 : sg0 1 6 = sg 1 6 := fl 1 6 (by decide) (by decide)
    have yt : sg0 34 1 = sg 34 1 := fl 34 1 (by decide) (by decide)
    have l3 : sg0 313 1 = sg 1 2 := hl.2.2.1
    have ts : ∀ j, 0 ≤ j → j < sg 1 2 → sg0 314 j = nS sg j := hl.2.2.2
    refine zG_run bkSR_count_144 (lv' := [(0, .ref 0), (1, .int w)]) (st' := [.ref 313]) (h' := zN sg0) (Ps := []) rfl trivial ?_
    refine zG_callv (a := 313) (c := 3) (As := []) (rest := []) (N2 := 411) bdSR_count_144 okLoo_longestLength lk9_318 (And.intro (by decide) (by decide)) (by decide) rfl rfl rfl (Nat.le_of_ble_eq_true rfl) (Nat.le_of_ble_eq_true rfl) (Nat.le_refl 411) (Nat.le_refl 411) zob_313 (cLoo_longestLength_313 (by lia) (by lia)) ?_
    rintro rr h' ⟨rfl, rfl⟩ -
    refine zb_iret bkSR_count_147 bdSR_count_147 rfl (x := (zit (rL (sg0 314)) (0, 0) (sg0 313 1)).1) (h' := zN sg0) (Ps := []) rfl trivial rfl ?_
    refine ⟨_, _, rfl, rfl, hq0, ?_⟩
    refine ⟨?_, ?_, ?_, ?_, ?_, ?_, ?_, ?_, ?_, ?_, ?_, ?_, ?_, ?_, ?_, ?_, ?_, ?_, ?_, ?_⟩ <;> first | (intro hw; exfalso; lia; done) | (intro _; rfl) | (intro _; rw [l3]; exact rN_congr ts n0 (Int32.le_refl _)) | (intro _; rw [l3, rL_congr ts n0 (Int32.le_refl _)]) | (intro _; rw [l3]; exact uN_congr ts n0 (Int32.le_refl _)) | (intro _; rw [l3] at hx; exact ⟨_, ts, hx⟩) | (intro _; exact ⟨_, hl, by rw [v5, z5]⟩)
  by_cases w8 : w = 7
  · refine zs_tableIn (off := 147) (tgt := 148) bdSR_count_1 (by rw [w8]; decide) (by rw [w8]; decide) (by rw [w8]; decide) (by decide) ?_
    refine zG_run bkSR_count_148 (lv' := [(0, .ref 0), (1, .int w)]) (st' := [.ref 0]) (h' := zN sg) (Ps := []) rfl trivial ?_
    refine zG_callv (a := 0) (c := 9) (As := []) (rest := []) (N2 := 411) bdSR_count_149 okSR_looksNow lk9_184 (And.intro (by decide) (by decide)) (by decide) rfl rfl rfl (Nat.le_of_ble_eq_true rfl) (Nat.le_of_ble_eq_true rfl) (Nat.le_refl 411) (Nat.le_refl 411) zob_0 (cSR_looksNow ob hf) ?_
    rintro rr h' ⟨sg0, rfl, rfl, hl⟩ -
    have hq0 : hQ sg sg0 := hLk_Q ob hl
    have fl := hQ_s hq0
    have y2 : sg0 1 2 = sg 1 2 := fl 1 2 (by decide) (by decide)
    have y4 : sg0 1 4 = sg 1 4 := fl 1 4 (by decide) (by decide)
    have y6 : sg0 1 6 = sg 1 6 := fl 1 6 (by decide) (by decide)
    have yt : sg0 34 1 = sg 34 1 := fl 34 1 (by decide) (by decide)
    have l3 : sg0 313 1 = sg 1 2 := hl.2.2.1
    have ts : ∀ j, 0 ≤ j → j < sg 1 2 → sg0 314 j = nS sg j := hl.2.2.2
    refine zG_run bkSR_count_152 (lv' := [(0, .ref 0), (1, .int w)]) (st' := [.ref 313]) (h' := zN sg0) (Ps := []) rfl trivial ?_
    refine zG_callv (a := 313) (c := 3) (As := []) (rest := []) (N2 := 411) bdSR_count_152 okLoo_longestRun lk9_321 (And.intro (by decide) (by decide)) (by decide) rfl rfl rfl (Nat.le_of_ble_eq_true rfl) (Nat.le_of_ble_eq_true rfl) (Nat.le_refl 411) (Nat.le_refl 411) zob_313 (cLoo_longestRun_313 (by lia) (by lia)) ?_
    rintro rr h' ⟨v9, rfl, rfl, hx⟩ -
    refine zb_iret bkSR_count_155 bdSR_count_155 rfl (x := v9) (h' := zN sg0) (Ps := []) rfl trivial rfl ?_
    refine ⟨_, _, rfl, rfl, hq0, ?_⟩
    refine ⟨?_, ?_, ?_, ?_, ?_, ?_, ?_, ?_, ?_, ?_, ?_, ?_, ?_, ?_, ?_, ?_, ?_, ?_, ?_, ?_⟩ <;> first | (intro hw; exfalso; lia; done) | (intro _; rfl) | (intro _; rw [l3]; exact rN_congr ts n0 (Int32.le_refl _)) | (intro _; rw [l3, rL_congr ts n0 (Int32.le_refl _)]) | (intro _; rw [l3]; exact uN_congr ts n0 (Int32.le_refl _)) | (intro _; rw [l3] at hx; exact ⟨_, ts, hx⟩) | (intro _; exact ⟨_, hl, by rw [v5, z5]⟩)
  by_cases w10 : w = 8
  · refine zs_tableIn (off := 155) (tgt := 156) bdSR_count_1 (by rw [w10]; decide) (by rw [w10]; decide) (by rw [w10]; decide) (by decide) ?_
    refine zG_run bkSR_count_156 (lv' := [(0, .ref 0), (1, .int w)]) (st' := [.ref 0]) (h' := zN sg) (Ps := []) rfl trivial ?_
    refine zG_callv (a := 0) (c := 9) (As := []) (rest := []) (N2 := 411) bdSR_count_157 okSR_looksNow lk9_184 (And.intro (by decide) (by decide)) (by decide) rfl rfl rfl (Nat.le_of_ble_eq_true rfl) (Nat.le_of_ble_eq_true rfl) (Nat.le_refl 411) (Nat.le_refl 411) zob_0 (cSR_looksNow ob hf) ?_
    rintro rr h' ⟨sg0, rfl, rfl, hl⟩ -
    have hq0 : hQ sg sg0 := hLk_Q ob hl
    have fl := hQ_s hq0
    have y2 : sg0 1 2 = sg 1 2 := fl 1 2 (by decide) (by decide)
    have y4 : sg0 1 4 = sg 1 4 := fl 1 4 (by decide) (by decide)
    have y6 : sg0 1 6 = sg 1 6 := fl 1 6 (by decide) (by decide)
    have yt : sg0 34 1 = sg 34 1 := fl 34 1 (by decide) (by decide)
    have l3 : sg0 313 1 = sg 1 2 := hl.2.2.1
    have ts : ∀ j, 0 ≤ j → j < sg 1 2 → sg0 314 j = nS sg j := hl.2.2.2
    refine zG_run bkSR_count_160 (lv' := [(0, .ref 0), (1, .int w)]) (st' := [.ref 313]) (h' := zN sg0) (Ps := []) rfl trivial ?_
    refine zG_callv (a := 313) (c := 3) (As := []) (rest := []) (N2 := 411) bdSR_count_160 okLoo_unlikeStyles lk9_324 (And.intro (by decide) (by decide)) (by decide) rfl rfl rfl (Nat.le_of_ble_eq_true rfl) (Nat.le_of_ble_eq_true rfl) (Nat.le_refl 411) (Nat.le_refl 411) zob_313 (cLoo_unlikeStyles_313 (by lia) (by lia)) ?_
    rintro rr h' ⟨rfl, rfl⟩ -
    refine zb_iret bkSR_count_163 bdSR_count_163 rfl (x := zit (uN (sg0 314)) 0 (sg0 313 1)) (h' := zN sg0) (Ps := []) rfl trivial rfl ?_
    refine ⟨_, _, rfl, rfl, hq0, ?_⟩
    refine ⟨?_, ?_, ?_, ?_, ?_, ?_, ?_, ?_, ?_, ?_, ?_, ?_, ?_, ?_, ?_, ?_, ?_, ?_, ?_, ?_⟩ <;> first | (intro hw; exfalso; lia; done) | (intro _; rfl) | (intro _; rw [l3]; exact rN_congr ts n0 (Int32.le_refl _)) | (intro _; rw [l3, rL_congr ts n0 (Int32.le_refl _)]) | (intro _; rw [l3]; exact uN_congr ts n0 (Int32.le_refl _)) | (intro _; rw [l3] at hx; exact ⟨_, ts, hx⟩) | (intro _; exact ⟨_, hl, by rw [v5, z5]⟩)
  by_cases w11 : w = 9
  · refine zs_tableIn (off := 163) (tgt := 164) bdSR_count_1 (by rw [w11]; decide) (by rw [w11]; decide) (by rw [w11]; decide) (by decide) ?_
    refine zG_run bkSR_count_164 (lv' := [(0, .ref 0), (1, .int w)]) (st' := [.ref 1]) (h' := zN sg) (Ps := [zOb (zN sg) 0 9 ∧ (zN sg).2.2 0 0 = true]) rfl (zA ⟨zob_0, rfl⟩ trivial) ?_
    refine zG_callv (a := 1) (c := 5) (As := []) (rest := []) (N2 := 411) bdSR_count_168 okShe_mostSpansOverLetter lk9_327 (And.intro (by decide) (by decide)) (by decide) rfl rfl rfl (Nat.le_of_ble_eq_true rfl) (Nat.le_of_ble_eq_true rfl) (Nat.le_refl 411) (Nat.le_refl 411) zob_1 (cShe_mostSpansOverLetter (by lia) (by lia) (by lia) (by lia)) ?_
    rintro rr h' ⟨rfl, rfl⟩ -
    refine zb_iret bkSR_count_171 bdSR_count_171 rfl (x := zit (nMo sg) 0 (sg 1 2)) (h' := zN sg) (Ps := []) rfl trivial rfl ?_
    refine ⟨_, _, rfl, rfl, hQ_refl hf, ?_⟩
    refine ⟨?_, ?_, ?_, ?_, ?_, ?_, ?_, ?_, ?_, ?_, ?_, ?_, ?_, ?_, ?_, ?_, ?_, ?_, ?_, ?_⟩ <;> first | (intro hw; exfalso; lia; done) | (intro _; rfl) | (intro _; rw [l3]; exact rN_congr ts n0 (Int32.le_refl _)) | (intro _; rw [l3, rL_congr ts n0 (Int32.le_refl _)]) | (intro _; rw [l3]; exact uN_congr ts n0 (Int32.le_refl _)) | (intro _; rw [l3] at hx; exact ⟨_, ts, hx⟩) | (intro _; exact ⟨_, hl, by rw [v5, z5]⟩)
  by_cases w12 : w = 10
  · refine zs_tableIn (off := 171) (tgt := 172) bdSR_count_1 (by rw [w12]; decide) (by rw [w12]; decide) (by rw [w12]; decide) (by decide) ?_
    refine zG_run bkSR_count_172 (lv' := [(0, .ref 0), (1, .int w)]) (st' := [.ref 1]) (h' := zN sg) (Ps := [zOb (zN sg) 0 9 ∧ (zN sg).2.2 0 0 = true]) rfl (zA ⟨zob_0, rfl⟩ trivial) ?_
    refine zG_callv (a := 1) (c := 5) (As := []) (rest := []) (N2 := 411) bdSR_count_176 okShe_lostOfAll lk9_330 (And.intro (by decide) (by decide)) (by decide) rfl rfl rfl (Nat.le_of_ble_eq_true rfl) (Nat.le_of_ble_eq_true rfl) (Nat.le_refl 411) (Nat.le_refl 411) zob_1 (cShe_lostOfAll (by lia) (by lia)) ?_
    rintro rr h' ⟨rfl, rfl⟩ -
    refine zb_iret bkSR_count_179 bdSR_count_179 rfl (x := zit (nLo sg) 0 (sg 1 6)) (h' := zN sg) (Ps := []) rfl trivial rfl ?_
    refine ⟨_, _, rfl, rfl, hQ_refl hf, ?_⟩
    refine ⟨?_, ?_, ?_, ?_, ?_, ?_, ?_, ?_, ?_, ?_, ?_, ?_, ?_, ?_, ?_, ?_, ?_, ?_, ?_, ?_⟩ <;> first | (intro hw; exfalso; lia; done) | (intro _; rfl) | (intro _; rw [l3]; exact rN_congr ts n0 (Int32.le_refl _)) | (intro _; rw [l3, rL_congr ts n0 (Int32.le_refl _)]) | (intro _; rw [l3]; exact uN_congr ts n0 (Int32.le_refl _)) | (intro _; rw [l3] at hx; exact ⟨_, ts, hx⟩) | (intro _; exact ⟨_, hl, by rw [v5, z5]⟩)
  by_cases w13 : w = 11
  · refine zs_tableIn (off := 179) (tgt := 180) bdSR_count_1 (by rw [w13]; decide) (by rw [w13]; decide) (by rw [w13]; decide) (by decide) ?_
    refine zG_run bkSR_count_180 (lv' := [(0, .ref 0), (1, .int w)]) (st' := [.ref 0, .ref 1, .ref 322]) (h' := zN sg) (Ps := [zOb (zN sg) 0 9 ∧ (zN sg).2.2 0 8 = true, zOb (zN sg) 0 9 ∧ (zN sg).2.2 0 0 = true]) rfl (zA ⟨zob_0, rfl⟩ (zA ⟨zob_0, rfl⟩ trivial)) ?_
    refine zG_callv (a := 0) (c := 9) (As := []) (rest := [.ref 1, .ref 322]) (N2 := 411) bdSR_count_189 okSR_looksNow lk9_184 (And.intro (by decide) (by decide)) (by decide) rfl rfl rfl (Nat.le_of_ble_eq_true rfl) (Nat.le_of_ble_eq_true rfl) (Nat.le_refl 411) (Nat.le_refl 411) zob_0 (cSR_looksNow ob hf) ?_
    rintro rr h' ⟨sg0, rfl, rfl, hl⟩ -
    have hq0 : hQ sg sg0 := hLk_Q ob hl
    have fl := hQ_s hq0
    have y2 : sg0 1 2 = sg 1 2 := fl 1 2 (by decide) (by decide)
    have y4 : sg0 1 4 = sg 1 4 := fl 1 4 (by decide) (by decide)
    have y6 : sg0 1 6 = sg 1 6 := fl 1 6 (by decide) (by decide)
    have yt : sg0 34 1 = sg 34 1 := fl 34 1 (by decide) (by decide)
    have l3 : sg0 313 1 = sg 1 2 := hl.2.2.1
    have ts : ∀ j, 0 ≤ j → j < sg 1 2 → sg0 314 j = nS sg j := hl.2.2.2
    refine zG_run bkSR_count_192 (lv' := [(0, .ref 0), (1, .int w)]) (st' := [.ref 313, .ref 1, .ref 322]) (h' := zN sg0) (Ps := []) rfl trivial ?_
    refine zG_callv (a := 322) (c := 8) (As := [.ref 1, .ref 313]) (rest := []) (N2 := 411) bdSR_count_192 okWri_compose lk9_224 (And.intro (by decide) (by decide)) (by decide) rfl rfl rfl (Nat.le_of_ble_eq_true rfl) (Nat.le_of_ble_eq_true rfl) (Nat.le_refl 411) (Nat.le_refl 411) zob_322 (cWri_compose (by lia) (by lia)) ?_
    rintro rr h' ⟨v5', s5, rfl, rfl, z5, v5, l5, f5⟩ -
    refine zb_iret bkSR_count_195 bdSR_count_195 rfl (x := v5') (h' := zN s5) (Ps := []) rfl trivial rfl ?_
    refine ⟨_, _, rfl, rfl, hQ_trans hq0 (hQ_wri hq0.2 (hQ_okS hq0 ob) f5), ?_⟩
    refine ⟨?_, ?_, ?_, ?_, ?_, ?_, ?_, ?_, ?_, ?_, ?_, ?_, ?_, ?_, ?_, ?_, ?_, ?_, ?_, ?_⟩ <;> first | (intro hw; exfalso; lia; done) | (intro _; rfl) | (intro _; rw [l3]; exact rN_congr ts n0 (Int32.le_refl _)) | (intro _; rw [l3, rL_congr ts n0 (Int32.le_refl _)]) | (intro _; rw [l3]; exact uN_congr ts n0 (Int32.le_refl _)) | (intro _; rw [l3] at hx; exact ⟨_, ts, hx⟩) | (intro _; exact ⟨_, hl, by rw [v5, z5]⟩)
  by_cases w14 : w = 12
  · refine zs_tableIn (off := 195) (tgt := 196) bdSR_count_1 (by rw [w14]; decide) (by rw [w14]; decide) (by rw [w14]; decide) (by decide) ?_
    refine zb_iret bkSR_count_196 bdSR_count_203 rfl (x := sg 36 3) (h' := zN sg) (Ps := [zOb (zN sg) 0 9 ∧ (zN sg).2.2 0 2 = true, zOb (zN sg) 36 2]) rfl (zA ⟨zob_0, rfl⟩ (zA zob_36 trivial)) rfl ?_
    refine ⟨_, _, rfl, rfl, hQ_refl hf, ?_⟩
    refine ⟨?_, ?_, ?_, ?_, ?_, ?_, ?_, ?_, ?_, ?_, ?_, ?_, ?_, ?_, ?_, ?_, ?_, ?_, ?_, ?_⟩ <;> first | (intro hw; exfalso; lia; done) | (intro _; rfl) | (intro _; rw [l3]; exact rN_congr ts n0 (Int32.le_refl _)) | (intro _; rw [l3, rL_congr ts n0 (Int32.le_refl _)]) | (intro _; rw [l3]; exact uN_congr ts n0 (Int32.le_refl _)) | (intro _; rw [l3] at hx; exact ⟨_, ts, hx⟩) | (intro _; exact ⟨_, hl, by rw [v5, z5]⟩)
  by_cases w15 : w = 13
  · refine zs_tableIn (off := 203) (tgt := 204) bdSR_count_1 (by rw [w15]; decide) (by rw [w15]; decide) (by rw [w15]; decide) (by decide) ?_
    refine zb_iret bkSR_count_204 bdSR_count_211 rfl (x := sg 34 1) (h' := zN sg) (Ps := [zOb (zN sg) 0 9 ∧ (zN sg).2.2 0 1 = true, zOb (zN sg) 34 7]) rfl (zA ⟨zob_0, rfl⟩ (zA zob_34 trivial)) rfl ?_
    refine ⟨_, _, rfl, rfl, hQ_refl hf, ?_⟩
    refine ⟨?_, ?_, ?_, ?_, ?_, ?_, ?_, ?_, ?_, ?_, ?_, ?_, ?_, ?_, ?_, ?_, ?_, ?_, ?_, ?_⟩ <;> first | (intro hw; exfalso; lia; done) | (intro _; rfl) | (intro _; rw [l3]; exact rN_congr ts n0 (Int32.le_refl _)) | (intro _; rw [l3, rL_congr ts n0 (Int32.le_refl _)]) | (intro _; rw [l3]; exact uN_congr ts n0 (Int32.le_refl _)) | (intro _; rw [l3] at hx; exact ⟨_, ts, hx⟩) | (intro _; exact ⟨_, hl, by rw [v5, z5]⟩)
  by_cases w16 : w = 14
  · refine zs_tableIn (off := 211) (tgt := 212) bdSR_count_1 (by rw [w16]; decide) (by rw [w16]; decide) (by rw [w16]; decide) (by decide) ?_
    refine zb_iret bkSR_count_212 bdSR_count_218 rfl (x := sg 326 1) (h' := zN sg) (Ps := [zOb (zN sg) 0 9 ∧ (zN sg).2.2 0 9 = true, zInL (zN sg) 326 1]) rfl (zA ⟨zob_0, rfl⟩ (zA (zinL_326 (i := 1) (by decide) (by decide)) trivial)) rfl ?_
    refine ⟨_, _, rfl, rfl, hQ_refl hf, ?_⟩
    refine ⟨?_, ?_, ?_, ?_, ?_, ?_, ?_, ?_, ?_, ?_, ?_, ?_, ?_, ?_, ?_, ?_, ?_, ?_, ?_, ?_⟩ <;> first | (intro hw; exfalso; lia; done) | (intro _; rfl) | (intro _; rw [l3]; exact rN_congr ts n0 (Int32.le_refl _)) | (intro _; rw [l3, rL_congr ts n0 (Int32.le_refl _)]) | (intro _; rw [l3]; exact uN_congr ts n0 (Int32.le_refl _)) | (intro _; rw [l3] at hx; exact ⟨_, ts, hx⟩) | (intro _; exact ⟨_, hl, by rw [v5, z5]⟩)
  by_cases w17 : w = 15
  · refine zs_tableIn (off := 218) (tgt := 219) bdSR_count_1 (by rw [w17]; decide) (by rw [w17]; decide) (by rw [w17]; decide) (by decide) ?_
    refine zb_iret bkSR_count_219 bdSR_count_225 rfl (x := sg 326 2) (h' := zN sg) (Ps := [zOb (zN sg) 0 9 ∧ (zN sg).2.2 0 9 = true, zInL (zN sg) 326 2]) rfl (zA ⟨zob_0, rfl⟩ (zA (zinL_326 (i := 2) (by decide) (by decide)) trivial)) rfl ?_
    refine ⟨_, _, rfl, rfl, hQ_refl hf, ?_⟩
    refine ⟨?_, ?_, ?_, ?_, ?_, ?_, ?_, ?_, ?_, ?_, ?_, ?_, ?_, ?_, ?_, ?_, ?_, ?_, ?_, ?_⟩ <;> first | (intro hw; exfalso; lia; done) | (intro _; rfl) | (intro _; rw [l3]; exact rN_congr ts n0 (Int32.le_refl _)) | (intro _; rw [l3, rL_congr ts n0 (Int32.le_refl _)]) | (intro _; rw [l3]; exact uN_congr ts n0 (Int32.le_refl _)) | (intro _; rw [l3] at hx; exact ⟨_, ts, hx⟩) | (intro _; exact ⟨_, hl, by rw [v5, z5]⟩)
  by_cases w18 : w = 16
  · refine zs_tableIn (off := 225) (tgt := 226) bdSR_count_1 (by rw [w18]; decide) (by rw [w18]; decide) (by rw [w18]; decide) (by decide) ?_
    refine zb_iret bkSR_count_226 bdSR_count_232 rfl (x := sg 326 4) (h' := zN sg) (Ps := [zOb (zN sg) 0 9 ∧ (zN sg).2.2 0 9 = true, zInL (zN sg) 326 4]) rfl (zA ⟨zob_0, rfl⟩ (zA (zinL_326 (i := 4) (by decide) (by decide)) trivial)) rfl ?_
    refine ⟨_, _, rfl, rfl, hQ_refl hf, ?_⟩
    refine ⟨?_, ?_, ?_, ?_, ?_, ?_, ?_, ?_, ?_, ?_, ?_, ?_, ?_, ?_, ?_, ?_, ?_, ?_, ?_, ?_⟩ <;> first | (intro hw; exfalso; lia; done) | (intro _; rfl) | (intro _; rw [l3]; exact rN_congr ts n0 (Int32.le_refl _)) | (intro _; rw [l3, rL_congr ts n0 (Int32.le_refl _)]) | (intro _; rw [l3]; exact uN_congr ts n0 (Int32.le_refl _)) | (intro _; rw [l3] at hx; exact ⟨_, ts, hx⟩) | (intro _; exact ⟨_, hl, by rw [v5, z5]⟩)
  by_cases w19 : w = 17
  · refine zs_tableIn (off := 232) (tgt := 233) bdSR_count_1 (by rw [w19]; decide) (by rw [w19]; decide) (by rw [w19]; decide) (by decide) ?_
    refine zb_iret bkSR_count_233 bdSR_count_239 rfl (x := sg 326 5) (h' := zN sg) (Ps := [zOb (zN sg) 0 9 ∧ (zN sg).2.2 0 9 = true, zInL (zN sg) 326 5]) rfl (zA ⟨zob_0, rfl⟩ (zA (zinL_326 (i := 5) (by decide) (by decide)) trivial)) rfl ?_
    refine ⟨_, _, rfl, rfl, hQ_refl hf, ?_⟩
    refine ⟨?_, ?_, ?_, ?_, ?_, ?_, ?_, ?_, ?_, ?_, ?_, ?_, ?_, ?_, ?_, ?_, ?_, ?_, ?_, ?_⟩ <;> first | (intro hw; exfalso; lia; done) | (intro _; rfl) | (intro _; rw [l3]; exact rN_congr ts n0 (Int32.le_refl _)) | (intro _; rw [l3, rL_congr ts n0 (Int32.le_refl _)]) | (intro _; rw [l3]; exact uN_congr ts n0 (Int32.le_refl _)) | (intro _; rw [l3] at hx; exact ⟨_, ts, hx⟩) | (intro _; exact ⟨_, hl, by rw [v5, z5]⟩)
  by_cases w20 : w = 18
  · refine zs_tableIn (off := 239) (tgt := 240) bdSR_count_1 (by rw [w20]; decide) (by rw [w20]; decide) (by rw [w20]; decide) (by decide) ?_
    refine zb_iret bkSR_count_240 bdSR_count_247 rfl (x := sg 326 6) (h' := zN sg) (Ps := [zOb (zN sg) 0 9 ∧ (zN sg).2.2 0 9 = true, zInL (zN sg) 326 6]) rfl (zA ⟨zob_0, rfl⟩ (zA (zinL_326 (i := 6) (by decide) (by decide)) trivial)) rfl ?_
    refine ⟨_, _, rfl, rfl, hQ_refl hf, ?_⟩
    refine ⟨?_, ?_, ?_, ?_, ?_, ?_, ?_, ?_, ?_, ?_, ?_, ?_, ?_, ?_, ?_, ?_, ?_, ?_, ?_, ?_⟩ <;> first | (intro hw; exfalso; lia; done) | (intro _; rfl) | (intro _; rw [l3]; exact rN_congr ts n0 (Int32.le_refl _)) | (intro _; rw [l3, rL_congr ts n0 (Int32.le_refl _)]) | (intro _; rw [l3]; exact uN_congr ts n0 (Int32.le_refl _)) | (intro _; rw [l3] at hx; exact ⟨_, ts, hx⟩) | (intro _; exact ⟨_, hl, by rw [v5, z5]⟩)
  refine zs_tableOut (tgt := 248) bdSR_count_1 (zsw_out (x := w) (n := 19) (by decide) (by intro j hj; match j, hj with | 0, _ => exact w1 | 1, _ => exact w2 | 2, _ => exact w3 | 3, _ => exact w4 | 4, _ => exact w5 | 5, _ => exact w6 | 6, _ => exact w7 | 7, _ => exact w8 | 8, _ => exact w10 | 9, _ => exact w11 | 10, _ => exact w12 | 11, _ => exact w13 | 12, _ => exact w14 | 13, _ => exact w15 | 14, _ => exact w16 | 15, _ => exact w17 | 16, _ => exact w18 | 17, _ => exact w19 | 18, _ => exact w20 | kk + 19, hk => exact absurd hk (by omega))) (by decide) ?_
  refine zb_iret bkSR_count_248 bdSR_count_249 rfl (x := (-1)) (h' := zN sg) (Ps := []) rfl trivial rfl ?_
  refine ⟨_, _, rfl, rfl, hQ_refl hf, ?_⟩
  refine ⟨?_, ?_, ?_, ?_, ?_, ?_, ?_, ?_, ?_, ?_, ?_, ?_, ?_, ?_, ?_, ?_, ?_, ?_, ?_, ?_⟩ <;> first | (intro hw; exfalso; lia; done) | (intro _; rfl) | (intro _; rw [l3]; exact rN_congr ts n0 (Int32.le_refl _)) | (intro _; rw [l3, rL_congr ts n0 (Int32.le_refl _)]) | (intro _; rw [l3]; exact uN_congr ts n0 (Int32.le_refl _)) | (intro _; rw [l3] at hx; exact ⟨_, ts, hx⟩) | (intro _; exact ⟨_, hl, by rw [v5, z5]⟩)
