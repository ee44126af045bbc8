/-! the reference: a marked text is written: printed by wip/whole/p44.py -/
def mFu (t : z3) (sg : zSig) : Int32 := zit (fun k a => if a = k ∧ mHs t sg k = true then a + 1 else a) 0 (sg 393 25)
theorem mFu_or {t : z3} {sg : zSig} (h : 0 ≤ sg 393 25) : (0 ≤ mFu t sg ∧ mFu t sg ≤ sg 393 25) ∧ (∀ j, 0 ≤ j → j < mFu t sg → mHs t sg j = true) ∧ (mFu t sg < sg 393 25 → ¬ mHs t sg (mFu t sg) = true) := zit_run (fun k => mHs t sg k = true) h
def mClT (sg : zSig) (d : Int32) : zSig := zitN (fun _ => hCl) sg (zmu (sg 393 25) d)
def mOo (b : Bool) (c d : Int32) (sg : zSig) : zSig := if b = true then hOpn c d sg else sg
def mOps (t : z3) (sg : zSig) : zSig := mOo (decide (¬ t.2.2 = 4)) 122 t.2.2 (mOo (decide (¬ t.2.1 = 0)) 99 t.2.1 (mOo (decide (¬ t.1 &&& 8 = 0)) 115 0 (mOo (decide (¬ t.1 &&& 4 = 0)) 117 0 (mOo (decide (¬ t.1 &&& 2 = 0)) 105 0 (mOo (decide (¬ t.1 &&& 1 = 0)) 98 0 sg)))))
def mMks (t : z3) (sg : zSig) : zSig := mOps t (mClT sg (mFu t sg))
theorem okWm_oo {sg S : zSig} {b c d : Int32} {q : Bool} (b0 : 0 ≤ b) (b1 : b ≤ 10000) (hc : fKd c ≠ -1) (h : okWm sg S b) : okWm sg (mOo q c d S) (b + 4) := by
  unfold mOo; split
  · exact okWm_o b0 b1 hc h
  · exact ⟨h.1, h.2.1, h.2.2.1, by have := h.2.2.2; lia⟩
theorem mHs_c {t : z3} {s sg : zSig} {k : Int32} (h6 : s 406 k = sg 406 k) (h7 : s 407 k = sg 407 k) : mHs t s k = mHs t sg k := by unfold mHs; rw [h6, h7]
theorem okO_cl {s sg : zSig} (h : okO sg) (h0 : 0 ≤ s 393 25) (h1 : s 393 25 ≤ sg 393 25) (h6 : ∀ j, s 406 j = sg 406 j) : okO s := by
  obtain ⟨⟨o0, o1⟩, o2, o3⟩ := h
  exact ⟨⟨h0, by lia⟩, fun j j0 j1 => by rw [h6]; exact o2 j j0 (by lia), fun i j i0 i1 j1 => by rw [h6, h6]; exact o3 i j i0 i1 (by lia)⟩
theorem bkMo_marks_0 : zBk mMo_marks 0 [(1, 0, 1, 0, 0)] = some 1 := by decide +kernel
theorem bkMo_marks_4 : zBk mMo_marks 4 [] = some 4 := by decide +kernel
theorem bkMo_marks_14 : zBk mMo_marks 14 [(0, 0, 0, 0, 1), (2, 1, 0, 0, 0), (1, 1, 0, 0, 0), (0, 0, 0, 0, 16)] = some 19 := by decide +kernel
theorem bkMo_marks_68 : zBk mMo_marks 68 [(1, 1, 0, 0, 0), (0, 0, 0, 0, 2), (4, 2, 0, 0, 0), (2, 1, 0, 0, 0), (22, 16, 0, 0, 0), (1, 1, 0, 0, 0), (0, 0, 0, 0, 16)] = some 19 := by decide +kernel
theorem bkMo_marks_110 : zBk mMo_marks 110 [] = some 110 := by decide +kernel
theorem bkMo_marks_92 : zBk mMo_marks 92 [(1, 0, 1, 0, 0), (5, 10, 18, 0, 18), (0, 0, 0, 0, 4)] = some 97 := by decide +kernel
theorem bkMo_marks_100 : zBk mMo_marks 100 [(1, 0, 1, 0, 0), (0, 0, 0, 0, 122), (1, 0, 1, 0, 0), (5, 10, 18, 0, 18)] = some 107 := by decide +kernel
theorem bkMo_marks_75 : zBk mMo_marks 75 [(1, 0, 1, 0, 0), (5, 10, 17, 0, 17)] = some 79 := by decide +kernel
theorem bkMo_marks_82 : zBk mMo_marks 82 [(1, 0, 1, 0, 0), (0, 0, 0, 0, 99), (1, 0, 1, 0, 0), (5, 10, 17, 0, 17)] = some 89 := by decide +kernel
theorem bkMo_marks_22 : zBk mMo_marks 22 [(1, 0, 1, 0, 0), (5, 10, 16, 0, 16), (1, 1, 0, 0, 0), (4, 3, 0, 0, 0)] = some 28 := by decide +kernel
theorem bkMo_marks_31 : zBk mMo_marks 31 [(1, 0, 1, 0, 0), (1, 1, 0, 0, 0), (0, 0, 0, 0, 1)] = some 34 := by decide +kernel
theorem bkMo_marks_42 : zBk mMo_marks 42 [(1, 1, 0, 0, 0), (0, 0, 0, 0, 2)] = some 44 := by decide +kernel
theorem bkMo_marks_52 : zBk mMo_marks 52 [(1, 1, 0, 0, 0), (0, 0, 0, 0, 4)] = some 54 := by decide +kernel
theorem bkMo_marks_62 : zBk mMo_marks 62 [(0, 0, 0, 0, 115), (0, 0, 0, 0, 0)] = some 65 := by decide +kernel
theorem bkMo_marks_57 : zBk mMo_marks 57 [(0, 0, 0, 0, 117), (22, 64, 0, 0, 0), (0, 0, 0, 0, 0)] = some 65 := by decide +kernel
theorem bkMo_marks_47 : zBk mMo_marks 47 [(0, 0, 0, 0, 105), (22, 64, 0, 0, 0), (0, 0, 0, 0, 0)] = some 65 := by decide +kernel
theorem bkMo_marks_37 : zBk mMo_marks 37 [(0, 0, 0, 0, 98), (22, 64, 0, 0, 0), (0, 0, 0, 0, 0)] = some 65 := by decide +kernel
theorem bkMo_marks_7 : zBk mMo_marks 7 [(1, 0, 1, 0, 0)] = some 8 := by decide +kernel
theorem bkMo_marks_11 : zBk mMo_marks 11 [(22, 0, 0, 0, 0)] = some 0 := by decide +kernel
theorem bdMo_marks_1 : decode mMo_marks.2.2.1 1 = .ok (.invokevirtual 243, 3) := by decide +kernel
theorem bdMo_marks_4 : decode mMo_marks.2.2.1 4 = .ok (.ifCond .ne 10, 3) := by decide +kernel
theorem bdMo_marks_8 : decode mMo_marks.2.2.1 8 = .ok (.invokevirtual 246, 3) := by decide +kernel
theorem bdMo_marks_19 : decode mMo_marks.2.2.1 19 = .ok (.if_icmp .ge 56, 3) := by decide +kernel
theorem bdMo_marks_28 : decode mMo_marks.2.2.1 28 = .ok (.ifCond .eq 40, 3) := by decide +kernel
theorem bdMo_marks_34 : decode mMo_marks.2.2.1 34 = .ok (.if_icmp .ne 8, 3) := by decide +kernel
theorem bdMo_marks_44 : decode mMo_marks.2.2.1 44 = .ok (.if_icmp .ne 8, 3) := by decide +kernel
theorem bdMo_marks_54 : decode mMo_marks.2.2.1 54 = .ok (.if_icmp .ne 8, 3) := by decide +kernel
theorem bdMo_marks_65 : decode mMo_marks.2.2.1 65 = .ok (.invokevirtual 249, 3) := by decide +kernel
theorem bdMo_marks_79 : decode mMo_marks.2.2.1 79 = .ok (.ifCond .eq 13, 3) := by decide +kernel
theorem bdMo_marks_89 : decode mMo_marks.2.2.1 89 = .ok (.invokevirtual 249, 3) := by decide +kernel
theorem bdMo_marks_97 : decode mMo_marks.2.2.1 97 = .ok (.if_icmp .eq 13, 3) := by decide +kernel
theorem bdMo_marks_107 : decode mMo_marks.2.2.1 107 = .ok (.invokevirtual 249, 3) := by decide +kernel
theorem bdMo_marks_110 : decode mMo_marks.2.2.1 110 = .ok (.return_, 1) := by decide +kernel
set_option maxHeartbeats 4000000 in
theorem lMo_marks {sg : zSig}  (ok : okO sg) (w0 : 0 ≤ sg 393 27) (w1 : sg 393 27 ≤ 9900) {Q : Option Value → zHp → Prop} (hq : ∀ rr h', (∃ sg', rr = none ∧ h' = zN sg' ∧ sg' = mMks (mT sg) sg ∧ okWm sg sg' (sg 393 27 + 48)) → Q rr h') : zG mMo_marks 411 Q 0 [(0, .ref 393)] [] (zN sg) := by
  have u0 := ok.1.1
  have u1 := okO_6 ok
  obtain ⟨⟨m0, m1⟩, m2, m3⟩ := mFu_or (t := mT sg) u0
  refine zlp1 (fun (s1 : zSig) => zG mMo_marks 411 Q 0 [(0, .ref 393)] [] (zN s1)) (fun (s1 : zSig) => (mFu (mT sg) sg ≤ s1 393 25) ∧ (0 ≤ s1 393 25) ∧ (s1 393 25 ≤ sg 393 25) ∧ (∀ c j, c ≠ 408 → (c ≠ 393 ∨ (j ≠ 25 ∧ j ≠ 27)) → s1 c j = sg c j) ∧ ((0 ≤ s1 393 27 ∧ s1 393 27 ≤ 9990) ∧ s1 393 27 + 4 * s1 393 25 ≤ sg 393 27 + 4 * sg 393 25) ∧ (s1 = mClT sg (s1 393 25))) (fun (s1 : zSig) => zmu (s1 393 25) 0) ?_ sg ?_
  · intro s1 hI ih
    obtain ⟨i1, i0, i2, cf, il, iz⟩ := hI
    have hT : mT s1 = mT sg := by unfold mT; rw [cf 393 16 (by decide) (by decide), cf 393 17 (by decide) (by decide), cf 393 18 (by decide) (by decide)]
    have hH : ∀ k, mHs (mT s1) s1 k = mHs (mT sg) sg k := fun k => by rw [hT]; exact mHs_c (cf 406 k (by decide) (Or.inl (by decide))) (cf 407 k (by decide) (Or.inl (by decide)))
    refine zG_run bkMo_marks_0 (lv' := [(0, .ref 393)]) (st' := [.ref 393]) (h' := zN s1) (Ps := []) rfl trivial ?_
    refine zG_callv (a := 393) (c := 10) (As := []) (rest := []) (N2 := 411) bdMo_marks_1 okMo_hasAll lk10_243 (And.intro (by decide) (by decide)) (by decide) rfl rfl rfl (Nat.le_of_ble_eq_true rfl) (Nat.le_of_ble_eq_true rfl) (Nat.le_refl 411) (Nat.le_refl 411) zob_393 (cMo_hasAll (by lia) (by lia)) ?_
    rintro rr h' ⟨va, rfl, rfl, hva⟩ -
    refine zb_ifne (tgt := 14) bkMo_marks_4 bdMo_marks_4 (by decide) (lv' := [(0, .ref 393)]) (st' := []) (h' := zN s1) (x := va) (Ps := []) rfl trivial (fun c1 => ?_) (fun c1 => ?_)
    · skip
      have hmf : s1 393 25 = mFu (mT sg) sg := by
        rcases hva with ⟨-, q⟩ | ⟨q, -⟩
        · rcases (by lia : mFu (mT sg) sg < s1 393 25 ∨ mFu (mT sg) sg = s1 393 25) with g | g
          · have := q _ m0 g; rw [hH] at this; exact absurd this (m3 (by lia))
          · exact g.symm
        · exfalso; lia
      have es1 : s1 = mClT sg (mFu (mT sg) sg) := by rw [← hmf]; exact iz
      have ks1 : okWm sg s1 (sg 393 27 + 24) := ⟨okO_cl ok i0 i2 (fun j => cf 406 j (by decide) (Or.inl (by decide))), fun c j h1 h2 h3 h4 => cf c j h3 h4, by lia, by lia⟩
      have fs1 := hT
      refine zb_icge (tgt := 75) bkMo_marks_14 bdMo_marks_19 (by decide) (lv' := [(1, .int 1), (0, .ref 393)]) (st' := []) (h' := zN s1) (x := 1) (y := 16) (Ps := []) rfl trivial (fun c2 => ?_) (fun c2 => ?_)
      · exact absurd c2 (by decide)
      · skip
        have hx1 : s1 393 16 = sg 393 16 := by have q := fs1; unfold mT at q; simp only [Prod.mk.injEq] at q; exact q.1
        have Kx1 : ∀ (x1 : zSig), (x1 = mOo (decide (¬ sg 393 16 &&& 1 = 0)) 98 0 s1) → zG mMo_marks 411 Q 68 [(1, .int 1), (0, .ref 393)] [] (zN x1) := by
          intro x1 ex1
          have kx1 : okWm sg x1 (sg 393 27 + 28) := by have q := okWm_oo (q := decide (¬ sg 393 16 &&& 1 = 0)) (c := 98) (d := 0) (by lia) (by lia) (by decide) ks1; rw [show sg 393 27 + 24 + 4 = sg 393 27 + 28 by grind] at q; rw [ex1]; exact q
          have fx1 : mT x1 = mT sg := by unfold mT; rw [kx1.2.1 393 16 (by decide) (by decide) (by decide) (by decide), kx1.2.1 393 17 (by decide) (by decide) (by decide) (by decide), kx1.2.1 393 18 (by decide) (by decide) (by decide) (by decide)]
          refine zb_icge (tgt := 75) bkMo_marks_68 bdMo_marks_19 (by decide) (lv' := [(1, .int 2), (0, .ref 393)]) (st' := []) (h' := zN x1) (x := 2) (y := 16) (Ps := []) rfl trivial (fun c3 => ?_) (fun c3 => ?_)
          · exact absurd c3 (by decide)
          · skip
            have hx2 : x1 393 16 = sg 393 16 := by have q := fx1; unfold mT at q; simp only [Prod.mk.injEq] at q; exact q.1
            have Kx2 : ∀ (x2 : zSig), (x2 = mOo (decide (¬ sg 393 16 &&& 2 = 0)) 105 0 x1) → zG mMo_marks 411 Q 68 [(1, .int 2), (0, .ref 393)] [] (zN x2) := by
              intro x2 ex2
              have kx2 : okWm sg x2 (sg 393 27 + 32) := by have q := okWm_oo (q := decide (¬ sg 393 16 &&& 2 = 0)) (c := 105) (d := 0) (by lia) (by lia) (by decide) kx1; rw [show sg 393 27 + 28 + 4 = sg 393 27 + 32 by grind] at q; rw [ex2]; exact q
              have fx2 : mT x2 = mT sg := by unfold mT; rw [kx2.2.1 393 16 (by decide) (by decide) (by decide) (by decide), kx2.2.1 393 17 (by decide) (by decide) (by decide) (by decide), kx2.2.1 393 18 (by decide) (by decide) (by decide) (by decide)]
              refine zb_icge (tgt := 75) bkMo_marks_68 bdMo_marks_19 (by decide) (lv' := [(1, .int 4), (0, .ref 393)]) (st' := []) (h' := zN x2) (x := 4) (y := 16) (Ps := []) rfl trivial (fun c4 => ?_) (fun c4 => ?_)
              · exact absurd c4 (by decide)
              · skip
                have hx4 : x2 393 16 = sg 393 16 := by have q := fx2; unfold mT at q; simp only [Prod.mk.injEq] at q; exact q.1
                have Kx4 : ∀ (x4 : zSig), (x4 = mOo (decide (¬ sg 393 16 &&& 4 = 0)) 117 0 x2) → zG mMo_marks 411 Q 68 [(1, .int 4), (0, .ref 393)] [] (zN x4) := by
                  intro x4 ex4
                  have kx4 : okWm sg x4 (sg 393 27 + 36) := by have q := okWm_oo (q := decide (¬ sg 393 16 &&& 4 = 0)) (c := 117) (d := 0) (by lia) (by lia) (by decide) kx2; rw [show sg 393 27 + 32 + 4 = sg 393 27 + 36 by grind] at q; rw [ex4]; exact q
                  have fx4 : mT x4 = mT sg := by unfold mT; rw [kx4.2.1 393 16 (by decide) (by decide) (by decide) (by decide), kx4.2.1 393 17 (by decide) (by decide) (by decide) (by decide), kx4.2.1 393 18 (by decide) (by decide) (by decide) (by decide)]
                  refine zb_icge (tgt := 75) bkMo_marks_68 bdMo_marks_19 (by decide) (lv' := [(1, .int 8), (0, .ref 393)]) (st' := []) (h' := zN x4) (x := 8) (y := 16) (Ps := []) rfl trivial (fun c5 => ?_) (fun c5 => ?_)
                  · exact absurd c5 (by decide)
                  · skip
                    have hx8 : x4 393 16 = sg 393 16 := by have q := fx4; unfold mT at q; simp only [Prod.mk.injEq] at q; exact q.1
                    have Kx8 : ∀ (x8 : zSig), (x8 = mOo (decide (¬ sg 393 16 &&& 8 = 0)) 115 0 x4) → zG mMo_marks 411 Q 68 [(1, .int 8), (0, .ref 393)] [] (zN x8) := by
                      intro x8 ex8
                      have kx8 : okWm sg x8 (sg 393 27 + 40) := by have q := okWm_oo (q := decide (¬ sg 393 16 &&& 8 = 0)) (c := 115) (d := 0) (by lia) (by lia) (by decide) kx4; rw [show sg 393 27 + 36 + 4 = sg 393 27 + 40 by grind] at q; rw [ex8]; exact q
                      have fx8 : mT x8 = mT sg := by unfold mT; rw [kx8.2.1 393 16 (by decide) (by decide) (by decide) (by decide), kx8.2.1 393 17 (by decide) (by decide) (by decide) (by decide), kx8.2.1 393 18 (by decide) (by decide) (by decide) (by decide)]
                      refine zb_icge (tgt := 75) bkMo_marks_68 bdMo_marks_19 (by decide) (lv' := [(1, .int 16), (0, .ref 393)]) (st' := []) (h' := zN x8) (x := 16) (y := 16) (Ps := []) rfl trivial (fun c6 => ?_) (fun c6 => ?_)
                      · skip
                        have hxc : x8 393 17 = sg 393 17 := by have q := fx8; unfold mT at q; simp only [Prod.mk.injEq] at q; exact q.2.1
                        have Kxc : ∀ (xc : zSig), (xc = mOo (decide (¬ sg 393 17 = 0)) 99 (sg 393 17) x8) → zG mMo_marks 411 Q 92 [(1, .int 16), (0, .ref 393)] [] (zN xc) := by
                          intro xc exc
                          have kxc : okWm sg xc (sg 393 27 + 44) := by have q := okWm_oo (q := decide (¬ sg 393 17 = 0)) (c := 99) (d := sg 393 17) (by lia) (by lia) (by decide) kx8; rw [show sg 393 27 + 40 + 4 = sg 393 27 + 44 by grind] at q; rw [exc]; exact q
                          have fxc : mT xc = mT sg := by unfold mT; rw [kxc.2.1 393 16 (by decide) (by decide) (by decide) (by decide), kxc.2.1 393 17 (by decide) (by decide) (by decide) (by decide), kxc.2.1 393 18 (by decide) (by decide) (by decide) (by decide)]
                          have hxz : xc 393 18 = sg 393 18 := by have q := fxc; unfold mT at q; simp only [Prod.mk.injEq] at q; exact q.2.2
                          have Kxz : ∀ (xz : zSig), (xz = mOo (decide (¬ sg 393 18 = 4)) 122 (sg 393 18) xc) → zG mMo_marks 411 Q 110 [(1, .int 16), (0, .ref 393)] [] (zN xz) := by
                            intro xz exz
                            have kxz : okWm sg xz (sg 393 27 + 48) := by have q := okWm_oo (q := decide (¬ sg 393 18 = 4)) (c := 122) (d := sg 393 18) (by lia) (by lia) (by decide) kxc; rw [show sg 393 27 + 44 + 4 = sg 393 27 + 48 by grind] at q; rw [exz]; exact q
                            have fxz : mT xz = mT sg := by unfold mT; rw [kxz.2.1 393 16 (by decide) (by decide) (by decide) (by decide), kxz.2.1 393 17 (by decide) (by decide) (by decide) (by decide), kxz.2.1 393 18 (by decide) (by decide) (by decide) (by decide)]
                            refine zb_vret bkMo_marks_110 bdMo_marks_110 rfl (h' := zN xz) (Ps := []) rfl trivial rfl ?_
                            refine hq _ _ ?_
                            refine ⟨xz, rfl, rfl, ?_, kxz⟩
                            rw [exz, exc, ex8, ex4, ex2, ex1, es1]; rfl
                          refine zb_iceq (tgt := 110) bkMo_marks_92 bdMo_marks_97 (by decide) (lv' := [(1, .int 16), (0, .ref 393)]) (st' := []) (h' := zN xc) (x := xc 393 18) (y := 4) (Ps := [zOb (zN xc) 393 10]) rfl (zA zob_393 trivial) (fun c7 => ?_) (fun c7 => ?_)
                          · skip
                            refine Kxz _ ?_
                            unfold mOo; rw [if_neg (by rw [decide_eq_true_eq, ← hxz]; exact fun q => q (by assumption))]
                          · skip
                            refine zG_run bkMo_marks_100 (lv' := [(1, .int 16), (0, .ref 393)]) (st' := [.int (xc 393 18), .int 122, .ref 393]) (h' := zN xc) (Ps := [zOb (zN xc) 393 10]) rfl (zA zob_393 trivial) ?_
                            refine zG_callv (a := 393) (c := 10) (As := [.int 122, .int (xc 393 18)]) (rest := []) (N2 := 411) bdMo_marks_107 okMo_opens lk10_249 (And.intro (by decide) (by decide)) (by decide) rfl rfl rfl (Nat.le_of_ble_eq_true rfl) (Nat.le_of_ble_eq_true rfl) (Nat.le_refl 411) (Nat.le_refl 411) zob_393 (cMo_opens (c := 122) (d := xc 393 18) kxc.1 (by decide) kxc.2.2.1 (by have := kxc.2.2.2; lia)) ?_
                            rintro rr h' ⟨rfl, rfl⟩ -
                            refine Kxz _ ?_
                            unfold mOo; rw [if_pos (by rw [decide_eq_true_eq, ← hxz]; assumption)]; rw [hxz]
                        refine zb_ifeq (tgt := 92) bkMo_marks_75 bdMo_marks_79 (by decide) (lv' := [(1, .int 16), (0, .ref 393)]) (st' := []) (h' := zN x8) (x := x8 393 17) (Ps := [zOb (zN x8) 393 10]) rfl (zA zob_393 trivial) (fun c8 => ?_) (fun c8 => ?_)
                        · skip
                          refine Kxc _ ?_
                          unfold mOo; rw [if_neg (by rw [decide_eq_true_eq, ← hxc]; exact fun q => q (by assumption))]
                        · skip
                          refine zG_run bkMo_marks_82 (lv' := [(1, .int 16), (0, .ref 393)]) (st' := [.int (x8 393 17), .int 99, .ref 393]) (h' := zN x8) (Ps := [zOb (zN x8) 393 10]) rfl (zA zob_393 trivial) ?_
                          refine zG_callv (a := 393) (c := 10) (As := [.int 99, .int (x8 393 17)]) (rest := []) (N2 := 411) bdMo_marks_89 okMo_opens lk10_249 (And.intro (by decide) (by decide)) (by decide) rfl rfl rfl (Nat.le_of_ble_eq_true rfl) (Nat.le_of_ble_eq_true rfl) (Nat.le_refl 411) (Nat.le_refl 411) zob_393 (cMo_opens (c := 99) (d := x8 393 17) kx8.1 (by decide) kx8.2.2.1 (by have := kx8.2.2.2; lia)) ?_
                          rintro rr h' ⟨rfl, rfl⟩ -
                          refine Kxc _ ?_
                          unfold mOo; rw [if_pos (by rw [decide_eq_true_eq, ← hxc]; assumption)]; rw [hxc]
                      · exact absurd c6 (by decide)
                    refine zb_ifeq (tgt := 68) bkMo_marks_22 bdMo_marks_28 (by decide) (lv' := [(1, .int 8), (0, .ref 393)]) (st' := []) (h' := zN x4) (x := (x4 393 16) &&& 8) (Ps := [zOb (zN x4) 393 10]) rfl (zA zob_393 trivial) (fun c9 => ?_) (fun c9 => ?_)
                    · skip
                      refine Kx8 _ ?_
                      unfold mOo; rw [if_neg (by rw [decide_eq_true_eq, ← hx8]; exact fun q => q (by assumption))]
                    · skip
                      refine zb_icne (tgt := 42) bkMo_marks_31 bdMo_marks_34 (by decide) (lv' := [(1, .int 8), (0, .ref 393)]) (st' := [.ref 393]) (h' := zN x4) (x := 8) (y := 1) (Ps := []) rfl trivial (fun c10 => ?_) (fun c10 => ?_)
                      · skip
                        refine zb_icne (tgt := 52) bkMo_marks_42 bdMo_marks_44 (by decide) (lv' := [(1, .int 8), (0, .ref 393)]) (st' := [.ref 393]) (h' := zN x4) (x := 8) (y := 2) (Ps := []) rfl trivial (fun c11 => ?_) (fun c11 => ?_)
                        · skip
                          refine zb_icne (tgt := 62) bkMo_marks_52 bdMo_marks_54 (by decide) (lv' := [(1, .int 8), (0, .ref 393)]) (st' := [.ref 393]) (h' := zN x4) (x := 8) (y := 4) (Ps := []) rfl trivial (fun c12 => ?_) (fun c12 => ?_)
                          · skip
                            refine zG_run bkMo_marks_62 (lv' := [(1, .int 8), (0, .ref 393)]) (st' := [.int 0, .int 115, .ref 393]) (h' := zN x4) (Ps := []) rfl trivial ?_
                            refine zG_callv (a := 393) (c := 10) (As := [.int 115, .int 0]) (rest := []) (N2 := 411) bdMo_marks_65 okMo_opens lk10_249 (And.intro (by decide) (by decide)) (by decide) rfl rfl rfl (Nat.le_of_ble_eq_true rfl) (Nat.le_of_ble_eq_true rfl) (Nat.le_refl 411) (Nat.le_refl 411) zob_393 (cMo_opens (c := 115) (d := 0) kx4.1 (by decide) kx4.2.2.1 (by have := kx4.2.2.2; lia)) ?_
                            rintro rr h' ⟨rfl, rfl⟩ -
                            refine Kx8 _ ?_
                            unfold mOo; rw [if_pos (by rw [decide_eq_true_eq, ← hx8]; assumption)]
                          · exact absurd c12 (by decide)
                        · exact absurd c11 (by decide)
                      · exact absurd c10 (by decide)
                refine zb_ifeq (tgt := 68) bkMo_marks_22 bdMo_marks_28 (by decide) (lv' := [(1, .int 4), (0, .ref 393)]) (st' := []) (h' := zN x2) (x := (x2 393 16) &&& 4) (Ps := [zOb (zN x2) 393 10]) rfl (zA zob_393 trivial) (fun c13 => ?_) (fun c13 => ?_)
                · skip
                  refine Kx4 _ ?_
                  unfold mOo; rw [if_neg (by rw [decide_eq_true_eq, ← hx4]; exact fun q => q (by assumption))]
                · skip
                  refine zb_icne (tgt := 42) bkMo_marks_31 bdMo_marks_34 (by decide) (lv' := [(1, .int 4), (0, .ref 393)]) (st' := [.ref 393]) (h' := zN x2) (x := 4) (y := 1) (Ps := []) rfl trivial (fun c14 => ?_) (fun c14 => ?_)
                  · skip
                    refine zb_icne (tgt := 52) bkMo_marks_42 bdMo_marks_44 (by decide) (lv' := [(1, .int 4), (0, .ref 393)]) (st' := [.ref 393]) (h' := zN x2) (x := 4) (y := 2) (Ps := []) rfl trivial (fun c15 => ?_) (fun c15 => ?_)
                    · skip
                      refine zb_icne (tgt := 62) bkMo_marks_52 bdMo_marks_54 (by decide) (lv' := [(1, .int 4), (0, .ref 393)]) (st' := [.ref 393]) (h' := zN x2) (x := 4) (y := 4) (Ps := []) rfl trivial (fun c16 => ?_) (fun c16 => ?_)
                      · exact absurd c16 (by decide)
                      · skip
                        refine zG_run bkMo_marks_57 (lv' := [(1, .int 4), (0, .ref 393)]) (st' := [.int 0, .int 117, .ref 393]) (h' := zN x2) (Ps := []) rfl trivial ?_
                        refine zG_callv (a := 393) (c := 10) (As := [.int 117, .int 0]) (rest := []) (N2 := 411) bdMo_marks_65 okMo_opens lk10_249 (And.intro (by decide) (by decide)) (by decide) rfl rfl rfl (Nat.le_of_ble_eq_true rfl) (Nat.le_of_ble_eq_true rfl) (Nat.le_refl 411) (Nat.le_refl 411) zob_393 (cMo_opens (c := 117) (d := 0) kx2.1 (by decide) kx2.2.2.1 (by have := kx2.2.2.2; lia)) ?_
                        rintro rr h' ⟨rfl, rfl⟩ -
                        refine Kx4 _ ?_
                        unfold mOo; rw [if_pos (by rw [decide_eq_true_eq, ← hx4]; assumption)]
                    · exact absurd c15 (by decide)
                  · exact absurd c14 (by decide)
            refine zb_ifeq (tgt := 68) bkMo_marks_22 bdMo_marks_28 (by decide) (lv' := [(1, .int 2), (0, .ref 393)]) (st' := []) (h' := zN x1) (x := (x1 393 16) &&& 2) (Ps := [zOb (zN x1) 393 10]) rfl (zA zob_393 trivial) (fun c17 => ?_) (fun c17 => ?_)
            · skip
              refine Kx2 _ ?_
              unfold mOo; rw [if_neg (by rw [decide_eq_true_eq, ← hx2]; exact fun q => q (by assumption))]
            · skip
              refine zb_icne (tgt := 42) bkMo_marks_31 bdMo_marks_34 (by decide) (lv' := [(1, .int 2), (0, .ref 393)]) (st' := [.ref 393]) (h' := zN x1) (x := 2) (y := 1) (Ps := []) rfl trivial (fun c18 => ?_) (fun c18 => ?_)
              · skip
                refine zb_icne (tgt := 52) bkMo_marks_42 bdMo_marks_44 (by decide) (lv' := [(1, .int 2), (0, .ref 393)]) (st' := [.ref 393]) (h' := zN x1) (x := 2) (y := 2) (Ps := []) rfl trivial (fun c19 => ?_) (fun c19 => ?_)
                · exact absurd c19 (by decide)
                · skip
                  refine zG_run bkMo_marks_47 (lv' := [(1, .int 2), (0, .ref 393)]) (st' := [.int 0, .int 105, .ref 393]) (h' := zN x1) (Ps := []) rfl trivial ?_
                  refine zG_callv (a := 393) (c := 10) (As := [.int 105, .int 0]) (rest := []) (N2 := 411) bdMo_marks_65 okMo_opens lk10_249 (And.intro (by decide) (by decide)) (by decide) rfl rfl rfl (Nat.le_of_ble_eq_true rfl) (Nat.le_of_ble_eq_true rfl) (Nat.le_refl 411) (Nat.le_refl 411) zob_393 (cMo_opens (c := 105) (d := 0) kx1.1 (by decide) kx1.2.2.1 (by have := kx1.2.2.2; lia)) ?_
                  rintro rr h' ⟨rfl, rfl⟩ -
                  refine Kx2 _ ?_
                  unfold mOo; rw [if_pos (by rw [decide_eq_true_eq, ← hx2]; assumption)]
              · exact absurd c18 (by decide)
        refine zb_ifeq (tgt := 68) bkMo_marks_22 bdMo_marks_28 (by decide) (lv' := [(1, .int 1), (0, .ref 393)]) (st' := []) (h' := zN s1) (x := (s1 393 16) &&& 1) (Ps := [zOb (zN s1) 393 10]) rfl (zA zob_393 trivial) (fun c20 => ?_) (fun c20 => ?_)
        · skip
          refine Kx1 _ ?_
          unfold mOo; rw [if_neg (by rw [decide_eq_true_eq, ← hx1]; exact fun q => q (by assumption))]
        · skip
          refine zb_icne (tgt := 42) bkMo_marks_31 bdMo_marks_34 (by decide) (lv' := [(1, .int 1), (0, .ref 393)]) (st' := [.ref 393]) (h' := zN s1) (x := 1) (y := 1) (Ps := []) rfl trivial (fun c21 => ?_) (fun c21 => ?_)
          · exact absurd c21 (by decide)
          · skip
            refine zG_run bkMo_marks_37 (lv' := [(1, .int 1), (0, .ref 393)]) (st' := [.int 0, .int 98, .ref 393]) (h' := zN s1) (Ps := []) rfl trivial ?_
            refine zG_callv (a := 393) (c := 10) (As := [.int 98, .int 0]) (rest := []) (N2 := 411) bdMo_marks_65 okMo_opens lk10_249 (And.intro (by decide) (by decide)) (by decide) rfl rfl rfl (Nat.le_of_ble_eq_true rfl) (Nat.le_of_ble_eq_true rfl) (Nat.le_refl 411) (Nat.le_refl 411) zob_393 (cMo_opens (c := 98) (d := 0) ks1.1 (by decide) ks1.2.2.1 (by have := ks1.2.2.2; lia)) ?_
            rintro rr h' ⟨rfl, rfl⟩ -
            refine Kx1 _ ?_
            unfold mOo; rw [if_pos (by rw [decide_eq_true_eq, ← hx1]; assumption)]
    · skip
      have hlt : mFu (mT sg) sg < s1 393 25 := by
        rcases hva with ⟨q, -⟩ | ⟨-, j, j0, j1, hj⟩
        · exfalso; lia
        · rw [hH] at hj
          rcases (by lia : mFu (mT sg) sg < s1 393 25 ∨ mFu (mT sg) sg = s1 393 25) with q | q
          · exact q
          · rw [m2 j j0 (by lia)] at hj; exact absurd hj (by decide)
      refine zG_run bkMo_marks_7 (lv' := [(0, .ref 393)]) (st' := [.ref 393]) (h' := zN s1) (Ps := []) rfl trivial ?_
      refine zG_callv (a := 393) (c := 10) (As := []) (rest := []) (N2 := 411) bdMo_marks_8 okMo_closes lk10_246 (And.intro (by decide) (by decide)) (by decide) rfl rfl rfl (Nat.le_of_ble_eq_true rfl) (Nat.le_of_ble_eq_true rfl) (Nat.le_refl 411) (Nat.le_refl 411) zob_393 (cMo_closes (by lia) (by lia) (by lia) (by lia)) ?_
      rintro rr h' ⟨rfl, rfl⟩ -
      refine zG_run bkMo_marks_11 (lv' := [(0, .ref 393)]) (st' := []) (h' := zN (hCl s1)) (Ps := []) rfl trivial ?_
      refine ih (hCl s1) ?_ ?_
      · refine ⟨?_, ?_, ?_, ?_, ?_, ?_⟩
        · rw [cl25]; lia
        · rw [cl25]; lia
        · rw [cl25]; lia
        · intro c j h1 h2; rw [clf h1 h2]; exact cf c j h1 h2
        · rw [cl25, cl27]; lia
        · rw [cl25]; unfold mClT; rw [zmu_dn (by lia) i2]; show hCl s1 = hCl (zitN (fun _ => hCl) sg _); congr 1
      · rw [cl25]; exact zmu_down (by lia)
  · refine ⟨?_, ?_, ?_, ?_, ?_, ?_⟩
    · lia
    · lia
    · lia
    · intro c j _ _; rfl
    · lia
    · unfold mClT; rw [zmu_self]; rfl
theorem cMo_marks {sg : zSig}  (ok : okO sg) (w0 : 0 ≤ sg 393 27) (w1 : sg 393 27 ≤ 9900) : zG mMo_marks 411 (fun rr h' => ∃ sg', rr = none ∧ h' = zN sg' ∧ sg' = mMks (mT sg) sg ∧ okWm sg sg' (sg 393 27 + 48)) 0 [(0, .ref 393)] [] (zN sg) := lMo_marks ok w0 w1 (fun _ _ q => q)
def hSt (t : z3) (sg : zSig) : zSig := zup (zup (zup sg 393 16 t.1) 393 17 t.2.1) 393 18 t.2.2
theorem hSt_T {t : z3} {sg : zSig} : mT (hSt t sg) = t := by
  unfold mT hSt; rw [zup_i (by decide), zup_i (by decide), zup_s, zup_i (by decide), zup_s, zup_s]
theorem hSt_f {t : z3} {sg : zSig} {c : Nat} {j : Int32} (h : c ≠ 393 ∨ (j ≠ 16 ∧ j ≠ 17 ∧ j ≠ 18)) : hSt t sg c j = sg c j := by
  unfold hSt
  rw [zup_e, if_neg (by rintro ⟨q1, q2⟩; exact h.elim (fun g => g q1) (fun g => g.2.2 q2)), zup_e, if_neg (by rintro ⟨q1, q2⟩; exact h.elim (fun g => g q1) (fun g => g.2.1 q2)), zup_e, if_neg (by rintro ⟨q1, q2⟩; exact h.elim (fun g => g q1) (fun g => g.1 q2))]
theorem hSt_is {s s' : zSig} {t : z3} (h : mFr s s') (ht : mT s' = t) : s' = hSt t s := by
  funext c j
  by_cases hc : c ≠ 393 ∨ (j ≠ 16 ∧ j ≠ 17 ∧ j ≠ 18)
  · rw [hSt_f hc]; exact h c j hc
  · have hc1 : c = 393 := Classical.not_not.mp (fun q => hc (Or.inl q))
    subst hc1
    have e := hSt_T (t := t) (sg := s)
    rw [← ht] at e
    unfold mT at e
    simp only [Prod.mk.injEq] at e
    by_cases h1 : j = 16
    · rw [h1]; rw [← ht]; exact e.1.symm
    · by_cases h2 : j = 17
      · rw [h2]; rw [← ht]; exact e.2.1.symm
      · by_cases h3 : j = 18
        · rw [h3]; rw [← ht]; exact e.2.2.symm
        · exact absurd (Or.inr ⟨h1, h2, h3⟩) hc
def mWst (sg : zSig) (i : Int32) (s : zSig) : zSig := hPu (mMks (mS sg (-1) i) (hSt (mS sg (-1) i) s)) (sg 395 (3 + 4 * i))
def mWI (sg : zSig) : zSig := zup (zup sg 393 27 0) 393 25 0
def mWl (sg : zSig) : zSig := zit (mWst sg) (mWI sg) (sg 395 0)
def mWall (sg : zSig) : zSig := mClT (mWl sg) 0
theorem mQ_cl {sg s s' : zSig} (h : mQ sg s) (hf : ∀ c j, c ≠ 408 → (c ≠ 393 ∨ (j ≠ 25 ∧ j ≠ 27)) → s' c j = s c j) : mQ sg s' := fun c j h1 h2 h3 h4 h5 h6 => by
  rw [hf c j h3 (h6.elim Or.inl (fun q => Or.inr ⟨q.2.2.2.1, q.2.2.2.2.1⟩))]; exact h c j h1 h2 h3 h4 h5 h6
theorem bkMo_writes_0 : zBk mMo_writes 0 [(1, 0, 1, 0, 0), (0, 0, 0, 0, 0), (6, 10, 27, 0, 27), (1, 0, 1, 0, 0), (0, 0, 0, 0, 0), (6, 10, 25, 0, 25), (0, 0, 0, 0, 0), (2, 1, 0, 0, 0)] = some 12 := by decide +kernel
theorem bkMo_writes_12 : zBk mMo_writes 12 [(1, 1, 0, 0, 0), (1, 0, 1, 0, 0), (5, 10, 3, 2, 3), (0, 0, 0, 0, 0), (7, 0, 0, 0, 0)] = some 19 := by decide +kernel
theorem bkMo_writes_51 : zBk mMo_writes 51 [(1, 0, 1, 0, 0), (5, 10, 25, 0, 25)] = some 55 := by decide +kernel
theorem bkMo_writes_65 : zBk mMo_writes 65 [] = some 65 := by decide +kernel
theorem bkMo_writes_58 : zBk mMo_writes 58 [(1, 0, 1, 0, 0)] = some 59 := by decide +kernel
theorem bkMo_writes_62 : zBk mMo_writes 62 [(22, 51, 0, 0, 0)] = some 51 := by decide +kernel
theorem bkMo_writes_22 : zBk mMo_writes 22 [(1, 0, 1, 0, 0), (1, 1, 0, 0, 0), (0, 0, 0, 0, -1)] = some 25 := by decide +kernel
theorem bkMo_writes_28 : zBk mMo_writes 28 [(1, 0, 1, 0, 0)] = some 29 := by decide +kernel
theorem bkMo_writes_32 : zBk mMo_writes 32 [(1, 0, 1, 0, 0), (1, 0, 1, 0, 0), (5, 10, 3, 2, 3), (1, 1, 0, 0, 0)] = some 38 := by decide +kernel
theorem bkMo_writes_41 : zBk mMo_writes 41 [(7, 0, 0, 0, 0)] = some 42 := by decide +kernel
theorem bkMo_writes_45 : zBk mMo_writes 45 [(3, 1, 0, 0, 1), (22, 12, 0, 0, 0)] = some 12 := by decide +kernel
theorem bdMo_writes_19 : decode mMo_writes.2.2.1 19 = .ok (.if_icmp .ge 32, 3) := by decide +kernel
theorem bdMo_writes_25 : decode mMo_writes.2.2.1 25 = .ok (.invokevirtual 196, 3) := by decide +kernel
theorem bdMo_writes_29 : decode mMo_writes.2.2.1 29 = .ok (.invokevirtual 252, 3) := by decide +kernel
theorem bdMo_writes_38 : decode mMo_writes.2.2.1 38 = .ok (.invokestatic 141, 3) := by decide +kernel
theorem bdMo_writes_42 : decode mMo_writes.2.2.1 42 = .ok (.invokevirtual 237, 3) := by decide +kernel
theorem bdMo_writes_55 : decode mMo_writes.2.2.1 55 = .ok (.ifCond .le 10, 3) := by decide +kernel
theorem bdMo_writes_59 : decode mMo_writes.2.2.1 59 = .ok (.invokevirtual 246, 3) := by decide +kernel
theorem bdMo_writes_65 : decode mMo_writes.2.2.1 65 = .ok (.return_, 1) := by decide +kernel
set_option maxHeartbeats 4000000 in
theorem lMo_writes {sg : zSig}  (n0 : 0 ≤ sg 395 0) (n2 : sg 395 0 ≤ 200) (g0 : 0 ≤ sg 395 1) (g1 : sg 395 1 ≤ 16) {Q : Option Value → zHp → Prop} (hq : ∀ rr h', (∃ sg', rr = none ∧ h' = zN sg' ∧ sg' = mWall sg ∧ mQ sg sg' ∧ 0 ≤ sg' 393 27 ∧ sg' 393 27 ≤ 10000) → Q rr h') : zG mMo_writes 411 Q 0 [(0, .ref 393)] [] (zN sg) := by
  refine zG_run bkMo_writes_0 (lv' := [(1, .int 0), (0, .ref 393)]) (st' := []) (h' := zN (zup (zup sg 393 27 0) 393 25 0)) (Ps := [zOb (zN sg) 393 10, zOb (zN (zup sg 393 27 0)) 393 10]) rfl (zA zob_393 (zA zob_393 trivial)) ?_
  refine zG_pick (lv' := [(0, .ref 393), (1, .int 0)]) [1, 0] rfl ?_
  refine zlp2 (fun (i : Int32) (s1 : zSig) => zG mMo_writes 411 Q 12 [(0, .ref 393), (1, .int i)] [] (zN s1)) (fun (i : Int32) (s1 : zSig) => (0 ≤ i) ∧ (i ≤ sg 395 0) ∧ (okO s1) ∧ (mQ sg s1) ∧ (0 ≤ s1 393 27 ∧ s1 393 27 ≤ 49 * i) ∧ (s1 = zit (mWst sg) (mWI sg) i)) (fun (i : Int32) (s1 : zSig) => zmu (sg 395 0) i) ?_ 0 (zup (zup sg 393 27 0) 393 25 0) ?_
  · intro i s1 hI ih
    obtain ⟨i0, i1, io, iq, il, iz⟩ := hI
    have kr := mQ_row iq
    have ke0 : s1 395 0 = sg 395 0 := congrFun kr 0
    have ke1 : s1 395 1 = sg 395 1 := congrFun kr 1
    have u25 := okO_6 io
    have u250 := io.1.1
    refine zb_icge (tgt := 51) bkMo_writes_12 bdMo_writes_19 (by decide) (lv' := [(0, .ref 393), (1, .int i)]) (st' := []) (h' := zN s1) (x := i) (y := s1 395 0) (Ps := [zOb (zN s1) 393 10 ∧ (zN s1).2.2 393 3 = true, zInL (zN s1) 395 0]) rfl (zA ⟨zob_393, rfl⟩ (zA (zinL_395 (i := 0) (by decide) (by decide)) trivial)) (fun c1 => ?_) (fun c1 => ?_)
    · skip
      refine zG_pick (lv' := [(0, .ref 393)]) [0] rfl ?_
      refine zlp1 (fun (sC : zSig) => zG mMo_writes 411 Q 51 [(0, .ref 393)] [] (zN sC)) (fun (sC : zSig) => (0 ≤ sC 393 25) ∧ (sC 393 25 ≤ s1 393 25) ∧ (∀ c j, c ≠ 408 → (c ≠ 393 ∨ (j ≠ 25 ∧ j ≠ 27)) → sC c j = s1 c j) ∧ ((0 ≤ sC 393 27 ∧ sC 393 27 ≤ 9990) ∧ sC 393 27 + 4 * sC 393 25 ≤ s1 393 27 + 4 * s1 393 25) ∧ (sC = mClT s1 (sC 393 25))) (fun (sC : zSig) => zmu (sC 393 25) 0) ?_ s1 ?_
      · intro sC hC ihC
        obtain ⟨i0_, i2_, cf_, il_, iz_⟩ := hC
        refine zb_ifle (tgt := 65) bkMo_writes_51 bdMo_writes_55 (by decide) (lv' := [(0, .ref 393)]) (st' := []) (h' := zN sC) (x := sC 393 25) (Ps := [zOb (zN sC) 393 10]) rfl (zA zob_393 trivial) (fun c2 => ?_) (fun c2 => ?_)
        · skip
          refine zb_vret bkMo_writes_65 bdMo_writes_65 rfl (h' := zN sC) (Ps := []) rfl trivial rfl ?_
          refine hq _ _ ?_
          have ei : i = sg 395 0 := by lia
          have e0 : sC 393 25 = 0 := by lia
          rw [e0, iz, ei] at iz_
          refine ⟨sC, rfl, rfl, iz_, mQ_cl iq cf_, ?_⟩
          lia
        · skip
          refine zG_run bkMo_writes_58 (lv' := [(0, .ref 393)]) (st' := [.ref 393]) (h' := zN sC) (Ps := []) rfl trivial ?_
          refine zG_callv (a := 393) (c := 10) (As := []) (rest := []) (N2 := 411) bdMo_writes_59 okMo_closes lk10_246 (And.intro (by decide) (by decide)) (by decide) rfl rfl rfl (Nat.le_of_ble_eq_true rfl) (Nat.le_of_ble_eq_true rfl) (Nat.le_refl 411) (Nat.le_refl 411) zob_393 (cMo_closes (by lia) (by lia) (by lia) (by lia)) ?_
          rintro rr h' ⟨rfl, rfl⟩ -
          refine zG_run bkMo_writes_62 (lv' := [(0, .ref 393)]) (st' := []) (h' := zN (hCl sC)) (Ps := []) rfl trivial ?_
          refine ihC (hCl sC) ?_ ?_
          · refine ⟨?_, ?_, ?_, ?_, ?_⟩
            · rw [cl25]; lia
            · rw [cl25]; lia
            · intro c j h1 h2; rw [clf h1 h2]; exact cf_ c j h1 h2
            · rw [cl25, cl27]; lia
            · rw [cl25]; unfold mClT; rw [zmu_dn (by lia) i2_]; show hCl sC = hCl (zitN (fun _ => hCl) s1 _); congr 1
          · rw [cl25]; exact zmu_down (by lia)
      · refine ⟨?_, ?_, ?_, ?_, ?_⟩
        · lia
        · lia
        · intro c j _ _; rfl
        · lia
        · unfold mClT; rw [zmu_self]; rfl
    · skip
      refine zG_run bkMo_writes_22 (lv' := [(0, .ref 393), (1, .int i)]) (st' := [.int (-1), .int i, .ref 393]) (h' := zN s1) (Ps := []) rfl trivial ?_
      refine zG_callv (a := 393) (c := 10) (As := [.int i, .int (-1)]) (rest := []) (N2 := 411) bdMo_writes_25 okMo_takeStyle lk10_196 (And.intro (by decide) (by decide)) (by decide) rfl rfl rfl (Nat.le_of_ble_eq_true rfl) (Nat.le_of_ble_eq_true rfl) (Nat.le_refl 411) (Nat.le_refl 411) zob_393 (cMo_takeStyle (i := i) (but := (-1)) (by lia) (by lia) (by lia) (by lia)) ?_
      rintro rr h' ⟨s2, rfl, rfl, hf2, ht2⟩ -
      rw [mS_row kr] at ht2
      have e2 := hSt_is hf2 ht2
      have z25 : s2 393 25 = s1 393 25 := hf2 393 25 (by decide)
      have z27 : s2 393 27 = s1 393 27 := hf2 393 27 (by decide)
      have z6 : ∀ j, s2 406 j = s1 406 j := fun j => hf2 406 j (Or.inl (by decide))
      have ok2 : okO s2 := okO_cl io (by rw [z25]; exact io.1.1) (by rw [z25]; exact Int32.le_refl _) z6
      refine zG_run bkMo_writes_28 (lv' := [(0, .ref 393), (1, .int i)]) (st' := [.ref 393]) (h' := zN s2) (Ps := []) rfl trivial ?_
      refine zG_callv (a := 393) (c := 10) (As := []) (rest := []) (N2 := 411) bdMo_writes_29 okMo_marks lk10_252 (And.intro (by decide) (by decide)) (by decide) rfl rfl rfl (Nat.le_of_ble_eq_true rfl) (Nat.le_of_ble_eq_true rfl) (Nat.le_refl 411) (Nat.le_refl 411) zob_393 (cMo_marks ok2 (by lia) (by lia)) ?_
      rintro rr h' ⟨s3, rfl, rfl, e3, k3⟩ -
      rw [ht2, e2] at e3
      have q3 : mQ sg s3 := fun c j h1 h2 h3 h4 h5 h6 => by rw [k3.2.1 c j h1 h2 h3 (h6.elim Or.inl (fun q => Or.inr ⟨q.2.2.2.1, q.2.2.2.2.1⟩)), hf2 c j (h6.elim Or.inl (fun q => Or.inr ⟨q.1, q.2.1, q.2.2.1⟩))]; exact iq c j h1 h2 h3 h4 h5 h6
      have l3 := k3.2.2.2
      have l30 := k3.2.2.1
      have er : s3 395 (3 + 4 * i) = sg 395 (3 + 4 * i) := congrFun (mQ_row q3) _
      refine zG_run bkMo_writes_32 (lv' := [(0, .ref 393), (1, .int i)]) (st' := [.int i, .ref 395, .ref 393]) (h' := zN s3) (Ps := [zOb (zN s3) 393 10 ∧ (zN s3).2.2 393 3 = true]) rfl (zA ⟨zob_393, rfl⟩ trivial) ?_
      refine zG_calls (As := [.int i]) (rest := [.ref 395, .ref 393]) (N2 := 411) bdMo_writes_38 okMo_letterAt lk10_141 (And.intro (by decide) (by decide)) rfl rfl (Nat.le_of_ble_eq_true rfl) (Nat.le_of_ble_eq_true rfl) (Nat.le_refl 411) (Nat.le_refl 411) cMo_letterAt ?_
      rintro rr h' ⟨rfl, rfl⟩ -
      refine zG_run bkMo_writes_41 (lv' := [(0, .ref 393), (1, .int i)]) (st' := [.int (s3 395 (3 + 4 * i)), .ref 393]) (h' := zN s3) (Ps := [zInL (zN s3) 395 (3 + 4 * i)]) rfl (zA (zinL_395 (i := 3 + 4 * i) (by (try simp only [pu27]); lia) (by (try simp only [pu27]); lia)) trivial) ?_
      refine zG_callv (a := 393) (c := 10) (As := [.int (s3 395 (3 + 4 * i))]) (rest := []) (N2 := 411) bdMo_writes_42 okMo_put lk10_237 (And.intro (by decide) (by decide)) (by decide) rfl rfl rfl (Nat.le_of_ble_eq_true rfl) (Nat.le_of_ble_eq_true rfl) (Nat.le_refl 411) (Nat.le_refl 411) zob_393 (cMo_put (v := s3 395 (3 + 4 * i)) (by (try simp only [pu25, pu27, pu6, pu7]); lia) (by (try simp only [pu25, pu27, pu6, pu7]); lia)) ?_
      rintro rr h' ⟨rfl, rfl⟩ -
      refine zG_run bkMo_writes_45 (lv' := [(1, .int (i + 1)), (0, .ref 393)]) (st' := []) (h' := zN (hPu s3 (s3 395 (3 + 4 * i)))) (Ps := []) rfl trivial ?_
      refine zG_pick (lv' := [(0, .ref 393), (1, .int (i + 1))]) [1, 0] rfl ?_
      refine ih (i + 1) (hPu s3 (s3 395 (3 + 4 * i))) ?_ ?_
      · refine ⟨?_, ?_, ?_, ?_, ?_, ?_⟩
        · lia
        · lia
        · exact okO_cl k3.1 (by rw [pu25]; exact k3.1.1.1) (by rw [pu25]; exact Int32.le_refl _) (fun j => pu6)
        · intro c j h1 h2 h3 h4 h5 h6; rw [puf h3 (h6.elim Or.inl (fun q => Or.inr q.2.2.2.2.1))]; exact q3 c j h1 h2 h3 h4 h5 h6
        · rw [pu27]; lia
        · rw [zit_s _ _ i0 (by lia : i < sg 395 0), ← iz, er, e3]; rfl
      · exact zmu_up (by lia)
  · refine ⟨?_, ?_, ?_, ?_, ?_, ?_⟩
    · lia
    · lia
    · refine ⟨?_, fun j j0 j1 => ?_, fun a b a0 ab b1 => ?_⟩
      · rw [zup_s]; decide
      · rw [zup_s] at j1; exfalso; lia
      · rw [zup_s] at b1; exfalso; lia
    · intro c j h1 h2 h3 h4 h5 h6; rw [zup_e, if_neg (by clear hq; grind), zup_e, if_neg (by clear hq; grind)]
    · rw [zup_i (by decide), zup_s]; decide
    · rw [zit_0]; rfl
theorem cMo_writes {sg : zSig}  (n0 : 0 ≤ sg 395 0) (n2 : sg 395 0 ≤ 200) (g0 : 0 ≤ sg 395 1) (g1 : sg 395 1 ≤ 16) : zG mMo_writes 411 (fun rr h' => ∃ sg', rr = none ∧ h' = zN sg' ∧ sg' = mWall sg ∧ mQ sg sg' ∧ 0 ≤ sg' 393 27 ∧ sg' 393 27 ≤ 10000) 0 [(0, .ref 393)] [] (zN sg) := lMo_writes n0 n2 g0 g1 (fun _ _ q => q)
