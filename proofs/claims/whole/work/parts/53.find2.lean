/-! found, with the place's bound: printed by wip/whole/p53.py -/
def qFs2 (sg : zSig) (f m g c lo hi v : Int32) : Prop := (v = -1 ∧ (¬ (0 ≤ f ∧ f ≤ sg 1 2) ∨ sg 34 1 = 0)) ∨ ((0 ≤ f ∧ f ≤ sg 1 2) ∧ sg 34 1 ≠ 0 ∧ (((f ≤ v ∧ v ≤ sg 1 2) ∧ v + sg 34 1 ≤ sg 1 2 ∧ stdB sg m g c lo hi v ∧ ∀ p, f ≤ p → p < v → ¬ stdB sg m g c lo hi p) ∨ (v = -1 ∧ ∀ p, f ≤ p → p ≤ sg 1 2 → p + sg 34 1 ≤ sg 1 2 → ¬ stdB sg m g c lo hi p)))
theorem lSR_firstStand2 {sg : zSig} {f m g c lo hi : Int32} (ob : okS sg 1) (h0 : 0 ≤ sg 36 2) (h1 : sg 36 2 < 8) (u0 : 0 ≤ sg 36 3) (u1 : sg 36 3 ≤ 8) (hf : okF sg) (t0 : 0 ≤ sg 34 1) (t1 : sg 34 1 ≤ 400) {Q : Option Value → zHp → Prop} (hq : ∀ rr h', (∃ v sg', rr = some (.int v) ∧ h' = zN sg' ∧ hQ sg sg' ∧ qFs2 sg f m g c lo hi v) → Q rr h') : zG mSR_firstStand 411 Q 0 [(0, .ref 0), (1, .int f), (2, .int m), (3, .int g), (4, .int c), (5, .int lo), (6, .int hi)] [] (zN sg) := by
  obtain ⟨⟨n0, n1⟩, ⟨g0, g1⟩, ⟨a0, a1⟩, -⟩ := id ob
  refine zG_run bkSR_firstStand_0 (lv' := [(0, .ref 0), (1, .int f), (2, .int m), (3, .int g), (4, .int c), (5, .int lo), (6, .int hi)]) (st' := [.int f, .ref 1]) (h' := zN sg) (Ps := [zOb (zN sg) 0 9 ∧ (zN sg).2.2 0 0 = true]) rfl (zA ⟨zob_0, rfl⟩ trivial) ?_
  refine zG_callv (a := 1) (c := 5) (As := [.int f]) (rest := []) (N2 := 411) bdSR_firstStand_5 okShe_hasPlace lk9_85 (And.intro (by decide) (by decide)) (by decide) rfl rfl rfl (Nat.le_of_ble_eq_true rfl) (Nat.le_of_ble_eq_true rfl) (Nat.le_refl 411) (Nat.le_refl 411) zob_1 (cShe_hasPlace zob_1) ?_
  rintro rr h' ⟨rfl, rfl⟩ -
  refine zb_ifeq (tgt := 21) bkSR_firstStand_8 bdSR_firstStand_8 (by decide) (lv' := [(0, .ref 0), (1, .int f), (2, .int m), (3, .int g), (4, .int c), (5, .int lo), (6, .int hi)]) (st' := []) (h' := zN sg) (x := if 0 ≤ f ∧ f ≤ sg 1 2 then 1 else 0) (Ps := []) rfl trivial (fun c1 => ?_) (fun c1 => ?_)
  · skip
    refine zb_iret bkSR_firstStand_21 bdSR_firstStand_22 rfl (x := (-1)) (h' := zN sg) (Ps := []) rfl trivial rfl ?_
    refine hq _ _ ?_
    exact ⟨_, _, rfl, rfl, hQ_refl hf, Or.inl ⟨rfl, by lia⟩⟩
  · skip
    refine zb_ifne (tgt := 23) bkSR_firstStand_11 bdSR_firstStand_18 (by decide) (lv' := [(0, .ref 0), (1, .int f), (2, .int m), (3, .int g), (4, .int c), (5, .int lo), (6, .int hi)]) (st' := []) (h' := zN sg) (x := sg 34 1) (Ps := [zOb (zN sg) 0 9 ∧ (zN sg).2.2 0 1 = true, zOb (zN sg) 34 7]) rfl (zA ⟨zob_0, rfl⟩ (zA zob_34 trivial)) (fun c2 => ?_) (fun c2 => ?_)
    · skip
      refine zG_run bkSR_firstStand_23 (lv' := [(0, .ref 0), (1, .int f), (2, .int m), (3, .int g), (4, .int c), (5, .int lo), (6, .int hi)]) (st' := [.ref 0]) (h' := zN sg) (Ps := []) rfl trivial ?_
      refine zG_callv (a := 0) (c := 9) (As := []) (rest := []) (N2 := 411) bdSR_firstStand_24 okSR_looksNow lk9_184 (And.intro (by decide) (by decide)) (by decide) rfl rfl rfl (Nat.le_of_ble_eq_true rfl) (Nat.le_of_ble_eq_true rfl) (Nat.le_refl 411) (Nat.le_refl 411) zob_0 (cSR_looksNow ob hf) ?_
      rintro rr h' ⟨sg0, rfl, rfl, hl⟩ -
      have hq0 : hQ sg sg0 := hLk_Q ob hl
      have fl := hQ_s hq0
      have y2 : sg0 1 2 = sg 1 2 := fl 1 2 (by decide) (by decide)
      have y4 : sg0 1 4 = sg 1 4 := fl 1 4 (by decide) (by decide)
      have y6 : sg0 1 6 = sg 1 6 := fl 1 6 (by decide) (by decide)
      have yt : sg0 34 1 = sg 34 1 := fl 34 1 (by decide) (by decide)
      have l3 : sg0 313 1 = sg 1 2 := hl.2.2.1
      have ts : ∀ j, 0 ≤ j → j < sg 1 2 → sg0 314 j = nS sg j := hl.2.2.2
      refine zG_run bkSR_firstStand_27 (lv' := [(8, .int f), (7, .ref 313), (0, .ref 0), (1, .int f), (2, .int m), (3, .int g), (4, .int c), (5, .int lo), (6, .int hi)]) (st' := []) (h' := zN sg0) (Ps := []) rfl trivial ?_
      refine zG_pick (lv' := [(0, .ref 0), (1, .int f), (2, .int m), (3, .int g), (4, .int c), (5, .int lo), (6, .int hi), (7, .ref 313), (8, .int f)]) [2, 3, 4, 5, 6, 7, 8, 1, 0] rfl ?_
      refine zlp1 (fun (p : Int32) => zG mSR_firstStand 411 Q 32 [(0, .ref 0), (1, .int f), (2, .int m), (3, .int g), (4, .int c), (5, .int lo), (6, .int hi), (7, .ref 313), (8, .int p)] [] (zN sg0)) (fun (p : Int32) => (f ≤ p) ∧ (p ≤ sg 1 2) ∧ (∀ q, f ≤ q → q < p → ¬ stdB sg m g c lo hi q)) (fun (p : Int32) => zmu (sg 1 2) p) ?_ f ?_
      · intro p ho iho
        obtain ⟨p0, p1, pn⟩ := ho
        refine zb_icgt (tgt := 174) bkSR_firstStand_32 bdSR_firstStand_49 (by decide) (lv' := [(0, .ref 0), (1, .int f), (2, .int m), (3, .int g), (4, .int c), (5, .int lo), (6, .int hi), (7, .ref 313), (8, .int p)]) (st' := []) (h' := zN sg0) (x := p + (sg0 34 1)) (y := sg0 1 2) (Ps := [zOb (zN sg0) 0 9 ∧ (zN sg0).2.2 0 1 = true, zOb (zN sg0) 34 7, zOb (zN sg0) 0 9 ∧ (zN sg0).2.2 0 0 = true, zOb (zN sg0) 1 5]) rfl (zA ⟨zob_0, rfl⟩ (zA zob_34 (zA ⟨zob_0, rfl⟩ (zA zob_1 trivial)))) (fun c3 => ?_) (fun c3 => ?_)
        · skip
          refine zb_iret bkSR_firstStand_174 bdSR_firstStand_175 rfl (x := (-1)) (h' := zN sg0) (Ps := []) rfl trivial rfl ?_
          refine hq _ _ ?_
          exact ⟨_, _, rfl, rfl, hq0, Or.inr ⟨by lia, by lia, Or.inr ⟨rfl, fun q q0 q1 q2 => pn q q0 (by lia)⟩⟩⟩
        · skip
          refine zG_run bkSR_firstStand_52 (lv' := [(10, .int 0), (9, .int 1), (0, .ref 0), (1, .int f), (2, .int m), (3, .int g), (4, .int c), (5, .int lo), (6, .int hi), (7, .ref 313), (8, .int p)]) (st' := []) (h' := zN sg0) (Ps := []) rfl trivial ?_
          refine zG_pick (lv' := [(0, .ref 0), (1, .int f), (2, .int m), (3, .int g), (4, .int c), (5, .int lo), (6, .int hi), (7, .ref 313), (8, .int p), (9, .int 1), (10, .int 0)]) [2, 3, 4, 5, 6, 7, 8, 9, 10, 1, 0] rfl ?_
          refine zlp2 (fun (b : Int32) (k : Int32) => zG mSR_firstStand 411 Q 58 [(0, .ref 0), (1, .int f), (2, .int m), (3, .int g), (4, .int c), (5, .int lo), (6, .int hi), (7, .ref 313), (8, .int p), (9, .int b), (10, .int k)] [] (zN sg0)) (fun (b : Int32) (k : Int32) => (0 ≤ k) ∧ (k ≤ sg 34 1) ∧ (b = 0 ∨ b = 1) ∧ (b ≠ 0 → ∀ j, 0 ≤ j → j < k → fitB sg m g c lo hi p j = true) ∧ (b = 0 → ∃ j, 0 ≤ j ∧ j < sg 34 1 ∧ fitB sg m g c lo hi p j = false)) (fun (b : Int32) (k : Int32) => zmu (sg 34 1) k) ?_ 1 0 ?_
          · intro b k hk ihk
            obtain ⟨k0, k1, kb, kt, kf⟩ := hk
            refine zb_icge (tgt := 160) bkSR_firstStand_58 bdSR_firstStand_67 (by decide) (lv' := [(0, .ref 0), (1, .int f), (2, .int m), (3, .int g), (4, .int c), (5, .int lo), (6, .int hi), (7, .ref 313), (8, .int p), (9, .int b), (10, .int k)]) (st' := []) (h' := zN sg0) (x := k) (y := sg0 34 1) (Ps := [zOb (zN sg0) 0 9 ∧ (zN sg0).2.2 0 1 = true, zOb (zN sg0) 34 7]) rfl (zA ⟨zob_0, rfl⟩ (zA zob_34 trivial)) (fun c4 => ?_) (fun c4 => ?_)
            · skip
              refine zb_ifeq (tgt := 168) bkSR_firstStand_160 bdSR_firstStand_162 (by decide) (lv' := [(0, .ref 0), (1, .int f), (2, .int m), (3, .int g), (4, .int c), (5, .int lo), (6, .int hi), (7, .ref 313), (8, .int p), (9, .int b), (10, .int k)]) (st' := []) (h' := zN sg0) (x := b) (Ps := []) rfl trivial (fun c5 => ?_) (fun c5 => ?_)
              · skip
                refine zG_run bkSR_firstStand_168 (lv' := [(8, .int (p + 1)), (0, .ref 0), (1, .int f), (2, .int m), (3, .int g), (4, .int c), (5, .int lo), (6, .int hi), (7, .ref 313), (9, .int b), (10, .int k)]) (st' := []) (h' := zN sg0) (Ps := []) rfl trivial ?_
                refine zG_pick (lv' := [(0, .ref 0), (1, .int f), (2, .int m), (3, .int g), (4, .int c), (5, .int lo), (6, .int hi), (7, .ref 313), (8, .int (p + 1))]) [1, 2, 3, 4, 5, 6, 7, 8, 0] rfl ?_
                refine iho (p + 1) ?_ ?_
                · refine ⟨?_, ?_, ?_⟩
                  · lia
                  · lia
                  · intro q q0 q1; by_cases hq1 : q = p
                    · rw [hq1]; intro hs; obtain ⟨j, j0, j1, j2⟩ := kf (by lia); rw [hs j j0 j1] at j2; exact absurd j2 (by decide)
                    · exact pn q q0 (by lia)
                · exact zmu_up (by lia)
              · skip
                refine zb_iret bkSR_firstStand_165 bdSR_firstStand_167 rfl (x := p) (h' := zN sg0) (Ps := []) rfl trivial rfl ?_
                refine hq _ _ ?_
                exact ⟨_, _, rfl, rfl, hq0, Or.inr ⟨by lia, by lia, Or.inl ⟨⟨p0, p1⟩, by lia, fun j j0 j1 => kt (by lia) j j0 (by lia), pn⟩⟩⟩
            · skip
              refine zb_ifeq (tgt := 160) bkSR_firstStand_70 bdSR_firstStand_72 (by decide) (lv' := [(0, .ref 0), (1, .int f), (2, .int m), (3, .int g), (4, .int c), (5, .int lo), (6, .int hi), (7, .ref 313), (8, .int p), (9, .int b), (10, .int k)]) (st' := []) (h' := zN sg0) (x := b) (Ps := []) rfl trivial (fun c6 => ?_) (fun c6 => ?_)
              · skip
                refine zb_ifeq (tgt := 168) bkSR_firstStand_160 bdSR_firstStand_162 (by decide) (lv' := [(0, .ref 0), (1, .int f), (2, .int m), (3, .int g), (4, .int c), (5, .int lo), (6, .int hi), (7, .ref 313), (8, .int p), (9, .int b), (10, .int k)]) (st' := []) (h' := zN sg0) (x := b) (Ps := []) rfl trivial (fun c7 => ?_) (fun c7 => ?_)
                · skip
                  refine zG_run bkSR_firstStand_168 (lv' := [(8, .int (p + 1)), (0, .ref 0), (1, .int f), (2, .int m), (3, .int g), (4, .int c), (5, .int lo), (6, .int hi), (7, .ref 313), (9, .int b), (10, .int k)]) (st' := []) (h' := zN sg0) (Ps := []) rfl trivial ?_
                  refine zG_pick (lv' := [(0, .ref 0), (1, .int f), (2, .int m), (3, .int g), (4, .int c), (5, .int lo), (6, .int hi), (7, .ref 313), (8, .int (p + 1))]) [1, 2, 3, 4, 5, 6, 7, 8, 0] rfl ?_
                  refine iho (p + 1) ?_ ?_
                  · refine ⟨?_, ?_, ?_⟩
                    · lia
                    · lia
                    · intro q q0 q1; by_cases hq1 : q = p
                      · rw [hq1]; intro hs; obtain ⟨j, j0, j1, j2⟩ := kf (by lia); rw [hs j j0 j1] at j2; exact absurd j2 (by decide)
                      · exact pn q q0 (by lia)
                  · exact zmu_up (by lia)
                · skip
                  refine zb_iret bkSR_firstStand_165 bdSR_firstStand_167 rfl (x := p) (h' := zN sg0) (Ps := []) rfl trivial rfl ?_
                  refine hq _ _ ?_
                  exact ⟨_, _, rfl, rfl, hq0, Or.inr ⟨by lia, by lia, Or.inl ⟨⟨p0, p1⟩, by lia, fun j j0 j1 => kt (by lia) j j0 (by lia), pn⟩⟩⟩
              · skip
                refine zG_run bkSR_firstStand_75 (lv' := [(11, .int (sg0 314 (p + k))), (0, .ref 0), (1, .int f), (2, .int m), (3, .int g), (4, .int c), (5, .int lo), (6, .int hi), (7, .ref 313), (8, .int p), (9, .int b), (10, .int k)]) (st' := []) (h' := zN sg0) (Ps := [zOb (zN sg0) 313 3 ∧ (zN sg0).2.2 313 0 = true, zInL (zN sg0) 314 (p + k)]) rfl (zA ⟨zob_313, rfl⟩ (zA (zinL_314 (i := p + k) (by lia) (by lia)) trivial)) ?_
                have e1 : sg0 2 (p + k) = sg 2 (p + k) := fl 2 _ (by decide) (by decide)
                have e2 : sg0 35 k = sg 35 k := fl 35 _ (by decide) (by decide)
                have e3 : sg0 314 (p + k) = nS sg (p + k) := ts _ (by lia) (by lia)
                refine zG_run bkSR_firstStand_88 (lv' := [(11, .int (sg0 314 (p + k))), (0, .ref 0), (1, .int f), (2, .int m), (3, .int g), (4, .int c), (5, .int lo), (6, .int hi), (7, .ref 313), (8, .int p), (9, .int b), (10, .int k)]) (st' := [.int (sg0 314 (p + k))]) (h' := zN sg0) (Ps := []) rfl trivial ?_
                refine zG_calls (As := [.int (sg0 314 (p + k))]) (rest := []) (N2 := 411) bdSR_firstStand_90 okSty_sizeOf lk9_257 (And.intro (by decide) (by decide)) rfl rfl (Nat.le_of_ble_eq_true rfl) (Nat.le_of_ble_eq_true rfl) (Nat.le_refl 411) (Nat.le_refl 411) cSty_sizeOf ?_
                rintro rr h' ⟨rfl, rfl⟩ -
                refine zb_icne (tgt := 151) bkSR_firstStand_93 bdSR_firstStand_118 (by decide) (lv' := [(12, .int (fSz (sg0 314 (p + k)))), (11, .int (sg0 314 (p + k))), (0, .ref 0), (1, .int f), (2, .int m), (3, .int g), (4, .int c), (5, .int lo), (6, .int hi), (7, .ref 313), (8, .int p), (9, .int b), (10, .int k)]) (st' := []) (h' := zN sg0) (x := sg0 2 (p + k)) (y := sg0 35 k) (Ps := [zOb (zN sg0) 0 9 ∧ (zN sg0).2.2 0 0 = true, zOb (zN sg0) 1 5 ∧ (zN sg0).2.2 1 0 = true, zInL (zN sg0) 2 (p + k), zOb (zN sg0) 0 9 ∧ (zN sg0).2.2 0 1 = true, zOb (zN sg0) 34 7 ∧ (zN sg0).2.2 34 0 = true, zInL (zN sg0) 35 k]) rfl (zA ⟨zob_0, rfl⟩ (zA ⟨zob_1, rfl⟩ (zA (zinL_2 (i := p + k) (by lia) (by lia)) (zA ⟨zob_0, rfl⟩ (zA ⟨zob_34, rfl⟩ (zA (zinL_35 (i := k) (by lia) (by lia)) trivial)))))) (fun c8 => ?_) (fun c8 => ?_)
                · skip
                  refine zG_run bkSR_firstStand_151 (lv' := [(10, .int (k + 1)), (9, .int 0), (12, .int (fSz (sg0 314 (p + k)))), (11, .int (sg0 314 (p + k))), (0, .ref 0), (1, .int f), (2, .int m), (3, .int g), (4, .int c), (5, .int lo), (6, .int hi), (7, .ref 313), (8, .int p)]) (st' := []) (h' := zN sg0) (Ps := []) rfl trivial ?_
                  refine zG_pick (lv' := [(0, .ref 0), (1, .int f), (2, .int m), (3, .int g), (4, .int c), (5, .int lo), (6, .int hi), (7, .ref 313), (8, .int p), (9, .int 0), (10, .int (k + 1))]) [4, 5, 6, 7, 8, 9, 10, 11, 12, 1, 0] rfl ?_
                  refine ihk 0 (k + 1) ?_ ?_
                  · refine ⟨?_, ?_, ?_, ?_, ?_⟩
                    · lia
                    · lia
                    · exact Or.inl rfl
                    · intro q; exact absurd rfl q
                    · intro _; refine ⟨k, k0, by lia, ?_⟩; unfold fitB; rw [← e3]; exact decide_eq_false (by lia)
                  · exact zmu_up (by lia)
                · skip
                  refine zG_run bkSR_firstStand_121 (lv' := [(12, .int (fSz (sg0 314 (p + k)))), (11, .int (sg0 314 (p + k))), (0, .ref 0), (1, .int f), (2, .int m), (3, .int g), (4, .int c), (5, .int lo), (6, .int hi), (7, .ref 313), (8, .int p), (9, .int b), (10, .int k)]) (st' := [.int c, .int g, .int m, .int (sg0 314 (p + k))]) (h' := zN sg0) (Ps := []) rfl trivial ?_
                  refine zG_calls (As := [.int (sg0 314 (p + k)), .int m, .int g, .int c]) (rest := []) (N2 := 411) bdSR_firstStand_127 okSty_suits lk9_289 (And.intro (by decide) (by decide)) rfl rfl (Nat.le_of_ble_eq_true rfl) (Nat.le_of_ble_eq_true rfl) (Nat.le_refl 411) (Nat.le_refl 411) cSty_suits ?_
                  rintro rr h' ⟨rfl, rfl⟩ -
                  refine zb_ifeq (tgt := 151) bkSR_firstStand_130 bdSR_firstStand_130 (by decide) (lv' := [(12, .int (fSz (sg0 314 (p + k)))), (11, .int (sg0 314 (p + k))), (0, .ref 0), (1, .int f), (2, .int m), (3, .int g), (4, .int c), (5, .int lo), (6, .int hi), (7, .ref 313), (8, .int p), (9, .int b), (10, .int k)]) (st' := []) (h' := zN sg0) (x := fSu (sg0 314 (p + k)) m g c) (Ps := []) rfl trivial (fun c9 => ?_) (fun c9 => ?_)
                  · skip
                    refine zG_run bkSR_firstStand_151 (lv' := [(10, .int (k + 1)), (9, .int 0), (12, .int (fSz (sg0 314 (p + k)))), (11, .int (sg0 314 (p + k))), (0, .ref 0), (1, .int f), (2, .int m), (3, .int g), (4, .int c), (5, .int lo), (6, .int hi), (7, .ref 313), (8, .int p)]) (st' := []) (h' := zN sg0) (Ps := []) rfl trivial ?_
                    refine zG_pick (lv' := [(0, .ref 0), (1, .int f), (2, .int m), (3, .int g), (4, .int c), (5, .int lo), (6, .int hi), (7, .ref 313), (8, .int p), (9, .int 0), (10, .int (k + 1))]) [4, 5, 6, 7, 8, 9, 10, 11, 12, 1, 0] rfl ?_
                    refine ihk 0 (k + 1) ?_ ?_
                    · refine ⟨?_, ?_, ?_, ?_, ?_⟩
                      · lia
                      · lia
                      · exact Or.inl rfl
                      · intro q; exact absurd rfl q
                      · intro _; refine ⟨k, k0, by lia, ?_⟩; unfold fitB; rw [← e3]; exact decide_eq_false (by lia)
                    · exact zmu_up (by lia)
                  · skip
                    refine zb_icgt (tgt := 151) bkSR_firstStand_133 bdSR_firstStand_137 (by decide) (lv' := [(12, .int (fSz (sg0 314 (p + k)))), (11, .int (sg0 314 (p + k))), (0, .ref 0), (1, .int f), (2, .int m), (3, .int g), (4, .int c), (5, .int lo), (6, .int hi), (7, .ref 313), (8, .int p), (9, .int b), (10, .int k)]) (st' := []) (h' := zN sg0) (x := lo) (y := fSz (sg0 314 (p + k))) (Ps := []) rfl trivial (fun c10 => ?_) (fun c10 => ?_)
                    · skip
                      refine zG_run bkSR_firstStand_151 (lv' := [(10, .int (k + 1)), (9, .int 0), (12, .int (fSz (sg0 314 (p + k)))), (11, .int (sg0 314 (p + k))), (0, .ref 0), (1, .int f), (2, .int m), (3, .int g), (4, .int c), (5, .int lo), (6, .int hi), (7, .ref 313), (8, .int p)]) (st' := []) (h' := zN sg0) (Ps := []) rfl trivial ?_
                      refine zG_pick (lv' := [(0, .ref 0), (1, .int f), (2, .int m), (3, .int g), (4, .int c), (5, .int lo), (6, .int hi), (7, .ref 313), (8, .int p), (9, .int 0), (10, .int (k + 1))]) [4, 5, 6, 7, 8, 9, 10, 11, 12, 1, 0] rfl ?_
                      refine ihk 0 (k + 1) ?_ ?_
                      · refine ⟨?_, ?_, ?_, ?_, ?_⟩
                        · lia
                        · lia
                        · exact Or.inl rfl
                        · intro q; exact absurd rfl q
                        · intro _; refine ⟨k, k0, by lia, ?_⟩; unfold fitB; rw [← e3]; exact decide_eq_false (by lia)
                      · exact zmu_up (by lia)
                    · skip
                      refine zb_icgt (tgt := 151) bkSR_firstStand_140 bdSR_firstStand_144 (by decide) (lv' := [(12, .int (fSz (sg0 314 (p + k)))), (11, .int (sg0 314 (p + k))), (0, .ref 0), (1, .int f), (2, .int m), (3, .int g), (4, .int c), (5, .int lo), (6, .int hi), (7, .ref 313), (8, .int p), (9, .int b), (10, .int k)]) (st' := []) (h' := zN sg0) (x := fSz (sg0 314 (p + k))) (y := hi) (Ps := []) rfl trivial (fun c11 => ?_) (fun c11 => ?_)
                      · skip
                        refine zG_run bkSR_firstStand_151 (lv' := [(10, .int (k + 1)), (9, .int 0), (12, .int (fSz (sg0 314 (p + k)))), (11, .int (sg0 314 (p + k))), (0, .ref 0), (1, .int f), (2, .int m), (3, .int g), (4, .int c), (5, .int lo), (6, .int hi), (7, .ref 313), (8, .int p)]) (st' := []) (h' := zN sg0) (Ps := []) rfl trivial ?_
                        refine zG_pick (lv' := [(0, .ref 0), (1, .int f), (2, .int m), (3, .int g), (4, .int c), (5, .int lo), (6, .int hi), (7, .ref 313), (8, .int p), (9, .int 0), (10, .int (k + 1))]) [4, 5, 6, 7, 8, 9, 10, 11, 12, 1, 0] rfl ?_
                        refine ihk 0 (k + 1) ?_ ?_
                        · refine ⟨?_, ?_, ?_, ?_, ?_⟩
                          · lia
                          · lia
                          · exact Or.inl rfl
                          · intro q; exact absurd rfl q
                          · intro _; refine ⟨k, k0, by lia, ?_⟩; unfold fitB; rw [← e3]; exact decide_eq_false (by lia)
                        · exact zmu_up (by lia)
                      · skip
                        refine zG_run bkSR_firstStand_147 (lv' := [(10, .int (k + 1)), (9, .int 1), (12, .int (fSz (sg0 314 (p + k)))), (11, .int (sg0 314 (p + k))), (0, .ref 0), (1, .int f), (2, .int m), (3, .int g), (4, .int c), (5, .int lo), (6, .int hi), (7, .ref 313), (8, .int p)]) (st' := []) (h' := zN sg0) (Ps := []) rfl trivial ?_
                        refine zG_pick (lv' := [(0, .ref 0), (1, .int f), (2, .int m), (3, .int g), (4, .int c), (5, .int lo), (6, .int hi), (7, .ref 313), (8, .int p), (9, .int 1), (10, .int (k + 1))]) [4, 5, 6, 7, 8, 9, 10, 11, 12, 1, 0] rfl ?_
                        refine ihk 1 (k + 1) ?_ ?_
                        · refine ⟨?_, ?_, ?_, ?_, ?_⟩
                          · lia
                          · lia
                          · exact Or.inr rfl
                          · intro _ j j0 j1; by_cases hj : j = k
                            · rw [hj]; unfold fitB; rw [← e3]; exact decide_eq_true ⟨by lia, by lia, by lia, by lia⟩
                            · exact kt (by lia) j j0 (by lia)
                          · intro q; exact absurd q (by decide)
                        · exact zmu_up (by lia)
          · refine ⟨?_, ?_, ?_, ?_, ?_⟩
            · lia
            · lia
            · exact Or.inr rfl
            · intro _ j j0 j1; exfalso; lia
            · intro q; exact absurd q (by decide)
      · refine ⟨?_, ?_, ?_⟩
        · lia
        · lia
        · intro q q0 q1; exfalso; lia
    · skip
      refine zb_iret bkSR_firstStand_21 bdSR_firstStand_22 rfl (x := (-1)) (h' := zN sg) (Ps := []) rfl trivial rfl ?_
      refine hq _ _ ?_
      exact ⟨_, _, rfl, rfl, hQ_refl hf, Or.inl ⟨rfl, by lia⟩⟩
theorem cSR_firstStand2 {sg : zSig} {f m g c lo hi : Int32} (ob : okS sg 1) (h0 : 0 ≤ sg 36 2) (h1 : sg 36 2 < 8) (u0 : 0 ≤ sg 36 3) (u1 : sg 36 3 ≤ 8) (hf : okF sg) (t0 : 0 ≤ sg 34 1) (t1 : sg 34 1 ≤ 400) : zG mSR_firstStand 411 (fun rr h' => ∃ v sg', rr = some (.int v) ∧ h' = zN sg' ∧ hQ sg sg' ∧ qFs2 sg f m g c lo hi v) 0 [(0, .ref 0), (1, .int f), (2, .int m), (3, .int g), (4, .int c), (5, .int lo), (6, .int hi)] [] (zN sg) := lSR_firstStand2 ob h0 h1 u0 u1 hf t0 t1 (fun _ _ q => q)
theorem cSR_find2 {sg : zSig} {f : Int32} (ob : okS sg 1) (h0 : 0 ≤ sg 36 2) (h1 : sg 36 2 < 8) (u0 : 0 ≤ sg 36 3) (u1 : sg 36 3 ≤ 8) (hf : okF sg) (t0 : 0 ≤ sg 34 1) (t1 : sg 34 1 ≤ 400) : zG mSR_find 411 (fun rr h' => ∃ v sg', rr = some (.int v) ∧ h' = zN sg' ∧ hQ sg sg' ∧ qFs2 sg f 0 0 (-1) 0 9 v) 0 [(0, .ref 0), (1, .int f)] [] (zN sg) := by
  obtain ⟨⟨n0, n1⟩, ⟨g0, g1⟩, ⟨a0, a1⟩, -⟩ := id ob
  refine zG_run bkSR_find_0 (lv' := [(0, .ref 0), (1, .int f)]) (st' := [.int 9, .int 0, .int (-1), .int 0, .int 0, .int f, .ref 0]) (h' := zN sg) (Ps := []) rfl trivial ?_
  refine zG_callv (a := 0) (c := 9) (As := [.int f, .int 0, .int 0, .int (-1), .int 0, .int 9]) (rest := []) (N2 := 411) bdSR_find_8 okSR_firstStand lk9_281 (And.intro (by decide) (by decide)) (by decide) rfl rfl rfl (Nat.le_of_ble_eq_true rfl) (Nat.le_of_ble_eq_true rfl) (Nat.le_refl 411) (Nat.le_refl 411) zob_0 (cSR_firstStand2 ob h0 h1 u0 u1 hf t0 t1) ?_
  rintro rr h' ⟨vq, sgq, rfl, rfl, hqq, hv⟩ -
  refine zb_iret bkSR_find_11 bdSR_find_11 rfl (x := vq) (h' := zN sgq) (Ps := []) rfl trivial rfl ?_
  exact ⟨_, _, rfl, rfl, hqq, hv⟩
theorem cSR_findBy2 {sg : zSig} {f m g c lo hi : Int32} (ob : okS sg 1) (h0 : 0 ≤ sg 36 2) (h1 : sg 36 2 < 8) (u0 : 0 ≤ sg 36 3) (u1 : sg 36 3 ≤ 8) (hf : okF sg) (t0 : 0 ≤ sg 34 1) (t1 : sg 34 1 ≤ 400) : zG mSR_findBy 411 (fun rr h' => ∃ v sg', rr = some (.int v) ∧ h' = zN sg' ∧ hQ sg sg' ∧ ((¬ (((0 ≤ lo ∧ lo ≤ 9) ∧ 0 ≤ hi ∧ hi ≤ 9) ∧ (0 ≤ m ∧ m ≤ 15) ∧ (0 ≤ g ∧ g ≤ 15) ∧ (c = -1 ∨ (0 ≤ c ∧ c ≤ 7))) ∧ v = -1) ∨ ((((0 ≤ lo ∧ lo ≤ 9) ∧ 0 ≤ hi ∧ hi ≤ 9) ∧ (0 ≤ m ∧ m ≤ 15) ∧ (0 ≤ g ∧ g ≤ 15) ∧ (c = -1 ∨ (0 ≤ c ∧ c ≤ 7))) ∧ qFs2 sg f m g c lo hi v))) 0 [(0, .ref 0), (1, .int f), (2, .int m), (3, .int g), (4, .int c), (5, .int lo), (6, .int hi)] [] (zN sg) := by
  obtain ⟨⟨n0, n1⟩, ⟨g0, g1⟩, ⟨a0, a1⟩, -⟩ := id ob
  refine zG_run bkSR_findBy_0 (lv' := [(0, .ref 0), (1, .int f), (2, .int m), (3, .int g), (4, .int c), (5, .int lo), (6, .int hi)]) (st' := [.int 9, .int lo]) (h' := zN sg) (Ps := []) rfl trivial ?_
  refine zG_calls (As := [.int lo, .int 9]) (rest := []) (N2 := 411) bdSR_findBy_4 okSR_isWithin lk9_126 (And.intro (by decide) (by decide)) rfl rfl (Nat.le_of_ble_eq_true rfl) (Nat.le_of_ble_eq_true rfl) (Nat.le_refl 411) (Nat.le_refl 411) cSR_isWithin ?_
  rintro rr h' ⟨rfl, rfl⟩ -
  refine zb_ifeq (tgt := 24) bkSR_findBy_7 bdSR_findBy_7 (by decide) (lv' := [(0, .ref 0), (1, .int f), (2, .int m), (3, .int g), (4, .int c), (5, .int lo), (6, .int hi)]) (st' := []) (h' := zN sg) (x := if 0 ≤ lo ∧ lo ≤ 9 then 1 else 0) (Ps := []) rfl trivial (fun c1 => ?_) (fun c1 => ?_)
  · skip
    refine zb_ifeq (tgt := 42) bkSR_findBy_24 bdSR_findBy_29 (by decide) (lv' := [(7, .int 0), (0, .ref 0), (1, .int f), (2, .int m), (3, .int g), (4, .int c), (5, .int lo), (6, .int hi)]) (st' := []) (h' := zN sg) (x := 0) (Ps := []) rfl trivial (fun c2 => ?_) (fun c2 => ?_)
    · skip
      refine zb_iret bkSR_findBy_42 bdSR_findBy_43 rfl (x := (-1)) (h' := zN sg) (Ps := []) rfl trivial rfl ?_
      exact ⟨_, _, rfl, rfl, hQ_refl hf, Or.inl ⟨by grind, rfl⟩⟩
    · exact absurd c2 (by decide)
  · skip
    refine zG_run bkSR_findBy_10 (lv' := [(0, .ref 0), (1, .int f), (2, .int m), (3, .int g), (4, .int c), (5, .int lo), (6, .int hi)]) (st' := [.int 9, .int hi]) (h' := zN sg) (Ps := []) rfl trivial ?_
    refine zG_calls (As := [.int hi, .int 9]) (rest := []) (N2 := 411) bdSR_findBy_14 okSR_isWithin lk9_126 (And.intro (by decide) (by decide)) rfl rfl (Nat.le_of_ble_eq_true rfl) (Nat.le_of_ble_eq_true rfl) (Nat.le_refl 411) (Nat.le_refl 411) cSR_isWithin ?_
    rintro rr h' ⟨rfl, rfl⟩ -
    refine zb_ifeq (tgt := 24) bkSR_findBy_17 bdSR_findBy_17 (by decide) (lv' := [(0, .ref 0), (1, .int f), (2, .int m), (3, .int g), (4, .int c), (5, .int lo), (6, .int hi)]) (st' := []) (h' := zN sg) (x := if 0 ≤ hi ∧ hi ≤ 9 then 1 else 0) (Ps := []) rfl trivial (fun c3 => ?_) (fun c3 => ?_)
    · skip
      refine zb_ifeq (tgt := 42) bkSR_findBy_24 bdSR_findBy_29 (by decide) (lv' := [(7, .int 0), (0, .ref 0), (1, .int f), (2, .int m), (3, .int g), (4, .int c), (5, .int lo), (6, .int hi)]) (st' := []) (h' := zN sg) (x := 0) (Ps := []) rfl trivial (fun c4 => ?_) (fun c4 => ?_)
      · skip
        refine zb_iret bkSR_findBy_42 bdSR_findBy_43 rfl (x := (-1)) (h' := zN sg) (Ps := []) rfl trivial rfl ?_
        exact ⟨_, _, rfl, rfl, hQ_refl hf, Or.inl ⟨by grind, rfl⟩⟩
      · exact absurd c4 (by decide)
    · skip
      refine zb_ifeq (tgt := 42) bkSR_findBy_20 bdSR_findBy_29 (by decide) (lv' := [(7, .int 1), (0, .ref 0), (1, .int f), (2, .int m), (3, .int g), (4, .int c), (5, .int lo), (6, .int hi)]) (st' := []) (h' := zN sg) (x := 1) (Ps := []) rfl trivial (fun c5 => ?_) (fun c5 => ?_)
      · exact absurd c5 (by decide)
      · skip
        refine zG_run bkSR_findBy_32 (lv' := [(7, .int 1), (0, .ref 0), (1, .int f), (2, .int m), (3, .int g), (4, .int c), (5, .int lo), (6, .int hi)]) (st' := [.int c, .int g, .int m]) (h' := zN sg) (Ps := []) rfl trivial ?_
        refine zG_calls (As := [.int m, .int g, .int c]) (rest := []) (N2 := 411) bdSR_findBy_36 okSR_isFilter lk9_285 (And.intro (by decide) (by decide)) rfl rfl (Nat.le_of_ble_eq_true rfl) (Nat.le_of_ble_eq_true rfl) (Nat.le_refl 411) (Nat.le_refl 411) cSR_isFilter ?_
        rintro rr h' ⟨rfl, rfl⟩ -
        refine zb_ifne (tgt := 44) bkSR_findBy_39 bdSR_findBy_39 (by decide) (lv' := [(7, .int 1), (0, .ref 0), (1, .int f), (2, .int m), (3, .int g), (4, .int c), (5, .int lo), (6, .int hi)]) (st' := []) (h' := zN sg) (x := if (0 ≤ m ∧ m ≤ 15) ∧ (0 ≤ g ∧ g ≤ 15) ∧ (c = -1 ∨ (0 ≤ c ∧ c ≤ 7)) then 1 else 0) (Ps := []) rfl trivial (fun c6 => ?_) (fun c6 => ?_)
        · skip
          refine zG_run bkSR_findBy_44 (lv' := [(7, .int 1), (0, .ref 0), (1, .int f), (2, .int m), (3, .int g), (4, .int c), (5, .int lo), (6, .int hi)]) (st' := [.int hi, .int lo, .int c, .int g, .int m, .int f, .ref 0]) (h' := zN sg) (Ps := []) rfl trivial ?_
          refine zG_callv (a := 0) (c := 9) (As := [.int f, .int m, .int g, .int c, .int lo, .int hi]) (rest := []) (N2 := 411) bdSR_findBy_54 okSR_firstStand lk9_281 (And.intro (by decide) (by decide)) (by decide) rfl rfl rfl (Nat.le_of_ble_eq_true rfl) (Nat.le_of_ble_eq_true rfl) (Nat.le_refl 411) (Nat.le_refl 411) zob_0 (cSR_firstStand2 ob h0 h1 u0 u1 hf t0 t1) ?_
          rintro rr h' ⟨vq, sgq, rfl, rfl, hqq, hv⟩ -
          refine zb_iret bkSR_findBy_57 bdSR_findBy_57 rfl (x := vq) (h' := zN sgq) (Ps := []) rfl trivial rfl ?_
          exact ⟨_, _, rfl, rfl, hqq, Or.inr ⟨by grind, hv⟩⟩
        · skip
          refine zb_iret bkSR_findBy_42 bdSR_findBy_43 rfl (x := (-1)) (h' := zN sg) (Ps := []) rfl trivial rfl ?_
          exact ⟨_, _, rfl, rfl, hQ_refl hf, Or.inl ⟨by grind, rfl⟩⟩
def qSy2 (sg : zSig) (f m g c w v : Int32) : Prop := (v = -1 ∧ ∀ i, f ≤ i → i < sg 1 2 → ¬ suB sg m g c i) ∨ ∃ a, (f ≤ a ∧ a < sg 1 2 ∧ suB sg m g c a ∧ ∀ i, f ≤ i → i < a → ¬ suB sg m g c i) ∧ (w = 0 → v = a) ∧ (w = 1 → (1 ≤ v ∧ v ≤ 200) ∧ a + v ≤ sg 1 2 ∧ (∀ i, a ≤ i → i < a + v → suB sg m g c i) ∧ (a + v = sg 1 2 ∨ ¬ suB sg m g c (a + v))) ∧ (w = 2 → v = zit (nSu sg f m g c) 0 (sg 1 2))
def mYd2 (T : Int32 → Prop) (f n w v : Int32) : Prop := (v = -1 ∧ ∀ i, f ≤ i → i < n → ¬ T i) ∨ ∃ a, (f ≤ a ∧ a < n ∧ T a ∧ ∀ i, f ≤ i → i < a → ¬ T i) ∧ (w = 0 → v = a) ∧ (w = 1 → (1 ≤ v ∧ v ≤ 200) ∧ a + v ≤ n ∧ (∀ i, a ≤ i → i < a + v → T i) ∧ (a + v = n ∨ ¬ T (a + v))) ∧ (w = 2 → ∃ F, iNu T a n v F)
theorem lSR_styled2 {sg : zSig} {f m g c w : Int32} (ob : okS sg 1) (h0 : 0 ≤ sg 36 2) (h1 : sg 36 2 < 8) (u0 : 0 ≤ sg 36 3) (u1 : sg 36 3 ≤ 8) (hf : okF sg) {Q : Option Value → zHp → Prop} (hq : ∀ rr h', (∃ v sg', rr = some (.int v) ∧ h' = zN sg' ∧ hQ sg sg' ∧ ((¬ (((0 ≤ f ∧ f < sg 1 2) ∧ ((0 ≤ m ∧ m ≤ 15) ∧ (0 ≤ g ∧ g ≤ 15) ∧ (c = -1 ∨ (0 ≤ c ∧ c ≤ 7)))) ∧ 0 ≤ w ∧ w ≤ 2) ∧ v = -1) ∨ ((((0 ≤ f ∧ f < sg 1 2) ∧ ((0 ≤ m ∧ m ≤ 15) ∧ (0 ≤ g ∧ g ≤ 15) ∧ (c = -1 ∨ (0 ≤ c ∧ c ≤ 7)))) ∧ 0 ≤ w ∧ w ≤ 2) ∧ qSy2 sg f m g c w v))) → Q rr h') : zG mSR_styled 411 Q 0 [(0, .ref 0), (1, .int f), (2, .int m), (3, .int g), (4, .int c), (5, .int w)] [] (zN sg) := by
  obtain ⟨⟨n0, n1⟩, ⟨g0, g1⟩, ⟨a0, a1⟩, -⟩ := id ob
  refine zG_run bkSR_styled_0 (lv' := [(0, .ref 0), (1, .int f), (2, .int m), (3, .int g), (4, .int c), (5, .int w)]) (st' := [.int f, .ref 1]) (h' := zN sg) (Ps := [zOb (zN sg) 0 9 ∧ (zN sg).2.2 0 0 = true]) rfl (zA ⟨zob_0, rfl⟩ trivial) ?_
  refine zG_callv (a := 1) (c := 5) (As := [.int f]) (rest := []) (N2 := 411) bdSR_styled_5 okShe_hasLetter lk9_245 (And.intro (by decide) (by decide)) (by decide) rfl rfl rfl (Nat.le_of_ble_eq_true rfl) (Nat.le_of_ble_eq_true rfl) (Nat.le_refl 411) (Nat.le_refl 411) zob_1 cShe_hasLetter ?_
  rintro rr h' ⟨rfl, rfl⟩ -
  refine zb_ifeq (tgt := 30) bkSR_styled_8 bdSR_styled_8 (by decide) (lv' := [(0, .ref 0), (1, .int f), (2, .int m), (3, .int g), (4, .int c), (5, .int w)]) (st' := []) (h' := zN sg) (x := if 0 ≤ f ∧ f < sg 1 2 then 1 else 0) (Ps := []) rfl trivial (fun c1 => ?_) (fun c1 => ?_)
  · skip
    refine zb_iret bkSR_styled_30 bdSR_styled_31 rfl (x := (-1)) (h' := zN sg) (Ps := []) rfl trivial rfl ?_
    refine hq _ _ ?_
    exact ⟨_, _, rfl, rfl, hQ_refl hf, Or.inl ⟨by grind, rfl⟩⟩
  · skip
    refine zG_run bkSR_styled_11 (lv' := [(0, .ref 0), (1, .int f), (2, .int m), (3, .int g), (4, .int c), (5, .int w)]) (st' := [.int c, .int g, .int m]) (h' := zN sg) (Ps := []) rfl trivial ?_
    refine zG_calls (As := [.int m, .int g, .int c]) (rest := []) (N2 := 411) bdSR_styled_15 okSR_isFilter lk9_285 (And.intro (by decide) (by decide)) rfl rfl (Nat.le_of_ble_eq_true rfl) (Nat.le_of_ble_eq_true rfl) (Nat.le_refl 411) (Nat.le_refl 411) cSR_isFilter ?_
    rintro rr h' ⟨rfl, rfl⟩ -
    refine zb_ifeq (tgt := 30) bkSR_styled_18 bdSR_styled_18 (by decide) (lv' := [(0, .ref 0), (1, .int f), (2, .int m), (3, .int g), (4, .int c), (5, .int w)]) (st' := []) (h' := zN sg) (x := if (0 ≤ m ∧ m ≤ 15) ∧ (0 ≤ g ∧ g ≤ 15) ∧ (c = -1 ∨ (0 ≤ c ∧ c ≤ 7)) then 1 else 0) (Ps := []) rfl trivial (fun c2 => ?_) (fun c2 => ?_)
    · skip
      refine zb_iret bkSR_styled_30 bdSR_styled_31 rfl (x := (-1)) (h' := zN sg) (Ps := []) rfl trivial rfl ?_
      refine hq _ _ ?_
      exact ⟨_, _, rfl, rfl, hQ_refl hf, Or.inl ⟨by grind, rfl⟩⟩
    · skip
      refine zG_run bkSR_styled_21 (lv' := [(0, .ref 0), (1, .int f), (2, .int m), (3, .int g), (4, .int c), (5, .int w)]) (st' := [.int 2, .int w]) (h' := zN sg) (Ps := []) rfl trivial ?_
      refine zG_calls (As := [.int w, .int 2]) (rest := []) (N2 := 411) bdSR_styled_24 okSR_isWithin lk9_126 (And.intro (by decide) (by decide)) rfl rfl (Nat.le_of_ble_eq_true rfl) (Nat.le_of_ble_eq_true rfl) (Nat.le_refl 411) (Nat.le_refl 411) cSR_isWithin ?_
      rintro rr h' ⟨rfl, rfl⟩ -
      refine zb_ifne (tgt := 32) bkSR_styled_27 bdSR_styled_27 (by decide) (lv' := [(0, .ref 0), (1, .int f), (2, .int m), (3, .int g), (4, .int c), (5, .int w)]) (st' := []) (h' := zN sg) (x := if 0 ≤ w ∧ w ≤ 2 then 1 else 0) (Ps := []) rfl trivial (fun c3 => ?_) (fun c3 => ?_)
      · skip
        have hc : ((0 ≤ f ∧ f < sg 1 2) ∧ ((0 ≤ m ∧ m ≤ 15) ∧ (0 ≤ g ∧ g ≤ 15) ∧ (c = -1 ∨ (0 ≤ c ∧ c ≤ 7)))) ∧ 0 ≤ w ∧ w ≤ 2 := by grind
        refine zG_run bkSR_styled_32 (lv' := [(0, .ref 0), (1, .int f), (2, .int m), (3, .int g), (4, .int c), (5, .int w)]) (st' := [.ref 0]) (h' := zN sg) (Ps := []) rfl trivial ?_
        refine zG_callv (a := 0) (c := 9) (As := []) (rest := []) (N2 := 411) bdSR_styled_33 okSR_looksNow lk9_184 (And.intro (by decide) (by decide)) (by decide) rfl rfl rfl (Nat.le_of_ble_eq_true rfl) (Nat.le_of_ble_eq_true rfl) (Nat.le_refl 411) (Nat.le_refl 411) zob_0 (cSR_looksNow ob hf) ?_
        rintro rr h' ⟨sg0, rfl, rfl, hl⟩ -
        have hq0 : hQ sg sg0 := hLk_Q ob hl
        have fl := hQ_s hq0
        have y2 : sg0 1 2 = sg 1 2 := fl 1 2 (by decide) (by decide)
        have y4 : sg0 1 4 = sg 1 4 := fl 1 4 (by decide) (by decide)
        have y6 : sg0 1 6 = sg 1 6 := fl 1 6 (by decide) (by decide)
        have yt : sg0 34 1 = sg 34 1 := fl 34 1 (by decide) (by decide)
        have l3 : sg0 313 1 = sg 1 2 := hl.2.2.1
        have ts : ∀ j, 0 ≤ j → j < sg 1 2 → sg0 314 j = nS sg j := hl.2.2.2
        refine zG_run bkSR_styled_36 (lv' := [(10, .int f), (9, .int 0), (8, .int 0), (7, .int (-1)), (6, .ref 313), (0, .ref 0), (1, .int f), (2, .int m), (3, .int g), (4, .int c), (5, .int w)]) (st' := []) (h' := zN sg0) (Ps := []) rfl trivial ?_
        refine zG_pick (lv' := [(0, .ref 0), (1, .int f), (2, .int m), (3, .int g), (4, .int c), (5, .int w), (6, .ref 313), (7, .int (-1)), (8, .int 0), (9, .int 0), (10, .int f)]) [5, 6, 7, 8, 9, 10, 4, 3, 2, 1, 0] rfl ?_
        refine zlp4 (fun (a : Int32) (s : Int32) (n : Int32) (i : Int32) => zG mSR_styled 411 Q 50 [(0, .ref 0), (1, .int f), (2, .int m), (3, .int g), (4, .int c), (5, .int w), (6, .ref 313), (7, .int a), (8, .int s), (9, .int n), (10, .int i)] [] (zN sg0)) (fun (a : Int32) (s : Int32) (n : Int32) (i : Int32) => (f ≤ i) ∧ (i ≤ sg 1 2) ∧ (iSy sg f m g c i a s) ∧ (n = zit (nSu sg f m g c) 0 i)) (fun (a : Int32) (s : Int32) (n : Int32) (i : Int32) => zmu (sg 1 2) i) ?_ (-1) 0 0 f ?_
        · intro a s n i hI ih
          obtain ⟨i0, i1, ii, iz⟩ := hI
          refine zb_icge (tgt := 115) bkSR_styled_50 bdSR_styled_59 (by decide) (lv' := [(0, .ref 0), (1, .int f), (2, .int m), (3, .int g), (4, .int c), (5, .int w), (6, .ref 313), (7, .int a), (8, .int s), (9, .int n), (10, .int i)]) (st' := []) (h' := zN sg0) (x := i) (y := sg0 1 2) (Ps := [zOb (zN sg0) 0 9 ∧ (zN sg0).2.2 0 0 = true, zOb (zN sg0) 1 5]) rfl (zA ⟨zob_0, rfl⟩ (zA zob_1 trivial)) (fun c4 => ?_) (fun c4 => ?_)
          · skip
            refine zb_iceq (tgt := 126) bkSR_styled_115 bdSR_styled_118 (by decide) (lv' := [(0, .ref 0), (1, .int f), (2, .int m), (3, .int g), (4, .int c), (5, .int w), (6, .ref 313), (7, .int a), (8, .int s), (9, .int n), (10, .int i)]) (st' := []) (h' := zN sg0) (x := a) (y := (-1)) (Ps := []) rfl trivial (fun c5 => ?_) (fun c5 => ?_)
            · skip
              refine zb_iret bkSR_styled_126 bdSR_styled_128 rfl (x := a) (h' := zN sg0) (Ps := []) rfl trivial rfl ?_
              refine hq _ _ ?_
              have ei : i = sg 1 2 := by lia
              subst ei
              refine ⟨_, _, rfl, rfl, hq0, Or.inr ⟨hc, ?_⟩⟩
              rcases ii with ⟨h1, h2, h3⟩ | ⟨h1, h2, h3, h4, h5, h6, h7, h8⟩
              · first | exact Or.inl ⟨h1, h3⟩ | (exfalso; lia)
              · first | (exfalso; lia; done) | (refine Or.inr ⟨a, ⟨h1, h2, h3, h4⟩, ?_, ?_, ?_⟩ <;> first | (intro hw; exfalso; lia; done) | (intro _; rfl) | (intro _; exact ⟨⟨h5, by lia⟩, by lia, h7, h8.elim (fun q => Or.inl (by lia)) Or.inr⟩) | (intro _; exact iz))
            · skip
              refine zb_ifne (tgt := 129) bkSR_styled_121 bdSR_styled_123 (by decide) (lv' := [(0, .ref 0), (1, .int f), (2, .int m), (3, .int g), (4, .int c), (5, .int w), (6, .ref 313), (7, .int a), (8, .int s), (9, .int n), (10, .int i)]) (st' := []) (h' := zN sg0) (x := w) (Ps := []) rfl trivial (fun c6 => ?_) (fun c6 => ?_)
              · skip
                refine zb_icne (tgt := 140) bkSR_styled_129 bdSR_styled_132 (by decide) (lv' := [(0, .ref 0), (1, .int f), (2, .int m), (3, .int g), (4, .int c), (5, .int w), (6, .ref 313), (7, .int a), (8, .int s), (9, .int n), (10, .int i)]) (st' := []) (h' := zN sg0) (x := w) (y := 1) (Ps := []) rfl trivial (fun c7 => ?_) (fun c7 => ?_)
                · skip
                  refine zb_iret bkSR_styled_140 bdSR_styled_142 rfl (x := n) (h' := zN sg0) (Ps := []) rfl trivial rfl ?_
                  refine hq _ _ ?_
                  have ei : i = sg 1 2 := by lia
                  subst ei
                  refine ⟨_, _, rfl, rfl, hq0, Or.inr ⟨hc, ?_⟩⟩
                  rcases ii with ⟨h1, h2, h3⟩ | ⟨h1, h2, h3, h4, h5, h6, h7, h8⟩
                  · first | exact Or.inl ⟨h1, h3⟩ | (exfalso; lia)
                  · first | (exfalso; lia; done) | (refine Or.inr ⟨a, ⟨h1, h2, h3, h4⟩, ?_, ?_, ?_⟩ <;> first | (intro hw; exfalso; lia; done) | (intro _; rfl) | (intro _; exact ⟨⟨h5, by lia⟩, by lia, h7, h8.elim (fun q => Or.inl (by lia)) Or.inr⟩) | (intro _; exact iz))
                · skip
                  refine zb_iret bkSR_styled_135 bdSR_styled_142 rfl (x := s) (h' := zN sg0) (Ps := []) rfl trivial rfl ?_
                  refine hq _ _ ?_
                  have ei : i = sg 1 2 := by lia
                  subst ei
                  refine ⟨_, _, rfl, rfl, hq0, Or.inr ⟨hc, ?_⟩⟩
                  rcases ii with ⟨h1, h2, h3⟩ | ⟨h1, h2, h3, h4, h5, h6, h7, h8⟩
                  · first | exact Or.inl ⟨h1, h3⟩ | (exfalso; lia)
                  · first | (exfalso; lia; done) | (refine Or.inr ⟨a, ⟨h1, h2, h3, h4⟩, ?_, ?_, ?_⟩ <;> first | (intro hw; exfalso; lia; done) | (intro _; rfl) | (intro _; exact ⟨⟨h5, by lia⟩, by lia, h7, h8.elim (fun q => Or.inl (by lia)) Or.inr⟩) | (intro _; exact iz))
              · skip
                refine zb_iret bkSR_styled_126 bdSR_styled_128 rfl (x := a) (h' := zN sg0) (Ps := []) rfl trivial rfl ?_
                refine hq _ _ ?_
                have ei : i = sg 1 2 := by lia
                subst ei
                refine ⟨_, _, rfl, rfl, hq0, Or.inr ⟨hc, ?_⟩⟩
                rcases ii with ⟨h1, h2, h3⟩ | ⟨h1, h2, h3, h4, h5, h6, h7, h8⟩
                · first | exact Or.inl ⟨h1, h3⟩ | (exfalso; lia)
                · first | (exfalso; lia; done) | (refine Or.inr ⟨a, ⟨h1, h2, h3, h4⟩, ?_, ?_, ?_⟩ <;> first | (intro hw; exfalso; lia; done) | (intro _; rfl) | (intro _; exact ⟨⟨h5, by lia⟩, by lia, h7, h8.elim (fun q => Or.inl (by lia)) Or.inr⟩) | (intro _; exact iz))
          · skip
            refine zG_run bkSR_styled_62 (lv' := [(0, .ref 0), (1, .int f), (2, .int m), (3, .int g), (4, .int c), (5, .int w), (6, .ref 313), (7, .int a), (8, .int s), (9, .int n), (10, .int i)]) (st' := [.int c, .int g, .int m, .int (sg0 314 i)]) (h' := zN sg0) (Ps := [zOb (zN sg0) 313 3 ∧ (zN sg0).2.2 313 0 = true, zInL (zN sg0) 314 i]) rfl (zA ⟨zob_313, rfl⟩ (zA (zinL_314 (i := i) (by lia) (by lia)) trivial)) ?_
            refine zG_calls (As := [.int (sg0 314 i), .int m, .int g, .int c]) (rest := []) (N2 := 411) bdSR_styled_74 okSty_suits lk9_289 (And.intro (by decide) (by decide)) rfl rfl (Nat.le_of_ble_eq_true rfl) (Nat.le_of_ble_eq_true rfl) (Nat.le_refl 411) (Nat.le_refl 411) cSty_suits ?_
            rintro rr h' ⟨rfl, rfl⟩ -
            refine zb_ifne (tgt := 83) bkSR_styled_77 bdSR_styled_77 (by decide) (lv' := [(0, .ref 0), (1, .int f), (2, .int m), (3, .int g), (4, .int c), (5, .int w), (6, .ref 313), (7, .int a), (8, .int s), (9, .int n), (10, .int i)]) (st' := []) (h' := zN sg0) (x := fSu (sg0 314 i) m g c) (Ps := []) rfl trivial (fun c8 => ?_) (fun c8 => ?_)
            · skip
              refine zb_icne (tgt := 93) bkSR_styled_83 bdSR_styled_86 (by decide) (lv' := [(0, .ref 0), (1, .int f), (2, .int m), (3, .int g), (4, .int c), (5, .int w), (6, .ref 313), (7, .int a), (8, .int s), (9, .int n), (10, .int i)]) (st' := []) (h' := zN sg0) (x := a) (y := (-1)) (Ps := []) rfl trivial (fun c9 => ?_) (fun c9 => ?_)
              · skip
                refine zb_icne (tgt := 106) bkSR_styled_93 bdSR_styled_100 (by decide) (lv' := [(0, .ref 0), (1, .int f), (2, .int m), (3, .int g), (4, .int c), (5, .int w), (6, .ref 313), (7, .int a), (8, .int s), (9, .int n), (10, .int i)]) (st' := []) (h' := zN sg0) (x := i) (y := a + s) (Ps := []) rfl trivial (fun c10 => ?_) (fun c10 => ?_)
                · skip
                  refine zG_run bkSR_styled_106 (lv' := [(10, .int (i + 1)), (9, .int (n + 1)), (0, .ref 0), (1, .int f), (2, .int m), (3, .int g), (4, .int c), (5, .int w), (6, .ref 313), (7, .int a), (8, .int s)]) (st' := []) (h' := zN sg0) (Ps := []) rfl trivial ?_
                  refine zG_pick (lv' := [(0, .ref 0), (1, .int f), (2, .int m), (3, .int g), (4, .int c), (5, .int w), (6, .ref 313), (7, .int a), (8, .int s), (9, .int (n + 1)), (10, .int (i + 1))]) [2, 3, 4, 5, 6, 7, 8, 9, 10, 1, 0] rfl ?_
                  refine ih a s (n + 1) (i + 1) ?_ ?_
                  · refine ⟨?_, ?_, ?_, ?_⟩
                    · lia
                    · lia
                    · have q := iSy_yes (by lia) (by lia) i0 ii (by unfold suB; rw [← ts i (by lia) (by lia)]; lia)
                      rw [if_neg (by lia)] at q; rw [if_neg (by lia)] at q; exact q
                    · rw [zit_s _ _ (by lia : 0 ≤ i) (by lia : i < sg 1 2), ← iz]; unfold nSu; rw [← ts i (by lia) (by lia), if_pos (by lia)]
                  · exact zmu_up (by lia)
                · skip
                  refine zG_run bkSR_styled_103 (lv' := [(10, .int (i + 1)), (9, .int (n + 1)), (8, .int (s + 1)), (0, .ref 0), (1, .int f), (2, .int m), (3, .int g), (4, .int c), (5, .int w), (6, .ref 313), (7, .int a)]) (st' := []) (h' := zN sg0) (Ps := []) rfl trivial ?_
                  refine zG_pick (lv' := [(0, .ref 0), (1, .int f), (2, .int m), (3, .int g), (4, .int c), (5, .int w), (6, .ref 313), (7, .int a), (8, .int (s + 1)), (9, .int (n + 1)), (10, .int (i + 1))]) [3, 4, 5, 6, 7, 8, 9, 10, 2, 1, 0] rfl ?_
                  refine ih a (s + 1) (n + 1) (i + 1) ?_ ?_
                  · refine ⟨?_, ?_, ?_, ?_⟩
                    · lia
                    · lia
                    · have q := iSy_yes (by lia) (by lia) i0 ii (by unfold suB; rw [← ts i (by lia) (by lia)]; lia)
                      rw [if_neg (by lia)] at q; rw [if_pos (by lia)] at q; exact q
                    · rw [zit_s _ _ (by lia : 0 ≤ i) (by lia : i < sg 1 2), ← iz]; unfold nSu; rw [← ts i (by lia) (by lia), if_pos (by lia)]
                  · exact zmu_up (by lia)
              · skip
                refine zb_icne (tgt := 106) bkSR_styled_89 bdSR_styled_100 (by decide) (lv' := [(7, .int i), (0, .ref 0), (1, .int f), (2, .int m), (3, .int g), (4, .int c), (5, .int w), (6, .ref 313), (8, .int s), (9, .int n), (10, .int i)]) (st' := []) (h' := zN sg0) (x := i) (y := i + s) (Ps := []) rfl trivial (fun c11 => ?_) (fun c11 => ?_)
                · skip
                  refine zG_run bkSR_styled_106 (lv' := [(10, .int (i + 1)), (9, .int (n + 1)), (7, .int i), (0, .ref 0), (1, .int f), (2, .int m), (3, .int g), (4, .int c), (5, .int w), (6, .ref 313), (8, .int s)]) (st' := []) (h' := zN sg0) (Ps := []) rfl trivial ?_
                  refine zG_pick (lv' := [(0, .ref 0), (1, .int f), (2, .int m), (3, .int g), (4, .int c), (5, .int w), (6, .ref 313), (7, .int i), (8, .int s), (9, .int (n + 1)), (10, .int (i + 1))]) [3, 4, 5, 6, 7, 8, 9, 2, 10, 1, 0] rfl ?_
                  refine ih i s (n + 1) (i + 1) ?_ ?_
                  · refine ⟨?_, ?_, ?_, ?_⟩
                    · lia
                    · lia
                    · have q := iSy_yes (by lia) (by lia) i0 ii (by unfold suB; rw [← ts i (by lia) (by lia)]; lia)
                      rw [if_pos (by lia)] at q; rw [if_neg (by lia)] at q; exact q
                    · rw [zit_s _ _ (by lia : 0 ≤ i) (by lia : i < sg 1 2), ← iz]; unfold nSu; rw [← ts i (by lia) (by lia), if_pos (by lia)]
                  · exact zmu_up (by lia)
                · skip
                  refine zG_run bkSR_styled_103 (lv' := [(10, .int (i + 1)), (9, .int (n + 1)), (8, .int (s + 1)), (7, .int i), (0, .ref 0), (1, .int f), (2, .int m), (3, .int g), (4, .int c), (5, .int w), (6, .ref 313)]) (st' := []) (h' := zN sg0) (Ps := []) rfl trivial ?_
                  refine zG_pick (lv' := [(0, .ref 0), (1, .int f), (2, .int m), (3, .int g), (4, .int c), (5, .int w), (6, .ref 313), (7, .int i), (8, .int (s + 1)), (9, .int (n + 1)), (10, .int (i + 1))]) [4, 5, 6, 7, 8, 9, 10, 3, 2, 1, 0] rfl ?_
                  refine ih i (s + 1) (n + 1) (i + 1) ?_ ?_
                  · refine ⟨?_, ?_, ?_, ?_⟩
                    · lia
                    · lia
                    · have q := iSy_yes (by lia) (by lia) i0 ii (by unfold suB; rw [← ts i (by lia) (by lia)]; lia)
                      rw [if_pos (by lia)] at q; rw [if_pos (by lia)] at q; exact q
                    · rw [zit_s _ _ (by lia : 0 ≤ i) (by lia : i < sg 1 2), ← iz]; unfold nSu; rw [← ts i (by lia) (by lia), if_pos (by lia)]
                  · exact zmu_up (by lia)
            · skip
              refine zG_run bkSR_styled_80 (lv' := [(10, .int (i + 1)), (0, .ref 0), (1, .int f), (2, .int m), (3, .int g), (4, .int c), (5, .int w), (6, .ref 313), (7, .int a), (8, .int s), (9, .int n)]) (st' := []) (h' := zN sg0) (Ps := []) rfl trivial ?_
              refine zG_pick (lv' := [(0, .ref 0), (1, .int f), (2, .int m), (3, .int g), (4, .int c), (5, .int w), (6, .ref 313), (7, .int a), (8, .int s), (9, .int n), (10, .int (i + 1))]) [1, 2, 3, 4, 5, 6, 7, 8, 9, 10, 0] rfl ?_
              refine ih a s n (i + 1) ?_ ?_
              · refine ⟨?_, ?_, ?_, ?_⟩
                · lia
                · lia
                · exact iSy_no (by lia) (by lia) i0 ii (by unfold suB; rw [← ts i (by lia) (by lia)]; lia)
                · rw [zit_s _ _ (by lia : 0 ≤ i) (by lia : i < sg 1 2), ← iz]; unfold nSu; rw [← ts i (by lia) (by lia), if_neg (by lia)]
              · exact zmu_up (by lia)
        · refine ⟨?_, ?_, ?_, ?_⟩
          · lia
          · lia
          · exact Or.inl ⟨rfl, rfl, fun j j0 j1 => by exfalso; lia⟩
          · rw [zit_id (by lia)]; intro i x h1 h2; unfold nSu; rw [if_neg (by lia)]
      · skip
        refine zb_iret bkSR_styled_30 bdSR_styled_31 rfl (x := (-1)) (h' := zN sg) (Ps := []) rfl trivial rfl ?_
        refine hq _ _ ?_
        exact ⟨_, _, rfl, rfl, hQ_refl hf, Or.inl ⟨by grind, rfl⟩⟩
theorem cSR_styled2 {sg : zSig} {f m g c w : Int32} (ob : okS sg 1) (h0 : 0 ≤ sg 36 2) (h1 : sg 36 2 < 8) (u0 : 0 ≤ sg 36 3) (u1 : sg 36 3 ≤ 8) (hf : okF sg) : zG mSR_styled 411 (fun rr h' => ∃ v sg', rr = some (.int v) ∧ h' = zN sg' ∧ hQ sg sg' ∧ ((¬ (((0 ≤ f ∧ f < sg 1 2) ∧ ((0 ≤ m ∧ m ≤ 15) ∧ (0 ≤ g ∧ g ≤ 15) ∧ (c = -1 ∨ (0 ≤ c ∧ c ≤ 7)))) ∧ 0 ≤ w ∧ w ≤ 2) ∧ v = -1) ∨ ((((0 ≤ f ∧ f < sg 1 2) ∧ ((0 ≤ m ∧ m ≤ 15) ∧ (0 ≤ g ∧ g ≤ 15) ∧ (c = -1 ∨ (0 ≤ c ∧ c ≤ 7)))) ∧ 0 ≤ w ∧ w ≤ 2) ∧ qSy2 sg f m g c w v))) 0 [(0, .ref 0), (1, .int f), (2, .int m), (3, .int g), (4, .int c), (5, .int w)] [] (zN sg) := lSR_styled2 ob h0 h1 u0 u1 hf (fun _ _ q => q)
theorem lMo_styled2 {sg : zSig} {f m g c w : Int32} (n0 : 0 ≤ sg 395 0) (n2 : sg 395 0 ≤ 200) (g0 : 0 ≤ sg 395 1) (g1 : sg 395 1 ≤ 16) (hp : okP sg) {Q : Option Value → zHp → Prop} (hq : ∀ rr h', (∃ v sg', rr = some (.int v) ∧ h' = zN sg' ∧ mQ sg sg' ∧ ((¬ (((0 ≤ f ∧ f < sg 395 0) ∧ ((0 ≤ m ∧ m ≤ 15) ∧ (0 ≤ g ∧ g ≤ 15) ∧ (-1 ≤ c ∧ c ≤ 7))) ∧ 0 ≤ w ∧ w ≤ 2) ∧ v = -1) ∨ ((((0 ≤ f ∧ f < sg 395 0) ∧ ((0 ≤ m ∧ m ≤ 15) ∧ (0 ≤ g ∧ g ≤ 15) ∧ (-1 ≤ c ∧ c ≤ 7))) ∧ 0 ≤ w ∧ w ≤ 2) ∧ mYd2 (mSo sg m g c) f (sg 395 0) w v))) → Q rr h') : zG mMo_styled 411 Q 5 [(0, .ref 393), (1, .int f), (2, .int m), (3, .int g), (4, .int c), (5, .int w)] [] (zN sg) := by
  refine zG_run bkMo_styled_5 (lv' := [(0, .ref 393), (1, .int f), (2, .int m), (3, .int g), (4, .int c), (5, .int w)]) (st' := [.int f, .ref 393]) (h' := zN sg) (Ps := []) rfl trivial ?_
  refine zG_callv (a := 393) (c := 10) (As := [.int f]) (rest := []) (N2 := 411) bdMo_styled_7 okMo_isLetter lk10_258 (And.intro (by decide) (by decide)) (by decide) rfl rfl rfl (Nat.le_of_ble_eq_true rfl) (Nat.le_of_ble_eq_true rfl) (Nat.le_refl 411) (Nat.le_refl 411) zob_393 cMo_isLetter ?_
  rintro rr h' ⟨rfl, rfl⟩ -
  refine zb_ifeq (tgt := 65) bkMo_styled_10 bdMo_styled_10 (by decide) (lv' := [(0, .ref 393), (1, .int f), (2, .int m), (3, .int g), (4, .int c), (5, .int w)]) (st' := []) (h' := zN sg) (x := if 0 ≤ f ∧ f < sg 395 0 then 1 else 0) (Ps := []) rfl trivial (fun c1 => ?_) (fun c1 => ?_)
  · skip
    refine zb_iret bkMo_styled_65 bdMo_styled_66 rfl (x := (-1)) (h' := zN sg) (Ps := []) rfl trivial rfl ?_
    refine hq _ _ ?_
    exact ⟨_, _, rfl, rfl, mQ_refl, Or.inl ⟨by clear hq hp; grind, rfl⟩⟩
  · skip
    refine zG_run bkMo_styled_13 (lv' := [(0, .ref 393), (1, .int f), (2, .int m), (3, .int g), (4, .int c), (5, .int w)]) (st' := [.long ((15 : Int32).toInt64), .long ((0 : Int32).toInt64), .long m.toInt64]) (h' := zN sg) (Ps := []) rfl trivial ?_
    refine zG_calls (As := [.long m.toInt64, .long ((0 : Int32).toInt64), .long ((15 : Int32).toInt64)]) (rest := []) (N2 := 411) bdMo_styled_19 okMo_in lk10_87 (And.intro (by decide) (by decide)) rfl rfl (Nat.le_of_ble_eq_true rfl) (Nat.le_of_ble_eq_true rfl) (Nat.le_refl 411) (Nat.le_refl 411) cMo_inA ?_
    rintro rr h' ⟨rfl, rfl⟩ -
    refine zb_ifeq (tgt := 65) bkMo_styled_22 bdMo_styled_22 (by decide) (lv' := [(0, .ref 393), (1, .int f), (2, .int m), (3, .int g), (4, .int c), (5, .int w)]) (st' := []) (h' := zN sg) (x := if 0 ≤ m ∧ m ≤ 15 then 1 else 0) (Ps := []) rfl trivial (fun c2 => ?_) (fun c2 => ?_)
    · skip
      refine zb_iret bkMo_styled_65 bdMo_styled_66 rfl (x := (-1)) (h' := zN sg) (Ps := []) rfl trivial rfl ?_
      refine hq _ _ ?_
      exact ⟨_, _, rfl, rfl, mQ_refl, Or.inl ⟨by clear hq hp; grind, rfl⟩⟩
    · skip
      refine zG_run bkMo_styled_25 (lv' := [(0, .ref 393), (1, .int f), (2, .int m), (3, .int g), (4, .int c), (5, .int w)]) (st' := [.long ((15 : Int32).toInt64), .long ((0 : Int32).toInt64), .long g.toInt64]) (h' := zN sg) (Ps := []) rfl trivial ?_
      refine zG_calls (As := [.long g.toInt64, .long ((0 : Int32).toInt64), .long ((15 : Int32).toInt64)]) (rest := []) (N2 := 411) bdMo_styled_31 okMo_in lk10_87 (And.intro (by decide) (by decide)) rfl rfl (Nat.le_of_ble_eq_true rfl) (Nat.le_of_ble_eq_true rfl) (Nat.le_refl 411) (Nat.le_refl 411) cMo_inA ?_
      rintro rr h' ⟨rfl, rfl⟩ -
      refine zb_ifeq (tgt := 65) bkMo_styled_34 bdMo_styled_34 (by decide) (lv' := [(0, .ref 393), (1, .int f), (2, .int m), (3, .int g), (4, .int c), (5, .int w)]) (st' := []) (h' := zN sg) (x := if 0 ≤ g ∧ g ≤ 15 then 1 else 0) (Ps := []) rfl trivial (fun c3 => ?_) (fun c3 => ?_)
      · skip
        refine zb_iret bkMo_styled_65 bdMo_styled_66 rfl (x := (-1)) (h' := zN sg) (Ps := []) rfl trivial rfl ?_
        refine hq _ _ ?_
        exact ⟨_, _, rfl, rfl, mQ_refl, Or.inl ⟨by clear hq hp; grind, rfl⟩⟩
      · skip
        refine zG_run bkMo_styled_37 (lv' := [(0, .ref 393), (1, .int f), (2, .int m), (3, .int g), (4, .int c), (5, .int w)]) (st' := [.long ((7 : Int32).toInt64), .long ((-1 : Int32).toInt64), .long c.toInt64]) (h' := zN sg) (Ps := []) rfl trivial ?_
        refine zG_calls (As := [.long c.toInt64, .long ((-1 : Int32).toInt64), .long ((7 : Int32).toInt64)]) (rest := []) (N2 := 411) bdMo_styled_46 okMo_in lk10_87 (And.intro (by decide) (by decide)) rfl rfl (Nat.le_of_ble_eq_true rfl) (Nat.le_of_ble_eq_true rfl) (Nat.le_refl 411) (Nat.le_refl 411) cMo_inA ?_
        rintro rr h' ⟨rfl, rfl⟩ -
        refine zb_ifeq (tgt := 65) bkMo_styled_49 bdMo_styled_49 (by decide) (lv' := [(0, .ref 393), (1, .int f), (2, .int m), (3, .int g), (4, .int c), (5, .int w)]) (st' := []) (h' := zN sg) (x := if (-1) ≤ c ∧ c ≤ 7 then 1 else 0) (Ps := []) rfl trivial (fun c4 => ?_) (fun c4 => ?_)
        · skip
          refine zb_iret bkMo_styled_65 bdMo_styled_66 rfl (x := (-1)) (h' := zN sg) (Ps := []) rfl trivial rfl ?_
          refine hq _ _ ?_
          exact ⟨_, _, rfl, rfl, mQ_refl, Or.inl ⟨by clear hq hp; grind, rfl⟩⟩
        · skip
          refine zG_run bkMo_styled_52 (lv' := [(0, .ref 393), (1, .int f), (2, .int m), (3, .int g), (4, .int c), (5, .int w)]) (st' := [.long ((2 : Int32).toInt64), .long ((0 : Int32).toInt64), .long w.toInt64]) (h' := zN sg) (Ps := []) rfl trivial ?_
          refine zG_calls (As := [.long w.toInt64, .long ((0 : Int32).toInt64), .long ((2 : Int32).toInt64)]) (rest := []) (N2 := 411) bdMo_styled_59 okMo_in lk10_87 (And.intro (by decide) (by decide)) rfl rfl (Nat.le_of_ble_eq_true rfl) (Nat.le_of_ble_eq_true rfl) (Nat.le_refl 411) (Nat.le_refl 411) cMo_inA ?_
          rintro rr h' ⟨rfl, rfl⟩ -
          refine zb_ifne (tgt := 67) bkMo_styled_62 bdMo_styled_62 (by decide) (lv' := [(0, .ref 393), (1, .int f), (2, .int m), (3, .int g), (4, .int c), (5, .int w)]) (st' := []) (h' := zN sg) (x := if 0 ≤ w ∧ w ≤ 2 then 1 else 0) (Ps := []) rfl trivial (fun c5 => ?_) (fun c5 => ?_)
          · skip
            have hc : ((0 ≤ f ∧ f < sg 395 0) ∧ ((0 ≤ m ∧ m ≤ 15) ∧ (0 ≤ g ∧ g ≤ 15) ∧ (-1 ≤ c ∧ c ≤ 7))) ∧ 0 ≤ w ∧ w ≤ 2 := by clear hq hp; grind (splits := 40)
            refine zG_run bkMo_styled_67 (lv' := [(6, .int f), (0, .ref 393), (1, .int f), (2, .int m), (3, .int g), (4, .int c), (5, .int w)]) (st' := []) (h' := zN sg) (Ps := []) rfl trivial ?_
            refine zG_pick (lv' := [(0, .ref 393), (1, .int f), (2, .int m), (3, .int g), (4, .int c), (5, .int w), (6, .int f)]) [1, 2, 3, 4, 5, 6, 0] rfl ?_
            refine zlp2 (fun (a : Int32) (sg1 : zSig) => zG mMo_styled 411 Q 70 [(0, .ref 393), (1, .int f), (2, .int m), (3, .int g), (4, .int c), (5, .int w), (6, .int a)] [] (zN sg1)) (fun (a : Int32) (sg1 : zSig) => (f ≤ a) ∧ (a ≤ sg 395 0) ∧ (mQ sg sg1) ∧ (∀ q, f ≤ q → q < a → ¬ mSo sg m g c q)) (fun (a : Int32) (sg1 : zSig) => zmu (sg 395 0) a) ?_ f sg ?_
            · intro a sg1 ho iho
              obtain ⟨p0, p1, kf, pz⟩ := ho
              have kr := mQ_row kf
              have ke0 : sg1 395 0 = sg 395 0 := congrFun kr 0
              have ke1 : sg1 395 1 = sg 395 1 := congrFun kr 1
              have ket : sg1 393 11 = sg 393 11 := kf 393 11 (by decide) (by decide) (by decide) (by decide) (by decide) (by decide)
              refine zb_icge (tgt := 100) bkMo_styled_70 bdMo_styled_78 (by decide) (lv' := [(0, .ref 393), (1, .int f), (2, .int m), (3, .int g), (4, .int c), (5, .int w), (6, .int a)]) (st' := []) (h' := zN sg1) (x := a) (y := sg1 395 0) (Ps := [zOb (zN sg1) 393 10 ∧ (zN sg1).2.2 393 3 = true, zInL (zN sg1) 395 0]) rfl (zA ⟨zob_393, rfl⟩ (zA (zinL_395 (i := 0) (by decide) (by decide)) trivial)) (fun c6 => ?_) (fun c6 => ?_)
              · skip
                have e2 : sg1 395 0 = sg 395 0 := ke0
                have hf2 : mQ sg sg1 := kf
                have ha : a = sg 395 0 := by lia
                refine zb_icne (tgt := 113) bkMo_styled_100 bdMo_styled_108 (by decide) (lv' := [(0, .ref 393), (1, .int f), (2, .int m), (3, .int g), (4, .int c), (5, .int w), (6, .int a)]) (st' := []) (h' := zN sg1) (x := a) (y := sg1 395 0) (Ps := [zOb (zN sg1) 393 10 ∧ (zN sg1).2.2 393 3 = true, zInL (zN sg1) 395 0]) rfl (zA ⟨zob_393, rfl⟩ (zA (zinL_395 (i := 0) (by decide) (by decide)) trivial)) (fun c7 => ?_) (fun c7 => ?_)
                · skip
                  exfalso; lia
                · skip
                  refine zb_iret bkMo_styled_111 bdMo_styled_112 rfl (x := (-1)) (h' := zN sg1) (Ps := []) rfl trivial rfl ?_
                  refine hq _ _ ?_
                  exact ⟨_, _, rfl, rfl, hf2, Or.inr ⟨hc, Or.inl ⟨rfl, fun q q0 q1 => pz q q0 (by lia)⟩⟩⟩
              · skip
                refine zG_run bkMo_styled_81 (lv' := [(0, .ref 393), (1, .int f), (2, .int m), (3, .int g), (4, .int c), (5, .int w), (6, .int a)]) (st' := [.int c, .int g, .int m, .int a, .ref 393]) (h' := zN sg1) (Ps := []) rfl trivial ?_
                refine zG_callv (a := 393) (c := 10) (As := [.int a, .int m, .int g, .int c]) (rest := []) (N2 := 411) bdMo_styled_88 okMo_isSo lk10_291 (And.intro (by decide) (by decide)) (by decide) rfl rfl rfl (Nat.le_of_ble_eq_true rfl) (Nat.le_of_ble_eq_true rfl) (Nat.le_refl 411) (Nat.le_refl 411) zob_393 (cMo_isSo (i := a) (m := m) (g := g) (c := c) (by lia) (by lia) (by lia) (by lia)) ?_
                rintro rr h' ⟨vo, sg8, rfl, rfl, hfo, hto, hvo⟩ -
                rw [mS_row kr] at hto hvo
                have e18 : sg8 393 18 = (mS sg (-1) a).2.2 := by rw [← hto]; rfl
                have hQo : mQ sg sg8 := mQ_trans kf (mFr_Q hfo)
                refine zb_ifne (tgt := 100) bkMo_styled_91 bdMo_styled_91 (by decide) (lv' := [(0, .ref 393), (1, .int f), (2, .int m), (3, .int g), (4, .int c), (5, .int w), (6, .int a)]) (st' := []) (h' := zN sg8) (x := vo) (Ps := []) rfl trivial (fun c9 => ?_) (fun c9 => ?_)
                · skip
                  have e2 : sg8 395 0 = sg 395 0 := congrFun (mQ_row hQo) 0
                  have ha : mSo sg m g c a := hvo.elim (fun h => h.2) (fun h => absurd h.1 (by lia))
                  clear hvo hto e18
                  refine zb_icne (tgt := 113) bkMo_styled_100 bdMo_styled_108 (by decide) (lv' := [(0, .ref 393), (1, .int f), (2, .int m), (3, .int g), (4, .int c), (5, .int w), (6, .int a)]) (st' := []) (h' := zN sg8) (x := a) (y := sg8 395 0) (Ps := [zOb (zN sg8) 393 10 ∧ (zN sg8).2.2 393 3 = true, zInL (zN sg8) 395 0]) rfl (zA ⟨zob_393, rfl⟩ (zA (zinL_395 (i := 0) (by decide) (by decide)) trivial)) (fun c10 => ?_) (fun c10 => ?_)
                  · skip
                    refine zG_run bkMo_styled_113 (lv' := [(9, .int a), (8, .int 0), (7, .int 0), (0, .ref 393), (1, .int f), (2, .int m), (3, .int g), (4, .int c), (5, .int w), (6, .int a)]) (st' := []) (h' := zN sg8) (Ps := []) rfl trivial ?_
                    refine zG_pick (lv' := [(0, .ref 393), (1, .int f), (2, .int m), (3, .int g), (4, .int c), (5, .int w), (6, .int a), (7, .int 0), (8, .int 0), (9, .int a)]) [3, 4, 5, 6, 7, 8, 9, 2, 1, 0] rfl ?_
                    refine zlp4 (fun (s : Int32) (n : Int32) (i : Int32) (sg1 : zSig) => zG mMo_styled 411 Q 123 [(0, .ref 393), (1, .int f), (2, .int m), (3, .int g), (4, .int c), (5, .int w), (6, .int a), (7, .int s), (8, .int n), (9, .int i)] [] (zN sg1)) (fun (s : Int32) (n : Int32) (i : Int32) (sg1 : zSig) => (a ≤ i) ∧ (i ≤ sg 395 0) ∧ (mQ sg sg1) ∧ (0 ≤ s ∧ s ≤ i - a ∧ (∀ j, a ≤ j → j < a + s → mSo sg m g c j) ∧ (s = i - a ∨ ¬ mSo sg m g c (a + s))) ∧ (∃ F, iNu (mSo sg m g c) a i n F)) (fun (s : Int32) (n : Int32) (i : Int32) (sg1 : zSig) => zmu (sg 395 0) i) ?_ 0 0 a sg8 ?_
                    · intro s n i sg1 hk ihk
                      obtain ⟨i0, i1, kf, ks, kn⟩ := hk
                      have kr := mQ_row kf
                      have ke0 : sg1 395 0 = sg 395 0 := congrFun kr 0
                      have ke1 : sg1 395 1 = sg 395 1 := congrFun kr 1
                      have ket : sg1 393 11 = sg 393 11 := kf 393 11 (by decide) (by decide) (by decide) (by decide) (by decide) (by decide)
                      refine zb_icge (tgt := 192) bkMo_styled_123 bdMo_styled_131 (by decide) (lv' := [(0, .ref 393), (1, .int f), (2, .int m), (3, .int g), (4, .int c), (5, .int w), (6, .int a), (7, .int s), (8, .int n), (9, .int i)]) (st' := []) (h' := zN sg1) (x := i) (y := sg1 395 0) (Ps := [zOb (zN sg1) 393 10 ∧ (zN sg1).2.2 393 3 = true, zInL (zN sg1) 395 0]) rfl (zA ⟨zob_393, rfl⟩ (zA (zinL_395 (i := 0) (by decide) (by decide)) trivial)) (fun c11 => ?_) (fun c11 => ?_)
                      · skip
                        refine zb_ifne (tgt := 202) bkMo_styled_192 bdMo_styled_194 (by decide) (lv' := [(0, .ref 393), (1, .int f), (2, .int m), (3, .int g), (4, .int c), (5, .int w), (6, .int a), (7, .int s), (8, .int n), (9, .int i)]) (st' := []) (h' := zN sg1) (x := w) (Ps := []) rfl trivial (fun c12 => ?_) (fun c12 => ?_)
                        · skip
                          refine zb_icne (tgt := 213) bkMo_styled_202 bdMo_styled_205 (by decide) (lv' := [(0, .ref 393), (1, .int f), (2, .int m), (3, .int g), (4, .int c), (5, .int w), (6, .int a), (7, .int s), (8, .int n), (9, .int i)]) (st' := []) (h' := zN sg1) (x := w) (y := 1) (Ps := []) rfl trivial (fun c13 => ?_) (fun c13 => ?_)
                          · skip
                            refine zb_iret bkMo_styled_213 bdMo_styled_215 rfl (x := n) (h' := zN sg1) (Ps := []) rfl trivial rfl ?_
                            refine hq _ _ ?_
                            have ei : i = sg 395 0 := by lia
                            subst ei
                            refine ⟨_, _, rfl, rfl, kf, Or.inr ⟨hc, Or.inr ⟨a, ⟨p0, by lia, ha, pz⟩, fun hw => ?_, fun hw => ?_, fun hw => ?_⟩⟩⟩
                            · first | (exfalso; lia; done) | rfl
                            · first | (exfalso; lia; done) | exact ⟨⟨sy_pos (T := mSo sg m g c) ha ks.1 ks.2.2.2 (by lia) (by lia) (by lia), by lia⟩, by lia, ks.2.2.1, ks.2.2.2.elim (fun h => Or.inl (by lia)) Or.inr⟩
                            · first | (exfalso; lia; done) | exact kn
                          · skip
                            refine zb_iret bkMo_styled_208 bdMo_styled_215 rfl (x := s) (h' := zN sg1) (Ps := []) rfl trivial rfl ?_
                            refine hq _ _ ?_
                            have ei : i = sg 395 0 := by lia
                            subst ei
                            refine ⟨_, _, rfl, rfl, kf, Or.inr ⟨hc, Or.inr ⟨a, ⟨p0, by lia, ha, pz⟩, fun hw => ?_, fun hw => ?_, fun hw => ?_⟩⟩⟩
                            · first | (exfalso; lia; done) | rfl
                            · first | (exfalso; lia; done) | exact ⟨⟨sy_pos (T := mSo sg m g c) ha ks.1 ks.2.2.2 (by lia) (by lia) (by lia), by lia⟩, by lia, ks.2.2.1, ks.2.2.2.elim (fun h => Or.inl (by lia)) Or.inr⟩
                            · first | (exfalso; lia; done) | exact kn
                        · skip
                          refine zb_iret bkMo_styled_197 bdMo_styled_215 rfl (x := a) (h' := zN sg1) (Ps := []) rfl trivial rfl ?_
                          refine hq _ _ ?_
                          have ei : i = sg 395 0 := by lia
                          subst ei
                          refine ⟨_, _, rfl, rfl, kf, Or.inr ⟨hc, Or.inr ⟨a, ⟨p0, by lia, ha, pz⟩, fun hw => ?_, fun hw => ?_, fun hw => ?_⟩⟩⟩
                          · first | (exfalso; lia; done) | rfl
                          · first | (exfalso; lia; done) | exact ⟨⟨sy_pos (T := mSo sg m g c) ha ks.1 ks.2.2.2 (by lia) (by lia) (by lia), by lia⟩, by lia, ks.2.2.1, ks.2.2.2.elim (fun h => Or.inl (by lia)) Or.inr⟩
                          · first | (exfalso; lia; done) | exact kn
                      · skip
                        refine zG_run bkMo_styled_134 (lv' := [(0, .ref 393), (1, .int f), (2, .int m), (3, .int g), (4, .int c), (5, .int w), (6, .int a), (7, .int s), (8, .int n), (9, .int i)]) (st' := [.int c, .int g, .int m, .int i, .ref 393]) (h' := zN sg1) (Ps := []) rfl trivial ?_
                        refine zG_callv (a := 393) (c := 10) (As := [.int i, .int m, .int g, .int c]) (rest := []) (N2 := 411) bdMo_styled_141 okMo_isSo lk10_291 (And.intro (by decide) (by decide)) (by decide) rfl rfl rfl (Nat.le_of_ble_eq_true rfl) (Nat.le_of_ble_eq_true rfl) (Nat.le_refl 411) (Nat.le_refl 411) zob_393 (cMo_isSo (i := i) (m := m) (g := g) (c := c) (by lia) (by lia) (by lia) (by lia)) ?_
                        rintro rr h' ⟨vo, sg14, rfl, rfl, hfo, hto, hvo⟩ -
                        rw [mS_row kr] at hto hvo
                        have e18 : sg14 393 18 = (mS sg (-1) i).2.2 := by rw [← hto]; rfl
                        have hQo : mQ sg sg14 := mQ_trans kf (mFr_Q hfo)
                        refine zb_ifeq (tgt := 167) bkMo_styled_144 bdMo_styled_150 (by decide) (lv' := [(10, .int vo), (0, .ref 393), (1, .int f), (2, .int m), (3, .int g), (4, .int c), (5, .int w), (6, .int a), (7, .int s), (8, .int n), (9, .int i)]) (st' := [.int s]) (h' := zN sg14) (x := vo) (Ps := []) rfl trivial (fun c15 => ?_) (fun c15 => ?_)
                        · skip
                          refine zb_ifeq (tgt := 182) bkMo_styled_167 bdMo_styled_175 (by decide) (lv' := [(7, .int (s + 0)), (10, .int vo), (0, .ref 393), (1, .int f), (2, .int m), (3, .int g), (4, .int c), (5, .int w), (6, .int a), (8, .int n), (9, .int i)]) (st' := [.int n]) (h' := zN sg14) (x := vo) (Ps := []) rfl trivial (fun c16 => ?_) (fun c16 => ?_)
                          · skip
                            refine zG_run bkMo_styled_182 (lv' := [(9, .int (i + 1)), (8, .int (n + 0)), (7, .int (s + 0)), (10, .int vo), (0, .ref 393), (1, .int f), (2, .int m), (3, .int g), (4, .int c), (5, .int w), (6, .int a)]) (st' := []) (h' := zN sg14) (Ps := []) rfl trivial ?_
                            refine zG_pick (lv' := [(0, .ref 393), (1, .int f), (2, .int m), (3, .int g), (4, .int c), (5, .int w), (6, .int a), (7, .int (s + 0)), (8, .int (n + 0)), (9, .int (i + 1))]) [4, 5, 6, 7, 8, 9, 10, 2, 1, 0] rfl ?_
                            refine ihk (s + 0) (n + 0) (i + 1) sg14 ?_ ?_
                            · refine ⟨?_, ?_, ?_, ?_, ?_⟩
                              · lia
                              · lia
                              · exact hQo
                              · have hT : ¬ mSo sg m g c i := hvo.elim (fun h => absurd h.1 (by lia)) (fun h => h.2)
                                rw [z0p]
                                refine ⟨ks.1, by lia, ks.2.2.1, ?_⟩
                                rcases ks.2.2.2 with h | h
                                · right; rw [show a + s = i by lia]; exact hT
                                · exact Or.inr h
                              · have hT : ¬ mSo sg m g c i := hvo.elim (fun h => absurd h.1 (by lia)) (fun h => h.2)
                                obtain ⟨F, k1n, k2n⟩ := kn
                                exact ⟨fun j => if j = i then 0 else F j, iNu_s (by lia) (by lia) (by lia : i < sg 395 0) ⟨k1n, k2n⟩ (Or.inr ⟨rfl, hT⟩)⟩
                            · exact zmu_up (by lia)
                          · skip
                            refine zG_run bkMo_styled_178 (lv' := [(9, .int (i + 1)), (8, .int (n + 1)), (7, .int (s + 0)), (10, .int vo), (0, .ref 393), (1, .int f), (2, .int m), (3, .int g), (4, .int c), (5, .int w), (6, .int a)]) (st' := []) (h' := zN sg14) (Ps := []) rfl trivial ?_
                            refine zG_pick (lv' := [(0, .ref 393), (1, .int f), (2, .int m), (3, .int g), (4, .int c), (5, .int w), (6, .int a), (7, .int (s + 0)), (8, .int (n + 1)), (9, .int (i + 1))]) [4, 5, 6, 7, 8, 9, 10, 2, 1, 0] rfl ?_
                            refine ihk (s + 0) (n + 1) (i + 1) sg14 ?_ ?_
                            · refine ⟨?_, ?_, ?_, ?_, ?_⟩
                              · lia
                              · lia
                              · exact hQo
                              · have hT : mSo sg m g c i := hvo.elim (fun h => h.2) (fun h => absurd h.1 (by lia))
                                rw [z0p]
                                refine ⟨ks.1, by lia, ks.2.2.1, Or.inr ?_⟩
                                rcases ks.2.2.2 with h | h
                                · exfalso; lia
                                · exact h
                              · have hT : mSo sg m g c i := hvo.elim (fun h => h.2) (fun h => absurd h.1 (by lia))
                                obtain ⟨F, k1n, k2n⟩ := kn
                                exact ⟨fun j => if j = i then 1 else F j, iNu_s (by lia) (by lia) (by lia : i < sg 395 0) ⟨k1n, k2n⟩ (Or.inl ⟨rfl, hT⟩)⟩
                            · exact zmu_up (by lia)
                        · skip
                          refine zb_icne (tgt := 167) bkMo_styled_153 bdMo_styled_160 (by decide) (lv' := [(10, .int vo), (0, .ref 393), (1, .int f), (2, .int m), (3, .int g), (4, .int c), (5, .int w), (6, .int a), (7, .int s), (8, .int n), (9, .int i)]) (st' := [.int s]) (h' := zN sg14) (x := s) (y := i - a) (Ps := []) rfl trivial (fun c17 => ?_) (fun c17 => ?_)
                          · skip
                            refine zb_ifeq (tgt := 182) bkMo_styled_167 bdMo_styled_175 (by decide) (lv' := [(7, .int (s + 0)), (10, .int vo), (0, .ref 393), (1, .int f), (2, .int m), (3, .int g), (4, .int c), (5, .int w), (6, .int a), (8, .int n), (9, .int i)]) (st' := [.int n]) (h' := zN sg14) (x := vo) (Ps := []) rfl trivial (fun c18 => ?_) (fun c18 => ?_)
                            · skip
                              refine zG_run bkMo_styled_182 (lv' := [(9, .int (i + 1)), (8, .int (n + 0)), (7, .int (s + 0)), (10, .int vo), (0, .ref 393), (1, .int f), (2, .int m), (3, .int g), (4, .int c), (5, .int w), (6, .int a)]) (st' := []) (h' := zN sg14) (Ps := []) rfl trivial ?_
                              refine zG_pick (lv' := [(0, .ref 393), (1, .int f), (2, .int m), (3, .int g), (4, .int c), (5, .int w), (6, .int a), (7, .int (s + 0)), (8, .int (n + 0)), (9, .int (i + 1))]) [4, 5, 6, 7, 8, 9, 10, 2, 1, 0] rfl ?_
                              refine ihk (s + 0) (n + 0) (i + 1) sg14 ?_ ?_
                              · refine ⟨?_, ?_, ?_, ?_, ?_⟩
                                · lia
                                · lia
                                · exact hQo
                                · have hT : ¬ mSo sg m g c i := hvo.elim (fun h => absurd h.1 (by lia)) (fun h => h.2)
                                  rw [z0p]
                                  refine ⟨ks.1, by lia, ks.2.2.1, ?_⟩
                                  rcases ks.2.2.2 with h | h
                                  · right; rw [show a + s = i by lia]; exact hT
                                  · exact Or.inr h
                                · have hT : ¬ mSo sg m g c i := hvo.elim (fun h => absurd h.1 (by lia)) (fun h => h.2)
                                  obtain ⟨F, k1n, k2n⟩ := kn
                                  exact ⟨fun j => if j = i then 0 else F j, iNu_s (by lia) (by lia) (by lia : i < sg 395 0) ⟨k1n, k2n⟩ (Or.inr ⟨rfl, hT⟩)⟩
                              · exact zmu_up (by lia)
                            · skip
                              refine zG_run bkMo_styled_178 (lv' := [(9, .int (i + 1)), (8, .int (n + 1)), (7, .int (s + 0)), (10, .int vo), (0, .ref 393), (1, .int f), (2, .int m), (3, .int g), (4, .int c), (5, .int w), (6, .int a)]) (st' := []) (h' := zN sg14) (Ps := []) rfl trivial ?_
                              refine zG_pick (lv' := [(0, .ref 393), (1, .int f), (2, .int m), (3, .int g), (4, .int c), (5, .int w), (6, .int a), (7, .int (s + 0)), (8, .int (n + 1)), (9, .int (i + 1))]) [4, 5, 6, 7, 8, 9, 10, 2, 1, 0] rfl ?_
                              refine ihk (s + 0) (n + 1) (i + 1) sg14 ?_ ?_
                              · refine ⟨?_, ?_, ?_, ?_, ?_⟩
                                · lia
                                · lia
                                · exact hQo
                                · have hT : mSo sg m g c i := hvo.elim (fun h => h.2) (fun h => absurd h.1 (by lia))
                                  rw [z0p]
                                  refine ⟨ks.1, by lia, ks.2.2.1, Or.inr ?_⟩
                                  rcases ks.2.2.2 with h | h
                                  · exfalso; lia
                                  · exact h
                                · have hT : mSo sg m g c i := hvo.elim (fun h => h.2) (fun h => absurd h.1 (by lia))
                                  obtain ⟨F, k1n, k2n⟩ := kn
                                  exact ⟨fun j => if j = i then 1 else F j, iNu_s (by lia) (by lia) (by lia : i < sg 395 0) ⟨k1n, k2n⟩ (Or.inl ⟨rfl, hT⟩)⟩
                              · exact zmu_up (by lia)
                          · skip
                            refine zb_ifeq (tgt := 182) bkMo_styled_163 bdMo_styled_175 (by decide) (lv' := [(7, .int (s + 1)), (10, .int vo), (0, .ref 393), (1, .int f), (2, .int m), (3, .int g), (4, .int c), (5, .int w), (6, .int a), (8, .int n), (9, .int i)]) (st' := [.int n]) (h' := zN sg14) (x := vo) (Ps := []) rfl trivial (fun c19 => ?_) (fun c19 => ?_)
                            · skip
                              refine zG_run bkMo_styled_182 (lv' := [(9, .int (i + 1)), (8, .int (n + 0)), (7, .int (s + 1)), (10, .int vo), (0, .ref 393), (1, .int f), (2, .int m), (3, .int g), (4, .int c), (5, .int w), (6, .int a)]) (st' := []) (h' := zN sg14) (Ps := []) rfl trivial ?_
                              refine zG_pick (lv' := [(0, .ref 393), (1, .int f), (2, .int m), (3, .int g), (4, .int c), (5, .int w), (6, .int a), (7, .int (s + 1)), (8, .int (n + 0)), (9, .int (i + 1))]) [4, 5, 6, 7, 8, 9, 10, 2, 1, 0] rfl ?_
                              refine ihk (s + 1) (n + 0) (i + 1) sg14 ?_ ?_
                              · refine ⟨?_, ?_, ?_, ?_, ?_⟩
                                · lia
                                · lia
                                · exact hQo
                                · exfalso; lia
                                · have hT : ¬ mSo sg m g c i := hvo.elim (fun h => absurd h.1 (by lia)) (fun h => h.2)
                                  obtain ⟨F, k1n, k2n⟩ := kn
                                  exact ⟨fun j => if j = i then 0 else F j, iNu_s (by lia) (by lia) (by lia : i < sg 395 0) ⟨k1n, k2n⟩ (Or.inr ⟨rfl, hT⟩)⟩
                              · exact zmu_up (by lia)
                            · skip
                              refine zG_run bkMo_styled_178 (lv' := [(9, .int (i + 1)), (8, .int (n + 1)), (7, .int (s + 1)), (10, .int vo), (0, .ref 393), (1, .int f), (2, .int m), (3, .int g), (4, .int c), (5, .int w), (6, .int a)]) (st' := []) (h' := zN sg14) (Ps := []) rfl trivial ?_
                              refine zG_pick (lv' := [(0, .ref 393), (1, .int f), (2, .int m), (3, .int g), (4, .int c), (5, .int w), (6, .int a), (7, .int (s + 1)), (8, .int (n + 1)), (9, .int (i + 1))]) [4, 5, 6, 7, 8, 9, 10, 2, 1, 0] rfl ?_
                              refine ihk (s + 1) (n + 1) (i + 1) sg14 ?_ ?_
                              · refine ⟨?_, ?_, ?_, ?_, ?_⟩
                                · lia
                                · lia
                                · exact hQo
                                · have hT : mSo sg m g c i := hvo.elim (fun h => h.2) (fun h => absurd h.1 (by lia))
                                  refine ⟨by lia, by lia, fun j j0 j1 => ?_, Or.inl (by lia)⟩
                                  by_cases hj : j = i
                                  · rw [hj]; exact hT
                                  · exact ks.2.2.1 j j0 (by lia)
                                · have hT : mSo sg m g c i := hvo.elim (fun h => h.2) (fun h => absurd h.1 (by lia))
                                  obtain ⟨F, k1n, k2n⟩ := kn
                                  exact ⟨fun j => if j = i then 1 else F j, iNu_s (by lia) (by lia) (by lia : i < sg 395 0) ⟨k1n, k2n⟩ (Or.inl ⟨rfl, hT⟩)⟩
                              · exact zmu_up (by lia)
                    · refine ⟨?_, ?_, ?_, ?_, ?_⟩
                      · lia
                      · lia
                      · exact hQo
                      · exact ⟨by lia, by lia, fun j j0 j1 => by exfalso; lia, Or.inl (by lia)⟩
                      · exact ⟨fun _ => 0, (zit_id (by lia) (fun j x j0 j1 => if_neg (by lia))).symm, fun j j0 j1 => by exfalso; lia⟩
                  · skip
                    refine zb_iret bkMo_styled_111 bdMo_styled_112 rfl (x := (-1)) (h' := zN sg8) (Ps := []) rfl trivial rfl ?_
                    refine hq _ _ ?_
                    exfalso; lia
                · skip
                  refine zG_run bkMo_styled_94 (lv' := [(6, .int (a + 1)), (0, .ref 393), (1, .int f), (2, .int m), (3, .int g), (4, .int c), (5, .int w)]) (st' := []) (h' := zN sg8) (Ps := []) rfl trivial ?_
                  refine zG_pick (lv' := [(0, .ref 393), (1, .int f), (2, .int m), (3, .int g), (4, .int c), (5, .int w), (6, .int (a + 1))]) [1, 2, 3, 4, 5, 6, 0] rfl ?_
                  refine iho (a + 1) sg8 ?_ ?_
                  · refine ⟨?_, ?_, ?_, ?_⟩
                    · lia
                    · lia
                    · exact hQo
                    · intro q q0 q1; by_cases hq2 : q = a
                      · rw [hq2]; exact hvo.elim (fun h => absurd h.1 (by lia)) (fun h => h.2)
                      · exact pz q q0 (by lia)
                  · exact zmu_up (by lia)
            · refine ⟨?_, ?_, ?_, ?_⟩
              · lia
              · lia
              · exact mQ_refl
              · intro q q0 q1; exfalso; lia
          · skip
            refine zb_iret bkMo_styled_65 bdMo_styled_66 rfl (x := (-1)) (h' := zN sg) (Ps := []) rfl trivial rfl ?_
            refine hq _ _ ?_
            exact ⟨_, _, rfl, rfl, mQ_refl, Or.inl ⟨by clear hq hp; grind, rfl⟩⟩
theorem bMo_styled2 {sg : zSig} {f m g c w : Int32} (n0 : 0 ≤ sg 395 0) (n2 : sg 395 0 ≤ 200) (g0 : 0 ≤ sg 395 1) (g1 : sg 395 1 ≤ 16) (hp : okP sg) : zG mMo_styled 411 (fun rr h' => ∃ v sg', rr = some (.int v) ∧ h' = zN sg' ∧ mQ sg sg' ∧ ((¬ (((0 ≤ f ∧ f < sg 395 0) ∧ ((0 ≤ m ∧ m ≤ 15) ∧ (0 ≤ g ∧ g ≤ 15) ∧ (-1 ≤ c ∧ c ≤ 7))) ∧ 0 ≤ w ∧ w ≤ 2) ∧ v = -1) ∨ ((((0 ≤ f ∧ f < sg 395 0) ∧ ((0 ≤ m ∧ m ≤ 15) ∧ (0 ≤ g ∧ g ≤ 15) ∧ (-1 ≤ c ∧ c ≤ 7))) ∧ 0 ≤ w ∧ w ≤ 2) ∧ mYd2 (mSo sg m g c) f (sg 395 0) w v))) 5 [(0, .ref 393), (1, .int f), (2, .int m), (3, .int g), (4, .int c), (5, .int w)] [] (zN sg) := lMo_styled2 n0 n2 g0 g1 hp (fun _ _ q => q)
