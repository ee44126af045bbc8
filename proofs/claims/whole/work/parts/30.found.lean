/-! found by letters and by style: printed by wip/whole/p30.py -/
def fitB (sg : zSig) (m g c lo hi p k : Int32) : Bool := decide (sg 2 (p + k) = sg 35 k ∧ fSu (nS sg (p + k)) m g c ≠ 0 ∧ lo ≤ fSz (nS sg (p + k)) ∧ fSz (nS sg (p + k)) ≤ hi)
def stdB (sg : zSig) (m g c lo hi p : Int32) : Prop := ∀ k, 0 ≤ k → k < sg 34 1 → fitB sg m g c lo hi p k = true
def qFs (sg : zSig) (f m g c lo hi v : Int32) : Prop := (v = -1 ∧ (¬ (0 ≤ f ∧ f ≤ sg 1 2) ∨ sg 34 1 = 0)) ∨ ((0 ≤ f ∧ f ≤ sg 1 2) ∧ sg 34 1 ≠ 0 ∧ ((f ≤ v ∧ v + sg 34 1 ≤ sg 1 2 ∧ stdB sg m g c lo hi v ∧ ∀ p, f ≤ p → p < v → ¬ stdB sg m g c lo hi p) ∨ (v = -1 ∧ ∀ p, f ≤ p → p ≤ sg 1 2 → p + sg 34 1 ≤ sg 1 2 → ¬ stdB sg m g c lo hi p)))
theorem bkSR_firstStand_0 : zBk mSR_firstStand 0 [(1, 0, 1, 0, 0), (5, 9, 0, 1, 0), (1, 1, 0, 0, 0)] = some 5 := by decide +kernel
theorem bkSR_firstStand_8 : zBk mSR_firstStand 8 [] = some 8 := by decide +kernel
theorem bkSR_firstStand_21 : zBk mSR_firstStand 21 [(0, 0, 0, 0, -1)] = some 22 := by decide +kernel
theorem bkSR_firstStand_11 : zBk mSR_firstStand 11 [(1, 0, 1, 0, 0), (5, 9, 1, 34, 1), (5, 7, 1, 0, 1)] = some 18 := by decide +kernel
theorem bkSR_firstStand_23 : zBk mSR_firstStand 23 [(1, 0, 1, 0, 0)] = some 24 := by decide +kernel
theorem bkSR_firstStand_27 : zBk mSR_firstStand 27 [(2, 7, 1, 0, 0), (1, 1, 0, 0, 0), (2, 8, 0, 0, 0)] = some 32 := by decide +kernel
theorem bkSR_firstStand_32 : zBk mSR_firstStand 32 [(1, 8, 0, 0, 0), (1, 0, 1, 0, 0), (5, 9, 1, 34, 1), (5, 7, 1, 0, 1), (4, 0, 0, 0, 0), (1, 0, 1, 0, 0), (5, 9, 0, 1, 0), (5, 5, 2, 0, 2)] = some 49 := by decide +kernel
theorem bkSR_firstStand_174 : zBk mSR_firstStand 174 [(0, 0, 0, 0, -1)] = some 175 := by decide +kernel
theorem bkSR_firstStand_52 : zBk mSR_firstStand 52 [(0, 0, 0, 0, 1), (2, 9, 0, 0, 0), (0, 0, 0, 0, 0), (2, 10, 0, 0, 0)] = some 58 := by decide +kernel
theorem bkSR_firstStand_58 : zBk mSR_firstStand 58 [(1, 10, 0, 0, 0), (1, 0, 1, 0, 0), (5, 9, 1, 34, 1), (5, 7, 1, 0, 1)] = some 67 := by decide +kernel
theorem bkSR_firstStand_160 : zBk mSR_firstStand 160 [(1, 9, 0, 0, 0)] = some 162 := by decide +kernel
theorem bkSR_firstStand_168 : zBk mSR_firstStand 168 [(3, 8, 0, 0, 1), (22, 32, 0, 0, 0)] = some 32 := by decide +kernel
theorem bkSR_firstStand_165 : zBk mSR_firstStand 165 [(1, 8, 0, 0, 0)] = some 167 := by decide +kernel
theorem bkSR_firstStand_70 : zBk mSR_firstStand 70 [(1, 9, 0, 0, 0)] = some 72 := by decide +kernel
theorem bkSR_firstStand_75 : zBk mSR_firstStand 75 [(1, 7, 1, 0, 0), (5, 3, 0, 1, 0), (1, 8, 0, 0, 0), (1, 10, 0, 0, 0), (4, 0, 0, 0, 0), (7, 0, 0, 0, 0), (2, 11, 0, 0, 0)] = some 88 := by decide +kernel
theorem bkSR_firstStand_88 : zBk mSR_firstStand 88 [(1, 11, 0, 0, 0)] = some 90 := by decide +kernel
theorem bkSR_firstStand_93 : zBk mSR_firstStand 93 [(2, 12, 0, 0, 0), (1, 0, 1, 0, 0), (5, 9, 0, 1, 0), (5, 5, 0, 1, 0), (1, 8, 0, 0, 0), (1, 10, 0, 0, 0), (4, 0, 0, 0, 0), (7, 0, 0, 0, 0), (1, 0, 1, 0, 0), (5, 9, 1, 34, 1), (5, 7, 0, 1, 0), (1, 10, 0, 0, 0), (7, 0, 0, 0, 0)] = some 118 := by decide +kernel
theorem bkSR_firstStand_151 : zBk mSR_firstStand 151 [(0, 0, 0, 0, 0), (2, 9, 0, 0, 0), (3, 10, 0, 0, 1), (22, 58, 0, 0, 0)] = some 58 := by decide +kernel
theorem bkSR_firstStand_121 : zBk mSR_firstStand 121 [(1, 11, 0, 0, 0), (1, 2, 0, 0, 0), (1, 3, 0, 0, 0), (1, 4, 0, 0, 0)] = some 127 := by decide +kernel
theorem bkSR_firstStand_130 : zBk mSR_firstStand 130 [] = some 130 := by decide +kernel
theorem bkSR_firstStand_133 : zBk mSR_firstStand 133 [(1, 5, 0, 0, 0), (1, 12, 0, 0, 0)] = some 137 := by decide +kernel
theorem bkSR_firstStand_140 : zBk mSR_firstStand 140 [(1, 12, 0, 0, 0), (1, 6, 0, 0, 0)] = some 144 := by decide +kernel
theorem bkSR_firstStand_147 : zBk mSR_firstStand 147 [(0, 0, 0, 0, 1), (22, 152, 0, 0, 0), (2, 9, 0, 0, 0), (3, 10, 0, 0, 1), (22, 58, 0, 0, 0)] = some 58 := by decide +kernel
theorem bdSR_firstStand_5 : decode mSR_firstStand.2.2.1 5 = .ok (.invokevirtual 85, 3) := by decide +kernel
theorem bdSR_firstStand_8 : decode mSR_firstStand.2.2.1 8 = .ok (.ifCond .eq 13, 3) := by decide +kernel
theorem bdSR_firstStand_18 : decode mSR_firstStand.2.2.1 18 = .ok (.ifCond .ne 5, 3) := by decide +kernel
theorem bdSR_firstStand_22 : decode mSR_firstStand.2.2.1 22 = .ok (.ireturn, 1) := by decide +kernel
theorem bdSR_firstStand_24 : decode mSR_firstStand.2.2.1 24 = .ok (.invokevirtual 184, 3) := by decide +kernel
theorem bdSR_firstStand_49 : decode mSR_firstStand.2.2.1 49 = .ok (.if_icmp .gt 125, 3) := by decide +kernel
theorem bdSR_firstStand_67 : decode mSR_firstStand.2.2.1 67 = .ok (.if_icmp .ge 93, 3) := by decide +kernel
theorem bdSR_firstStand_72 : decode mSR_firstStand.2.2.1 72 = .ok (.ifCond .eq 88, 3) := by decide +kernel
theorem bdSR_firstStand_90 : decode mSR_firstStand.2.2.1 90 = .ok (.invokestatic 257, 3) := by decide +kernel
theorem bdSR_firstStand_118 : decode mSR_firstStand.2.2.1 118 = .ok (.if_icmp .ne 33, 3) := by decide +kernel
theorem bdSR_firstStand_127 : decode mSR_firstStand.2.2.1 127 = .ok (.invokestatic 289, 3) := by decide +kernel
theorem bdSR_firstStand_130 : decode mSR_firstStand.2.2.1 130 = .ok (.ifCond .eq 21, 3) := by decide +kernel
theorem bdSR_firstStand_137 : decode mSR_firstStand.2.2.1 137 = .ok (.if_icmp .gt 14, 3) := by decide +kernel
theorem bdSR_firstStand_144 : decode mSR_firstStand.2.2.1 144 = .ok (.if_icmp .gt 7, 3) := by decide +kernel
theorem bdSR_firstStand_162 : decode mSR_firstStand.2.2.1 162 = .ok (.ifCond .eq 6, 3) := by decide +kernel
theorem bdSR_firstStand_167 : decode mSR_firstStand.2.2.1 167 = .ok (.ireturn, 1) := by decide +kernel
theorem bdSR_firstStand_175 : decode mSR_firstStand.2.2.1 175 = .ok (.ireturn, 1) := by decide +kernel
theorem lSR_firstStand {sg : zSig} {f m g c lo hi : Int32} (ob : okS sg 1) (h0 : 0 ≤ sg 36 2) (h1 : sg 36 2 < 8) (u0 : 0 ≤ sg 36 3) (u1 : sg 36 3 ≤ 8) (hf : okF sg) (t0 : 0 ≤ sg 34 1) (t1 : sg 34 1 ≤ 400) {Q : Option Value → zHp → Prop} (hq : ∀ rr h', (∃ v sg', rr = some (.int v) ∧ h' = zN sg' ∧ hQ sg sg' ∧ qFs sg f m g c lo hi v) → Q rr h') : zG mSR_firstStand 411 Q 0 [(0, .ref 0), (1, .int f), (2, .int m), (3, .int g), (4, .int c), (5, .int lo), (6, .int hi)] [] (zN sg) := by
  obtain ⟨⟨n0, n1⟩, ⟨g0, g1⟩, ⟨a0, a1⟩, -⟩ := id ob
  refine zG_run bkSR_firstStand_0 (lv' := [(0, .ref 0), (1, .int f), (2, .int m), (3, .int g), (4, .int c), (5, .int lo), (6, .int hi)]) (st' := [.int f, .ref 1]) (h' := zN sg) (Ps := [zOb (zN sg) 0 9 ∧ (zN sg).2.2 0 0 = true]) rfl (zA ⟨zob_0, rfl⟩ trivial) ?_
  refine zG_callv (a := 1) (c := 5) (As := [.int f]) (rest := []) (N2 := 411) bdSR_firstStand_5 okShe_hasPlace lk9_85 (And.intro (by decide) (by decide)) (by decide) rfl rfl rfl (Nat.le_of_ble_eq_true rfl) (Nat.le_of_ble_eq_true rfl) (Nat.le_refl 411) (Nat.le_refl 411) zob_1 (cShe_hasPlace zob_1) ?_
  rintro rr h' ⟨rfl, rfl⟩ -
  refine zb_ifeq (tgt := 21) bkSR_firstStand_8 bdSR_firstStand_8 (by decide) (lv' := [(0, .ref 0), (1, .int f), (2, .int m), (3, .int g), (4, .int c), (5, .int lo), (6, .int hi)]) (st' := []) (h' := zN sg) (x := if 0 ≤ f ∧ f ≤ sg 1 2 then 1 else 0) (Ps := []) rfl trivial (fun c1 => ?_) (fun c1 => ?_)
  · skip
    refine zb_iret bkSR_firstStand_21 bdSR_firstStand_22 rfl (x := (-1)) (h' := zN sg) (Ps := []) rfl trivial rfl ?_
    refine hq _ _ ?_
    exact ⟨_, _, rfl, rfl, hQ_refl hf, Or.inl ⟨rfl, by lia⟩⟩
  · skip
    refine zb_ifne (tgt := 23) bkSR_firstStand_11 bdSR_firstStand_18 (by decide) (lv' := [(0, .ref 0), (1, .int f), (2, .int m), (3, .int g), (4, .int c), (5, .int lo), (6, .int hi)]) (st' := []) (h' := zN sg) (x := sg 34 1) (Ps := [zOb (zN sg) 0 9 ∧ (zN sg).2.2 0 1 = true, zOb (zN sg) 34 7]) rfl (zA ⟨zob_0, rfl⟩ (zA zob_34 trivial)) (fun c2 => ?_) (fun c2 => ?_)
    · skip
      refine zG_run bkSR_firstStand_23 (lv' := [(0, .ref 0), (1, .int f), (2, .int m), (3, .int g), (4, .int c), (5, .int lo), (6, .int hi)]) (st' := [.ref 0]) (h' := zN sg) (Ps := []) rfl trivial ?_
      refine zG_callv (a := 0) (c := 9) (As := []) (rest := []) (N2 := 411) bdSR_firstStand_24 okSR_looksNow lk9_184 (And.intro (by decide) (by decide)) (by decide) rfl rfl rfl (Nat.le_of_ble_eq_true rfl) (Nat.le_of_ble_eq_true rfl) (Nat.le_refl 411) (Nat.le_refl 411) zob_0 (cSR_looksNow ob hf) ?_
      rintro rr h' ⟨sg0, rfl, rfl, hl⟩ -
      have hq0 : hQ sg sg0 := hLk_Q ob hl
      have fl := hQ_s hq0
      have y2 : sg0 1 2 = sg 1 2 := fl 1 2 (by decide) (by decide)
      have y4 : sg0 1 4 = sg 1 4 := fl 1 4 (by decide) (by decide)
      have y6 : sg0 1 6 = sg 1 6 := fl 1 6 (by decide) (by decide)
      have yt : sg0 34 1 = sg 34 1 := fl 34 1 (by decide) (by decide)
      have l3 : sg0 313 1 = sg 1 2 := hl.2.2.1
      have ts : ∀ j, 0 ≤ j → j < sg 1 2 → sg0 314 j = nS sg j := hl.2.2.2
      refine zG_run bkSR_firstStand_27 (lv' := [(8, .int f), (7, .ref 313), (0, .ref 0), (1, .int f), (2, .int m), (3, .int g), (4, .int c), (5, .int lo), (6, .int hi)]) (st' := []) (h' := zN sg0) (Ps := []) rfl trivial ?_
      refine zG_pick (lv' := [(0, .ref 0), (1, .int f), (2, .int m), (3, .int g), (4, .int c), (5, .int lo), (6, .int hi), (7, .ref 313), (8, .int f)]) [2, 3, 4, 5, 6, 7, 8, 1, 0] rfl ?_
      refine zlp1 (fun (p : Int32) => zG mSR_firstStand 411 Q 32 [(0, .ref 0), (1, .int f), (2, .int m), (3, .int g), (4, .int c), (5, .int lo), (6, .int hi), (7, .ref 313), (8, .int p)] [] (zN sg0)) (fun (p : Int32) => (f ≤ p) ∧ (p ≤ sg 1 2) ∧ (∀ q, f ≤ q → q < p → ¬ stdB sg m g c lo hi q)) (fun (p : Int32) => zmu (sg 1 2) p) ?_ f ?_
      · intro p ho iho
        obtain ⟨p0, p1, pn⟩ := ho
        refine zb_icgt (tgt := 174) bkSR_firstStand_32 bdSR_firstStand_49 (by decide) (lv' := [(0, .ref 0), (1, .int f), (2, .int m), (3, .int g), (4, .int c), (5, .int lo), (6, .int hi), (7, .ref 313), (8, .int p)]) (st' := []) (h' := zN sg0) (x := p + (sg0 34 1)) (y := sg0 1 2) (Ps := [zOb (zN sg0) 0 9 ∧ (zN sg0).2.2 0 1 = true, zOb (zN sg0) 34 7, zOb (zN sg0) 0 9 ∧ (zN sg0).2.2 0 0 = true, zOb (zN sg0) 1 5]) rfl (zA ⟨zob_0, rfl⟩ (zA zob_34 (zA ⟨zob_0, rfl⟩ (zA zob_1 trivial)))) (fun c3 => ?_) (fun c3 => ?_)
        · skip
          refine zb_iret bkSR_firstStand_174 bdSR_firstStand_175 rfl (x := (-1)) (h' := zN sg0) (Ps := []) rfl trivial rfl ?_
          refine hq _ _ ?_
          exact ⟨_, _, rfl, rfl, hq0, Or.inr ⟨by lia, by lia, Or.inr ⟨rfl, fun q q0 q1 q2 => pn q q0 (by lia)⟩⟩⟩
        · skip
          refine zG_run bkSR_firstStand_52 (lv' := [(10, .int 0), (9, .int 1), (0, .ref 0), (1, .int f), (2, .int m), (3, .int g), (4, .int c), (5, .int lo), (6, .int hi), (7, .ref 313), (8, .int p)]) (st' := []) (h' := zN sg0) (Ps := []) rfl trivial ?_
          refine zG_pick (lv' := [(0, .ref 0), (1, .int f), (2, .int m), (3, .int g), (4, .int c), (5, .int lo), (6, .int hi), (7, .ref 313), (8, .int p), (9, .int 1), (10, .int 0)]) [2, 3, 4, 5, 6, 7, 8, 9, 10, 1, 0] rfl ?_
          refine zlp2 (fun (b : Int32) (k : Int32) => zG mSR_firstStand 411 Q 58 [(0, .ref 0), (1, .int f), (2, .int m), (3, .int g), (4, .int c), (5, .int lo), (6, .int hi), (7, .ref 313), (8, .int p), (9, .int b), (10, .int k)] [] (zN sg0)) (fun (b : Int32) (k : Int32) => (0 ≤ k) ∧ (k ≤ sg 34 1) ∧ (b = 0 ∨ b = 1) ∧ (b ≠ 0 → ∀ j, 0 ≤ j → j < k → fitB sg m g c lo hi p j = true) ∧ (b = 0 → ∃ j, 0 ≤ j ∧ j < sg 34 1 ∧ fitB sg m g c lo hi p j = false)) (fun (b : Int32) (k : Int32) => zmu (sg 34 1) k) ?_ 1 0 ?_
          · intro b k hk ihk
            obtain ⟨k0, k1, kb, kt, kf⟩ := hk
            refine zb_icge (tgt := 160) bkSR_firstStand_58 bdSR_firstStand_67 (by decide) (lv' := [(0, .ref 0), (1, .int f), (2, .int m), (3, .int g), (4, .int c), (5, .int lo), (6, .int hi), (7, .ref 313), (8, .int p), (9, .int b), (10, .int k)]) (st' := []) (h' := zN sg0) (x := k) (y := sg0 34 1) (Ps := [zOb (zN sg0) 0 9 ∧ (zN sg0).2.2 0 1 = true, zOb (zN sg0) 34 7]) rfl (zA ⟨zob_0, rfl⟩ (zA zob_34 trivial)) (fun c4 => ?_) (fun c4 => ?_)
            · skip
              refine zb_ifeq (tgt := 168) bkSR_firstStand_160 bdSR_firstStand_162 (by decide) (lv' := [(0, .ref 0), (1, .int f), (2, .int m), (3, .int g), (4, .int c), (5, .int lo), (6, .int hi), (7, .ref 313), (8, .int p), (9, .int b), (10, .int k)]) (st' := []) (h' := zN sg0) (x := b) (Ps := []) rfl trivial (fun c5 => ?_) (fun c5 => ?_)
              · skip
                refine zG_run bkSR_firstStand_168 (lv' := [(8, .int (p + 1)), (0, .ref 0), (1, .int f), (2, .int m), (3, .int g), (4, .int c), (5, .int lo), (6, .int hi), (7, .ref 313), (9, .int b), (10, .int k)]) (st' := []) (h' := zN sg0) (Ps := []) rfl trivial ?_
                refine zG_pick (lv' := [(0, .ref 0), (1, .int f), (2, .int m), (3, .int g), (4, .int c), (5, .int lo), (6, .int hi), (7, .ref 313), (8, .int (p + 1))]) [1, 2, 3, 4, 5, 6, 7, 8, 0] rfl ?_
                refine iho (p + 1) ?_ ?_
                · refine ⟨?_, ?_, ?_⟩
                  · lia
                  · lia
                  · intro q q0 q1; by_cases hq1 : q = p
                    · rw [hq1]; intro hs; obtain ⟨j, j0, j1, j2⟩ := kf (by lia); rw [hs j j0 j1] at j2; exact absurd j2 (by decide)
                    · exact pn q q0 (by lia)
                · exact zmu_up (by lia)
              · skip
                refine zb_iret bkSR_firstStand_165 bdSR_firstStand_167 rfl (x := p) (h' := zN sg0) (Ps := []) rfl trivial rfl ?_
                refine hq _ _ ?_
                exact ⟨_, _, rfl, rfl, hq0, Or.inr ⟨by lia, by lia, Or.inl ⟨p0, by lia, fun j j0 j1 => kt (by lia) j j0 (by lia), pn⟩⟩⟩
            · skip
              refine zb_ifeq (tgt := 160) bkSR_firstStand_70 bdSR_firstStand_72 (by decide) (lv' := [(0, .ref 0), (1, .int f), (2, .int m), (3, .int g), (4, .int c), (5, .int lo), (6, .int hi), (7, .ref 313), (8, .int p), (9, .int b), (10, .int k)]) (st' := []) (h' := zN sg0) (x := b) (Ps := []) rfl trivial (fun c6 => ?_) (fun c6 => ?_)
              · skip
                refine zb_ifeq (tgt := 168) bkSR_firstStand_160 bdSR_firstStand_162 (by decide) (lv' := [(0, .ref 0), (1, .int f), (2, .int m), (3, .int g), (4, .int c), (5, .int lo), (6, .int hi), (7, .ref 313), (8, .int p), (9, .int b), (10, .int k)]) (st' := []) (h' := zN sg0) (x := b) (Ps := []) rfl trivial (fun c7 => ?_) (fun c7 => ?_)
                · skip
                  refine zG_run bkSR_firstStand_168 (lv' := [(8, .int (p + 1)), (0, .ref 0), (1, .int f), (2, .int m), (3, .int g), (4, .int c), (5, .int lo), (6, .int hi), (7, .ref 313), (9, .int b), (10, .int k)]) (st' := []) (h' := zN sg0) (Ps := []) rfl trivial ?_
                  refine zG_pick (lv' := [(0, .ref 0), (1, .int f), (2, .int m), (3, .int g), (4, .int c), (5, .int lo), (6, .int hi), (7, .ref 313), (8, .int (p + 1))]) [1, 2, 3, 4, 5, 6, 7, 8, 0] rfl ?_
                  refine iho (p + 1) ?_ ?_
                  · refine ⟨?_, ?_, ?_⟩
                    · lia
                    · lia
                    · intro q q0 q1; by_cases hq1 : q = p
                      · rw [hq1]; intro hs; obtain ⟨j, j0, j1, j2⟩ := kf (by lia); rw [hs j j0 j1] at j2; exact absurd j2 (by decide)
                      · exact pn q q0 (by lia)
                  · exact zmu_up (by lia)
                · skip
                  refine zb_iret bkSR_firstStand_165 bdSR_firstStand_167 rfl (x := p) (h' := zN sg0) (Ps := []) rfl trivial rfl ?_
                  refine hq _ _ ?_
                  exact ⟨_, _, rfl, rfl, hq0, Or.inr ⟨by lia, by lia, Or.inl ⟨p0, by lia, fun j j0 j1 => kt (by lia) j j0 (by lia), pn⟩⟩⟩
              · skip
                refine zG_run bkSR_firstStand_75 (lv' := [(11, .int (sg0 314 (p + k))), (0, .ref 0), (1, .int f), (2, .int m), (3, .int g), (4, .int c), (5, .int lo), (6, .int hi), (7, .ref 313), (8, .int p), (9, .int b), (10, .int k)]) (st' := []) (h' := zN sg0) (Ps := [zOb (zN sg0) 313 3 ∧ (zN sg0).2.2 313 0 = true, zInL (zN sg0) 314 (p + k)]) rfl (zA ⟨zob_313, rfl⟩ (zA (zinL_314 (i := p + k) (by lia) (by lia)) trivial)) ?_
                have e1 : sg0 2 (p + k) = sg 2 (p + k) := fl 2 _ (by decide) (by decide)
                have e2 : sg0 35 k = sg 35 k := fl 35 _ (by decide) (by decide)
                have e3 : sg0 314 (p + k) = nS sg (p + k) := ts _ (by lia) (by lia)
                refine zG_run bkSR_firstStand_88 (lv' := [(11, .int (sg0 314 (p + k))), (0, .ref 0), (1, .int f), (2, .int m), (3, .int g), (4, .int c), (5, .int lo), (6, .int hi), (7, .ref 313), (8, .int p), (9, .int b), (10, .int k)]) (st' := [.int (sg0 314 (p + k))]) (h' := zN sg0) (Ps := []) rfl trivial ?_
                refine zG_calls (As := [.int (sg0 314 (p + k))]) (rest := []) (N2 := 411) bdSR_firstStand_90 okSty_sizeOf lk9_257 (And.intro (by decide) (by decide)) rfl rfl (Nat.le_of_ble_eq_true rfl) (Nat.le_of_ble_eq_true rfl) (Nat.le_refl 411) (Nat.le_refl 411) cSty_sizeOf ?_
                rintro rr h' ⟨rfl, rfl⟩ -
                refine zb_icne (tgt := 151) bkSR_firstStand_93 bdSR_firstStand_118 (by decide) (lv' := [(12, .int (fSz (sg0 314 (p + k)))), (11, .int (sg0 314 (p + k))), (0, .ref 0), (1, .int f), (2, .int m), (3, .int g), (4, .int c), (5, .int lo), (6, .int hi), (7, .ref 313), (8, .int p), (9, .int b), (10, .int k)]) (st' := []) (h' := zN sg0) (x := sg0 2 (p + k)) (y := sg0 35 k) (Ps := [zOb (zN sg0) 0 9 ∧ (zN sg0).2.2 0 0 = true, zOb (zN sg0) 1 5 ∧ (zN sg0).2.2 1 0 = true, zInL (zN sg0) 2 (p + k), zOb (zN sg0) 0 9 ∧ (zN sg0).2.2 0 1 = true, zOb (zN sg0) 34 7 ∧ (zN sg0).2.2 34 0 = true, zInL (zN sg0) 35 k]) rfl (zA ⟨zob_0, rfl⟩ (zA ⟨zob_1, rfl⟩ (zA (zinL_2 (i := p + k) (by lia) (by lia)) (zA ⟨zob_0, rfl⟩ (zA ⟨zob_34, rfl⟩ (zA (zinL_35 (i := k) (by lia) (by lia)) trivial)))))) (fun c8 => ?_) (fun c8 => ?_)
                · skip
                  refine zG_run bkSR_firstStand_151 (lv' := [(10, .int (k + 1)), (9, .int 0), (12, .int (fSz (sg0 314 (p + k)))), (11, .int (sg0 314 (p + k))), (0, .ref 0), (1, .int f), (2, .int m), (3, .int g), (4, .int c), (5, .int lo), (6, .int hi), (7, .ref 313), (8, .int p)]) (st' := []) (h' := zN sg0) (Ps := []) rfl trivial ?_
                  refine zG_pick (lv' := [(0, .ref 0), (1, .int f), (2, .int m), (3, .int g), (4, .int c), (5, .int lo), (6, .int hi), (7, .ref 313), (8, .int p), (9, .int 0), (10, .int (k + 1))]) [4, 5, 6, 7, 8, 9, 10, 11, 12, 1, 0] rfl ?_
                  refine ihk 0 (k + 1) ?_ ?_
                  · refine ⟨?_, ?_, ?_, ?_, ?_⟩
                    · lia
                    · lia
                    · exact Or.inl rfl
                    · intro q; exact absurd rfl q
                    · intro _; refine ⟨k, k0, by lia, ?_⟩; unfold fitB; rw [← e3]; exact decide_eq_false (by lia)
                  · exact zmu_up (by lia)
                · skip
                  refine zG_run bkSR_firstStand_121 (lv' := [(12, .int (fSz (sg0 314 (p + k)))), (11, .int (sg0 314 (p + k))), (0, .ref 0), (1, .int f), (2, .int m), (3, .int g), (4, .int c), (5, .int lo), (6, .int hi), (7, .ref 313), (8, .int p), (9, .int b), (10, .int k)]) (st' := [.int c, .int g, .int m, .int (sg0 314 (p + k))]) (h' := zN sg0) (Ps := []) rfl trivial ?_
                  refine zG_calls (As := [.int (sg0 314 (p + k)), .int m, .int g, .int c]) (rest := []) (N2 := 411) bdSR_firstStand_127 okSty_suits lk9_289 (And.intro (by decide) (by decide)) rfl rfl (Nat.le_of_ble_eq_true rfl) (Nat.le_of_ble_eq_true rfl) (Nat.le_refl 411) (Nat.le_refl 411) cSty_suits ?_
                  rintro rr h' ⟨rfl, rfl⟩ -
                  refine zb_ifeq (tgt := 151) bkSR_firstStand_130 bdSR_firstStand_130 (by decide) (lv' := [(12, .int (fSz (sg0 314 (p + k)))), (11, .int (sg0 314 (p + k))), (0, .ref 0), (1, .int f), (2, .int m), (3, .int g), (4, .int c), (5, .int lo), (6, .int hi), (7, .ref 313), (8, .int p), (9, .int b), (10, .int k)]) (st' := []) (h' := zN sg0) (x := fSu (sg0 314 (p + k)) m g c) (Ps := []) rfl trivial (fun c9 => ?_) (fun c9 => ?_)
                  · skip
                    refine zG_run bkSR_firstStand_151 (lv' := [(10, .int (k + 1)), (9, .int 0), (12, .int (fSz (sg0 314 (p + k)))), (11, .int (sg0 314 (p + k))), (0, .ref 0), (1, .int f), (2, .int m), (3, .int g), (4, .int c), (5, .int lo), (6, .int hi), (7, .ref 313), (8, .int p)]) (st' := []) (h' := zN sg0) (Ps := []) rfl trivial ?_
                    refine zG_pick (lv' := [(0, .ref 0), (1, .int f), (2, .int m), (3, .int g), (4, .int c), (5, .int lo), (6, .int hi), (7, .ref 313), (8, .int p), (9, .int 0), (10, .int (k + 1))]) [4, 5, 6, 7, 8, 9, 10, 11, 12, 1, 0] rfl ?_
                    refine ihk 0 (k + 1) ?_ ?_
                    · refine ⟨?_, ?_, ?_, ?_, ?_⟩
                      · lia
                      · lia
                      · exact Or.inl rfl
                      · intro q; exact absurd rfl q
                      · intro _; refine ⟨k, k0, by lia, ?_⟩; unfold fitB; rw [← e3]; exact decide_eq_false (by lia)
                    · exact zmu_up (by lia)
                  · skip
                    refine zb_icgt (tgt := 151) bkSR_firstStand_133 bdSR_firstStand_137 (by decide) (lv' := [(12, .int (fSz (sg0 314 (p + k)))), (11, .int (sg0 314 (p + k))), (0, .ref 0), (1, .int f), (2, .int m), (3, .int g), (4, .int c), (5, .int lo), (6, .int hi), (7, .ref 313), (8, .int p), (9, .int b), (10, .int k)]) (st' := []) (h' := zN sg0) (x := lo) (y := fSz (sg0 314 (p + k))) (Ps := []) rfl trivial (fun c10 => ?_) (fun c10 => ?_)
                    · skip
                      refine zG_run bkSR_firstStand_151 (lv' := [(10, .int (k + 1)), (9, .int 0), (12, .int (fSz (sg0 314 (p + k)))), (11, .int (sg0 314 (p + k))), (0, .ref 0), (1, .int f), (2, .int m), (3, .int g), (4, .int c), (5, .int lo), (6, .int hi), (7, .ref 313), (8, .int p)]) (st' := []) (h' := zN sg0) (Ps := []) rfl trivial ?_
                      refine zG_pick (lv' := [(0, .ref 0), (1, .int f), (2, .int m), (3, .int g), (4, .int c), (5, .int lo), (6, .int hi), (7, .ref 313), (8, .int p), (9, .int 0), (10, .int (k + 1))]) [4, 5, 6, 7, 8, 9, 10, 11, 12, 1, 0] rfl ?_
                      refine ihk 0 (k + 1) ?_ ?_
                      · refine ⟨?_, ?_, ?_, ?_, ?_⟩
                        · lia
                        · lia
                        · exact Or.inl rfl
                        · intro q; exact absurd rfl q
                        · intro _; refine ⟨k, k0, by lia, ?_⟩; unfold fitB; rw [← e3]; exact decide_eq_false (by lia)
                      · exact zmu_up (by lia)
                    · skip
                      refine zb_icgt (tgt := 151) bkSR_firstStand_140 bdSR_firstStand_144 (by decide) (lv' := [(12, .int (fSz (sg0 314 (p + k)))), (11, .int (sg0 314 (p + k))), (0, .ref 0), (1, .int f), (2, .int m), (3, .int g), (4, .int c), (5, .int lo), (6, .int hi), (7, .ref 313), (8, .int p), (9, .int b), (10, .int k)]) (st' := []) (h' := zN sg0) (x := fSz (sg0 314 (p + k))) (y := hi) (Ps := []) rfl trivial (fun c11 => ?_) (fun c11 => ?_)
                      · skip
                        refine zG_run bkSR_firstStand_151 (lv' := [(10, .int (k + 1)), (9, .int 0), (12, .int (fSz (sg0 314 (p + k)))), (11, .int (sg0 314 (p + k))), (0, .ref 0), (1, .int f), (2, .int m), (3, .int g), (4, .int c), (5, .int lo), (6, .int hi), (7, .ref 313), (8, .int p)]) (st' := []) (h' := zN sg0) (Ps := []) rfl trivial ?_
                        refine zG_pick (lv' := [(0, .ref 0), (1, .int f), (2, .int m), (3, .int g), (4, .int c), (5, .int lo), (6, .int hi), (7, .ref 313), (8, .int p), (9, .int 0), (10, .int (k + 1))]) [4, 5, 6, 7, 8, 9, 10, 11, 12, 1, 0] rfl ?_
                        refine ihk 0 (k + 1) ?_ ?_
                        · refine ⟨?_, ?_, ?_, ?_, ?_⟩
                          · lia
                          · lia
                          · exact Or.inl rfl
                          · intro q; exact absurd rfl q
                          · intro _; refine ⟨k, k0, by lia, ?_⟩; unfold fitB; rw [← e3]; exact decide_eq_false (by lia)
                        · exact zmu_up (by lia)
                      · skip
                        refine zG_run bkSR_firstStand_147 (lv' := [(10, .int (k + 1)), (9, .int 1), (12, .int (fSz (sg0 314 (p + k)))), (11, .int (sg0 314 (p + k))), (0, .ref 0), (1, .int f), (2, .int m), (3, .int g), (4, .int c), (5, .int lo), (6, .int hi), (7, .ref 313), (8, .int p)]) (st' := []) (h' := zN sg0) (Ps := []) rfl trivial ?_
                        refine zG_pick (lv' := [(0, .ref 0), (1, .int f), (2, .int m), (3, .int g), (4, .int c), (5, .int lo), (6, .int hi), (7, .ref 313), (8, .int p), (9, .int 1), (10, .int (k + 1))]) [4, 5, 6, 7, 8, 9, 10, 11, 12, 1, 0] rfl ?_
                        refine ihk 1 (k + 1) ?_ ?_
                        · refine ⟨?_, ?_, ?_, ?_, ?_⟩
                          · lia
                          · lia
                          · exact Or.inr rfl
                          · intro _ j j0 j1; by_cases hj : j = k
                            · rw [hj]; unfold fitB; rw [← e3]; exact decide_eq_true ⟨by lia, by lia, by lia, by lia⟩
                            · exact kt (by lia) j j0 (by lia)
                          · intro q; exact absurd q (by decide)
                        · exact zmu_up (by lia)
          · refine ⟨?_, ?_, ?_, ?_, ?_⟩
            · lia
            · lia
            · exact Or.inr rfl
            · intro _ j j0 j1; exfalso; lia
            · intro q; exact absurd q (by decide)
      · refine ⟨?_, ?_, ?_⟩
        · lia
        · lia
        · intro q q0 q1; exfalso; lia
    · skip
      refine zb_iret bkSR_firstStand_21 bdSR_firstStand_22 rfl (x := (-1)) (h' := zN sg) (Ps := []) rfl trivial rfl ?_
      refine hq _ _ ?_
      exact ⟨_, _, rfl, rfl, hQ_refl hf, Or.inl ⟨rfl, by lia⟩⟩
theorem cSR_firstStand {sg : zSig} {f m g c lo hi : Int32} (ob : okS sg 1) (h0 : 0 ≤ sg 36 2) (h1 : sg 36 2 < 8) (u0 : 0 ≤ sg 36 3) (u1 : sg 36 3 ≤ 8) (hf : okF sg) (t0 : 0 ≤ sg 34 1) (t1 : sg 34 1 ≤ 400) : zG mSR_firstStand 411 (fun rr h' => ∃ v sg', rr = some (.int v) ∧ h' = zN sg' ∧ hQ sg sg' ∧ qFs sg f m g c lo hi v) 0 [(0, .ref 0), (1, .int f), (2, .int m), (3, .int g), (4, .int c), (5, .int lo), (6, .int hi)] [] (zN sg) := lSR_firstStand ob h0 h1 u0 u1 hf t0 t1 (fun _ _ q => q)
theorem bkSR_find_0 : zBk mSR_find 0 [(1, 0, 1, 0, 0), (1, 1, 0, 0, 0), (0, 0, 0, 0, 0), (0, 0, 0, 0, 0), (0, 0, 0, 0, -1), (0, 0, 0, 0, 0), (0, 0, 0, 0, 9)] = some 8 := by decide +kernel
theorem bkSR_find_11 : zBk mSR_find 11 [] = some 11 := by decide +kernel
theorem bdSR_find_8 : decode mSR_find.2.2.1 8 = .ok (.invokevirtual 281, 3) := by decide +kernel
theorem bdSR_find_11 : decode mSR_find.2.2.1 11 = .ok (.ireturn, 1) := by decide +kernel
theorem cSR_find {sg : zSig} {f : Int32} (ob : okS sg 1) (h0 : 0 ≤ sg 36 2) (h1 : sg 36 2 < 8) (u0 : 0 ≤ sg 36 3) (u1 : sg 36 3 ≤ 8) (hf : okF sg) (t0 : 0 ≤ sg 34 1) (t1 : sg 34 1 ≤ 400) : zG mSR_find 411 (fun rr h' => ∃ v sg', rr = some (.int v) ∧ h' = zN sg' ∧ hQ sg sg' ∧ qFs sg f 0 0 (-1) 0 9 v) 0 [(0, .ref 0), (1, .int f)] [] (zN sg) := by
  obtain ⟨⟨n0, n1⟩, ⟨g0, g1⟩, ⟨a0, a1⟩, -⟩ := id ob
  refine zG_run bkSR_find_0 (lv' := [(0, .ref 0), (1, .int f)]) (st' := [.int 9, .int 0, .int (-1), .int 0, .int 0, .int f, .ref 0]) (h' := zN sg) (Ps := []) rfl trivial ?_
  refine zG_callv (a := 0) (c := 9) (As := [.int f, .int 0, .int 0, .int (-1), .int 0, .int 9]) (rest := []) (N2 := 411) bdSR_find_8 okSR_firstStand lk9_281 (And.intro (by decide) (by decide)) (by decide) rfl rfl rfl (Nat.le_of_ble_eq_true rfl) (Nat.le_of_ble_eq_true rfl) (Nat.le_refl 411) (Nat.le_refl 411) zob_0 (cSR_firstStand ob h0 h1 u0 u1 hf t0 t1) ?_
  rintro rr h' ⟨vq, sgq, rfl, rfl, hqq, hv⟩ -
  refine zb_iret bkSR_find_11 bdSR_find_11 rfl (x := vq) (h' := zN sgq) (Ps := []) rfl trivial rfl ?_
  exact ⟨_, _, rfl, rfl, hqq, hv⟩
theorem bkSR_findBy_0 : zBk mSR_findBy 0 [(1, 5, 0, 0, 0), (0, 0, 0, 0, 9)] = some 4 := by decide +kernel
theorem bkSR_findBy_7 : zBk mSR_findBy 7 [] = some 7 := by decide +kernel
theorem bkSR_findBy_24 : zBk mSR_findBy 24 [(0, 0, 0, 0, 0), (2, 7, 0, 0, 0), (1, 7, 0, 0, 0)] = some 29 := by decide +kernel
theorem bkSR_findBy_42 : zBk mSR_findBy 42 [(0, 0, 0, 0, -1)] = some 43 := by decide +kernel
theorem bkSR_findBy_10 : zBk mSR_findBy 10 [(1, 6, 0, 0, 0), (0, 0, 0, 0, 9)] = some 14 := by decide +kernel
theorem bkSR_findBy_17 : zBk mSR_findBy 17 [] = some 17 := by decide +kernel
theorem bkSR_findBy_20 : zBk mSR_findBy 20 [(0, 0, 0, 0, 1), (22, 25, 0, 0, 0), (2, 7, 0, 0, 0), (1, 7, 0, 0, 0)] = some 29 := by decide +kernel
theorem bkSR_findBy_32 : zBk mSR_findBy 32 [(1, 2, 0, 0, 0), (1, 3, 0, 0, 0), (1, 4, 0, 0, 0)] = some 36 := by decide +kernel
theorem bkSR_findBy_39 : zBk mSR_findBy 39 [] = some 39 := by decide +kernel
theorem bkSR_findBy_44 : zBk mSR_findBy 44 [(1, 0, 1, 0, 0), (1, 1, 0, 0, 0), (1, 2, 0, 0, 0), (1, 3, 0, 0, 0), (1, 4, 0, 0, 0), (1, 5, 0, 0, 0), (1, 6, 0, 0, 0)] = some 54 := by decide +kernel
theorem bkSR_findBy_57 : zBk mSR_findBy 57 [] = some 57 := by decide +kernel
theorem bdSR_findBy_4 : decode mSR_findBy.2.2.1 4 = .ok (.invokestatic 126, 3) := by decide +kernel
theorem bdSR_findBy_7 : decode mSR_findBy.2.2.1 7 = .ok (.ifCond .eq 17, 3) := by decide +kernel
theorem bdSR_findBy_14 : decode mSR_findBy.2.2.1 14 = .ok (.invokestatic 126, 3) := by decide +kernel
theorem bdSR_findBy_17 : decode mSR_findBy.2.2.1 17 = .ok (.ifCond .eq 7, 3) := by decide +kernel
theorem bdSR_findBy_29 : decode mSR_findBy.2.2.1 29 = .ok (.ifCond .eq 13, 3) := by decide +kernel
theorem bdSR_findBy_36 : decode mSR_findBy.2.2.1 36 = .ok (.invokestatic 285, 3) := by decide +kernel
theorem bdSR_findBy_39 : decode mSR_findBy.2.2.1 39 = .ok (.ifCond .ne 5, 3) := by decide +kernel
theorem bdSR_findBy_43 : decode mSR_findBy.2.2.1 43 = .ok (.ireturn, 1) := by decide +kernel
theorem bdSR_findBy_54 : decode mSR_findBy.2.2.1 54 = .ok (.invokevirtual 281, 3) := by decide +kernel
theorem bdSR_findBy_57 : decode mSR_findBy.2.2.1 57 = .ok (.ireturn, 1) := by decide +kernel
theorem cSR_findBy {sg : zSig} {f m g c lo hi : Int32} (ob : okS sg 1) (h0 : 0 ≤ sg 36 2) (h1 : sg 36 2 < 8) (u0 : 0 ≤ sg 36 3) (u1 : sg 36 3 ≤ 8) (hf : okF sg) (t0 : 0 ≤ sg 34 1) (t1 : sg 34 1 ≤ 400) : zG mSR_findBy 411 (fun rr h' => ∃ v sg', rr = some (.int v) ∧ h' = zN sg' ∧ hQ sg sg' ∧ ((¬ (((0 ≤ lo ∧ lo ≤ 9) ∧ 0 ≤ hi ∧ hi ≤ 9) ∧ (0 ≤ m ∧ m ≤ 15) ∧ (0 ≤ g ∧ g ≤ 15) ∧ (c = -1 ∨ (0 ≤ c ∧ c ≤ 7))) ∧ v = -1) ∨ ((((0 ≤ lo ∧ lo ≤ 9) ∧ 0 ≤ hi ∧ hi ≤ 9) ∧ (0 ≤ m ∧ m ≤ 15) ∧ (0 ≤ g ∧ g ≤ 15) ∧ (c = -1 ∨ (0 ≤ c ∧ c ≤ 7))) ∧ qFs sg f m g c lo hi v))) 0 [(0, .ref 0), (1, .int f), (2, .int m), (3, .int g), (4, .int c), (5, .int lo), (6, .int hi)] [] (zN sg) := by
  obtain ⟨⟨n0, n1⟩, ⟨g0, g1⟩, ⟨a0, a1⟩, -⟩ := id ob
  refine zG_run bkSR_findBy_0 (lv' := [(0, .ref 0), (1, .int f), (2, .int m), (3, .int g), (4, .int c), (5, .int lo), (6, .int hi)]) (st' := [.int 9, .int lo]) (h' := zN sg) (Ps := []) rfl trivial ?_
  refine zG_calls (As := [.int lo, .int 9]) (rest := []) (N2 := 411) bdSR_findBy_4 okSR_isWithin lk9_126 (And.intro (by decide) (by decide)) rfl rfl (Nat.le_of_ble_eq_true rfl) (Nat.le_of_ble_eq_true rfl) (Nat.le_refl 411) (Nat.le_refl 411) cSR_isWithin ?_
  rintro rr h' ⟨rfl, rfl⟩ -
  refine zb_ifeq (tgt := 24) bkSR_findBy_7 bdSR_findBy_7 (by decide) (lv' := [(0, .ref 0), (1, .int f), (2, .int m), (3, .int g), (4, .int c), (5, .int lo), (6, .int hi)]) (st' := []) (h' := zN sg) (x := if 0 ≤ lo ∧ lo ≤ 9 then 1 else 0) (Ps := []) rfl trivial (fun c1 => ?_) (fun c1 => ?_)
  · skip
    refine zb_ifeq (tgt := 42) bkSR_findBy_24 bdSR_findBy_29 (by decide) (lv' := [(7, .int 0), (0, .ref 0), (1, .int f), (2, .int m), (3, .int g), (4, .int c), (5, .int lo), (6, .int hi)]) (st' := []) (h' := zN sg) (x := 0) (Ps := []) rfl trivial (fun c2 => ?_) (fun c2 => ?_)
    · skip
      refine zb_iret bkSR_findBy_42 bdSR_findBy_43 rfl (x := (-1)) (h' := zN sg) (Ps := []) rfl trivial rfl ?_
      exact ⟨_, _, rfl, rfl, hQ_refl hf, Or.inl ⟨by grind, rfl⟩⟩
    · exact absurd c2 (by decide)
  · skip
    refine zG_run bkSR_findBy_10 (lv' := [(0, .ref 0), (1, .int f), (2, .int m), (3, .int g), (4, .int c), (5, .int lo), (6, .int hi)]) (st' := [.int 9, .int hi]) (h' := zN sg) (Ps := []) rfl trivial ?_
    refine zG_calls (As := [.int hi, .int 9]) (rest := []) (N2 := 411) bdSR_findBy_14 okSR_isWithin lk9_126 (And.intro (by decide) (by decide)) rfl rfl (Nat.le_of_ble_eq_true rfl) (Nat.le_of_ble_eq_true rfl) (Nat.le_refl 411) (Nat.le_refl 411) cSR_isWithin ?_
    rintro rr h' ⟨rfl, rfl⟩ -
    refine zb_ifeq (tgt := 24) bkSR_findBy_17 bdSR_findBy_17 (by decide) (lv' := [(0, .ref 0), (1, .int f), (2, .int m), (3, .int g), (4, .int c), (5, .int lo), (6, .int hi)]) (st' := []) (h' := zN sg) (x := if 0 ≤ hi ∧ hi ≤ 9 then 1 else 0) (Ps := []) rfl trivial (fun c3 => ?_) (fun c3 => ?_)
    · skip
      refine zb_ifeq (tgt := 42) bkSR_findBy_24 bdSR_findBy_29 (by decide) (lv' := [(7, .int 0), (0, .ref 0), (1, .int f), (2, .int m), (3, .int g), (4, .int c), (5, .int lo), (6, .int hi)]) (st' := []) (h' := zN sg) (x := 0) (Ps := []) rfl trivial (fun c4 => ?_) (fun c4 => ?_)
      · skip
        refine zb_iret bkSR_findBy_42 bdSR_findBy_43 rfl (x := (-1)) (h' := zN sg) (Ps := []) rfl trivial rfl ?_
        exact ⟨_, _, rfl, rfl, hQ_refl hf, Or.inl ⟨by grind, rfl⟩⟩
      · exact absurd c4 (by decide)
    · skip
      refine zb_ifeq (tgt := 42) bkSR_findBy_20 bdSR_findBy_29 (by decide) (lv' := [(7, .int 1), (0, .ref 0), (1, .int f), (2, .int m), (3, .int g), (4, .int c), (5, .int lo), (6, .int hi)]) (st' := []) (h' := zN sg) (x := 1) (Ps := []) rfl trivial (fun c5 => ?_) (fun c5 => ?_)
      · exact absurd c5 (by decide)
      · skip
        refine zG_run bkSR_findBy_32 (lv' := [(7, .int 1), (0, .ref 0), (1, .int f), (2, .int m), (3, .int g), (4, .int c), (5, .int lo), (6, .int hi)]) (st' := [.int c, .int g, .int m]) (h' := zN sg) (Ps := []) rfl trivial ?_
        refine zG_calls (As := [.int m, .int g, .int c]) (rest := []) (N2 := 411) bdSR_findBy_36 okSR_isFilter lk9_285 (And.intro (by decide) (by decide)) rfl rfl (Nat.le_of_ble_eq_true rfl) (Nat.le_of_ble_eq_true rfl) (Nat.le_refl 411) (Nat.le_refl 411) cSR_isFilter ?_
        rintro rr h' ⟨rfl, rfl⟩ -
        refine zb_ifne (tgt := 44) bkSR_findBy_39 bdSR_findBy_39 (by decide) (lv' := [(7, .int 1), (0, .ref 0), (1, .int f), (2, .int m), (3, .int g), (4, .int c), (5, .int lo), (6, .int hi)]) (st' := []) (h' := zN sg) (x := if (0 ≤ m ∧ m ≤ 15) ∧ (0 ≤ g ∧ g ≤ 15) ∧ (c = -1 ∨ (0 ≤ c ∧ c ≤ 7)) then 1 else 0) (Ps := []) rfl trivial (fun c6 => ?_) (fun c6 => ?_)
        · skip
          refine zG_run bkSR_findBy_44 (lv' := [(7, .int 1), (0, .ref 0), (1, .int f), (2, .int m), (3, .int g), (4, .int c), (5, .int lo), (6, .int hi)]) (st' := [.int hi, .int lo, .int c, .int g, .int m, .int f, .ref 0]) (h' := zN sg) (Ps := []) rfl trivial ?_
          refine zG_callv (a := 0) (c := 9) (As := [.int f, .int m, .int g, .int c, .int lo, .int hi]) (rest := []) (N2 := 411) bdSR_findBy_54 okSR_firstStand lk9_281 (And.intro (by decide) (by decide)) (by decide) rfl rfl rfl (Nat.le_of_ble_eq_true rfl) (Nat.le_of_ble_eq_true rfl) (Nat.le_refl 411) (Nat.le_refl 411) zob_0 (cSR_firstStand ob h0 h1 u0 u1 hf t0 t1) ?_
          rintro rr h' ⟨vq, sgq, rfl, rfl, hqq, hv⟩ -
          refine zb_iret bkSR_findBy_57 bdSR_findBy_57 rfl (x := vq) (h' := zN sgq) (Ps := []) rfl trivial rfl ?_
          exact ⟨_, _, rfl, rfl, hqq, Or.inr ⟨by grind, hv⟩⟩
        · skip
          refine zb_iret bkSR_findBy_42 bdSR_findBy_43 rfl (x := (-1)) (h' := zN sg) (Ps := []) rfl trivial rfl ?_
          exact ⟨_, _, rfl, rfl, hQ_refl hf, Or.inl ⟨by grind, rfl⟩⟩
def suB (sg : zSig) (m g c i : Int32) : Prop := fSu (nS sg i) m g c ≠ 0
def nSu (sg : zSig) (f m g c i a : Int32) : Int32 := if f ≤ i ∧ fSu (nS sg i) m g c ≠ 0 then a + 1 else a
def qSy (sg : zSig) (f m g c w v : Int32) : Prop := (v = -1 ∧ ∀ i, f ≤ i → i < sg 1 2 → ¬ suB sg m g c i) ∨ ∃ a, (f ≤ a ∧ a < sg 1 2 ∧ suB sg m g c a ∧ ∀ i, f ≤ i → i < a → ¬ suB sg m g c i) ∧ (w = 0 → v = a) ∧ (w = 1 → 1 ≤ v ∧ a + v ≤ sg 1 2 ∧ (∀ i, a ≤ i → i < a + v → suB sg m g c i) ∧ (a + v = sg 1 2 ∨ ¬ suB sg m g c (a + v))) ∧ (w = 2 → v = zit (nSu sg f m g c) 0 (sg 1 2))
def iSy (sg : zSig) (f m g c i a s : Int32) : Prop := (a = -1 ∧ s = 0 ∧ ∀ j, f ≤ j → j < i → ¬ suB sg m g c j) ∨ (f ≤ a ∧ a < i ∧ suB sg m g c a ∧ (∀ j, f ≤ j → j < a → ¬ suB sg m g c j) ∧ 1 ≤ s ∧ s ≤ i - a ∧ (∀ j, a ≤ j → j < a + s → suB sg m g c j) ∧ (s = i - a ∨ ¬ suB sg m g c (a + s)))
theorem iSy_no {sg : zSig} {f m g c i a s : Int32} (f0 : 0 ≤ f) (hi : i < 200) (h0 : f ≤ i) (h : iSy sg f m g c i a s) (hs : ¬ suB sg m g c i) : iSy sg f m g c (i + 1) a s := by
  rcases h with ⟨h1, h2, h3⟩ | ⟨h1, h2, h3, h4, h5, h6, h7, h8⟩
  · refine Or.inl ⟨h1, h2, fun j j0 j1 => ?_⟩
    by_cases hj : j = i
    · rw [hj]; exact hs
    · exact h3 j j0 (by lia)
  · refine Or.inr ⟨h1, by lia, h3, h4, h5, by lia, h7, ?_⟩
    rcases h8 with h8 | h8
    · right; rw [h8, show a + (i - a) = i by grind]; exact hs
    · exact Or.inr h8
theorem iSy_yes {sg : zSig} {f m g c i a s : Int32} (f0 : 0 ≤ f) (hi : i < 200) (h0 : f ≤ i) (h : iSy sg f m g c i a s) (hs : suB sg m g c i) : iSy sg f m g c (i + 1) (if a = -1 then i else a) (if i = (if a = -1 then i else a) + s then s + 1 else s) := by
  rcases h with ⟨h1, h2, h3⟩ | ⟨h1, h2, h3, h4, h5, h6, h7, h8⟩
  · rw [if_pos h1, if_pos (by lia)]
    refine Or.inr ⟨h0, by lia, hs, h3, by lia, by lia, fun j j0 j1 => ?_, Or.inl (by lia)⟩
    rw [show j = i by lia]; exact hs
  · rw [if_neg (by lia)]
    by_cases hj : i = a + s
    · rw [if_pos hj]
      refine Or.inr ⟨h1, by lia, h3, h4, by lia, by lia, fun j j0 j1 => ?_, Or.inl (by lia)⟩
      by_cases hji : j = i
      · rw [hji]; exact hs
      · exact h7 j j0 (by lia)
    · rw [if_neg hj]
      refine Or.inr ⟨h1, by lia, h3, h4, h5, by lia, h7, Or.inr ?_⟩
      rcases h8 with h8 | h8
      · exfalso; apply hj; rw [h8]; grind
      · exact h8
theorem bkSR_styled_0 : zBk mSR_styled 0 [(1, 0, 1, 0, 0), (5, 9, 0, 1, 0), (1, 1, 0, 0, 0)] = some 5 := by decide +kernel
theorem bkSR_styled_8 : zBk mSR_styled 8 [] = some 8 := by decide +kernel
theorem bkSR_styled_30 : zBk mSR_styled 30 [(0, 0, 0, 0, -1)] = some 31 := by decide +kernel
theorem bkSR_styled_11 : zBk mSR_styled 11 [(1, 2, 0, 0, 0), (1, 3, 0, 0, 0), (1, 4, 0, 0, 0)] = some 15 := by decide +kernel
theorem bkSR_styled_18 : zBk mSR_styled 18 [] = some 18 := by decide +kernel
theorem bkSR_styled_21 : zBk mSR_styled 21 [(1, 5, 0, 0, 0), (0, 0, 0, 0, 2)] = some 24 := by decide +kernel
theorem bkSR_styled_27 : zBk mSR_styled 27 [] = some 27 := by decide +kernel
theorem bkSR_styled_32 : zBk mSR_styled 32 [(1, 0, 1, 0, 0)] = some 33 := by decide +kernel
theorem bkSR_styled_36 : zBk mSR_styled 36 [(2, 6, 1, 0, 0), (0, 0, 0, 0, -1), (2, 7, 0, 0, 0), (0, 0, 0, 0, 0), (2, 8, 0, 0, 0), (0, 0, 0, 0, 0), (2, 9, 0, 0, 0), (1, 1, 0, 0, 0), (2, 10, 0, 0, 0)] = some 50 := by decide +kernel
theorem bkSR_styled_50 : zBk mSR_styled 50 [(1, 10, 0, 0, 0), (1, 0, 1, 0, 0), (5, 9, 0, 1, 0), (5, 5, 2, 0, 2)] = some 59 := by decide +kernel
theorem bkSR_styled_115 : zBk mSR_styled 115 [(1, 7, 0, 0, 0), (0, 0, 0, 0, -1)] = some 118 := by decide +kernel
theorem bkSR_styled_126 : zBk mSR_styled 126 [(1, 7, 0, 0, 0)] = some 128 := by decide +kernel
theorem bkSR_styled_121 : zBk mSR_styled 121 [(1, 5, 0, 0, 0)] = some 123 := by decide +kernel
theorem bkSR_styled_129 : zBk mSR_styled 129 [(1, 5, 0, 0, 0), (0, 0, 0, 0, 1)] = some 132 := by decide +kernel
theorem bkSR_styled_140 : zBk mSR_styled 140 [(1, 9, 0, 0, 0)] = some 142 := by decide +kernel
theorem bkSR_styled_135 : zBk mSR_styled 135 [(1, 8, 0, 0, 0), (22, 142, 0, 0, 0)] = some 142 := by decide +kernel
theorem bkSR_styled_62 : zBk mSR_styled 62 [(1, 6, 1, 0, 0), (5, 3, 0, 1, 0), (1, 10, 0, 0, 0), (7, 0, 0, 0, 0), (1, 2, 0, 0, 0), (1, 3, 0, 0, 0), (1, 4, 0, 0, 0)] = some 74 := by decide +kernel
theorem bkSR_styled_77 : zBk mSR_styled 77 [] = some 77 := by decide +kernel
theorem bkSR_styled_83 : zBk mSR_styled 83 [(1, 7, 0, 0, 0), (0, 0, 0, 0, -1)] = some 86 := by decide +kernel
theorem bkSR_styled_93 : zBk mSR_styled 93 [(1, 10, 0, 0, 0), (1, 7, 0, 0, 0), (1, 8, 0, 0, 0), (4, 0, 0, 0, 0)] = some 100 := by decide +kernel
theorem bkSR_styled_106 : zBk mSR_styled 106 [(3, 9, 0, 0, 1), (3, 10, 0, 0, 1), (22, 50, 0, 0, 0)] = some 50 := by decide +kernel
theorem bkSR_styled_103 : zBk mSR_styled 103 [(3, 8, 0, 0, 1), (3, 9, 0, 0, 1), (3, 10, 0, 0, 1), (22, 50, 0, 0, 0)] = some 50 := by decide +kernel
theorem bkSR_styled_89 : zBk mSR_styled 89 [(1, 10, 0, 0, 0), (2, 7, 0, 0, 0), (1, 10, 0, 0, 0), (1, 7, 0, 0, 0), (1, 8, 0, 0, 0), (4, 0, 0, 0, 0)] = some 100 := by decide +kernel
theorem bkSR_styled_80 : zBk mSR_styled 80 [(22, 109, 0, 0, 0), (3, 10, 0, 0, 1), (22, 50, 0, 0, 0)] = some 50 := by decide +kernel
theorem bdSR_styled_5 : decode mSR_styled.2.2.1 5 = .ok (.invokevirtual 245, 3) := by decide +kernel
theorem bdSR_styled_8 : decode mSR_styled.2.2.1 8 = .ok (.ifCond .eq 22, 3) := by decide +kernel
theorem bdSR_styled_15 : decode mSR_styled.2.2.1 15 = .ok (.invokestatic 285, 3) := by decide +kernel
theorem bdSR_styled_18 : decode mSR_styled.2.2.1 18 = .ok (.ifCond .eq 12, 3) := by decide +kernel
theorem bdSR_styled_24 : decode mSR_styled.2.2.1 24 = .ok (.invokestatic 126, 3) := by decide +kernel
theorem bdSR_styled_27 : decode mSR_styled.2.2.1 27 = .ok (.ifCond .ne 5, 3) := by decide +kernel
theorem bdSR_styled_31 : decode mSR_styled.2.2.1 31 = .ok (.ireturn, 1) := by decide +kernel
theorem bdSR_styled_33 : decode mSR_styled.2.2.1 33 = .ok (.invokevirtual 184, 3) := by decide +kernel
theorem bdSR_styled_59 : decode mSR_styled.2.2.1 59 = .ok (.if_icmp .ge 56, 3) := by decide +kernel
theorem bdSR_styled_74 : decode mSR_styled.2.2.1 74 = .ok (.invokestatic 289, 3) := by decide +kernel
theorem bdSR_styled_77 : decode mSR_styled.2.2.1 77 = .ok (.ifCond .ne 6, 3) := by decide +kernel
theorem bdSR_styled_86 : decode mSR_styled.2.2.1 86 = .ok (.if_icmp .ne 7, 3) := by decide +kernel
theorem bdSR_styled_100 : decode mSR_styled.2.2.1 100 = .ok (.if_icmp .ne 6, 3) := by decide +kernel
theorem bdSR_styled_118 : decode mSR_styled.2.2.1 118 = .ok (.if_icmp .eq 8, 3) := by decide +kernel
theorem bdSR_styled_123 : decode mSR_styled.2.2.1 123 = .ok (.ifCond .ne 6, 3) := by decide +kernel
theorem bdSR_styled_128 : decode mSR_styled.2.2.1 128 = .ok (.ireturn, 1) := by decide +kernel
theorem bdSR_styled_132 : decode mSR_styled.2.2.1 132 = .ok (.if_icmp .ne 8, 3) := by decide +kernel
theorem bdSR_styled_142 : decode mSR_styled.2.2.1 142 = .ok (.ireturn, 1) := by decide +kernel
theorem lSR_styled {sg : zSig} {f m g c w : Int32} (ob : okS sg 1) (h0 : 0 ≤ sg 36 2) (h1 : sg 36 2 < 8) (u0 : 0 ≤ sg 36 3) (u1 : sg 36 3 ≤ 8) (hf : okF sg) {Q : Option Value → zHp → Prop} (hq : ∀ rr h', (∃ v sg', rr = some (.int v) ∧ h' = zN sg' ∧ hQ sg sg' ∧ ((¬ (((0 ≤ f ∧ f < sg 1 2) ∧ ((0 ≤ m ∧ m ≤ 15) ∧ (0 ≤ g ∧ g ≤ 15) ∧ (c = -1 ∨ (0 ≤ c ∧ c ≤ 7)))) ∧ 0 ≤ w ∧ w ≤ 2) ∧ v = -1) ∨ ((((0 ≤ f ∧ f < sg 1 2) ∧ ((0 ≤ m ∧ m ≤ 15) ∧ (0 ≤ g ∧ g ≤ 15) ∧ (c = -1 ∨ (0 ≤ c ∧ c ≤ 7)))) ∧ 0 ≤ w ∧ w ≤ 2) ∧ qSy sg f m g c w v))) → Q rr h') : zG mSR_styled 411 Q 0 [(0, .ref 0), (1, .int f), (2, .int m), (3, .int g), (4, .int c), (5, .int w)] [] (zN sg) := by
  obtain ⟨⟨n0, n1⟩, ⟨g0, g1⟩, ⟨a0, a1⟩, -⟩ := id ob
  refine zG_run bkSR_styled_0 (lv' := [(0, .ref 0), (1, .int f), (2, .int m), (3, .int g), (4, .int c), (5, .int w)]) (st' := [.int f, .ref 1]) (h' := zN sg) (Ps := [zOb (zN sg) 0 9 ∧ (zN sg).2.2 0 0 = true]) rfl (zA ⟨zob_0, rfl⟩ trivial) ?_
  refine zG_callv (a := 1) (c := 5) (As := [.int f]) (rest := []) (N2 := 411) bdSR_styled_5 okShe_hasLetter lk9_245 (And.intro (by decide) (by decide)) (by decide) rfl rfl rfl (Nat.le_of_ble_eq_true rfl) (Nat.le_of_ble_eq_true rfl) (Nat.le_refl 411) (Nat.le_refl 411) zob_1 cShe_hasLetter ?_
  rintro rr h' ⟨rfl, rfl⟩ -
  refine zb_ifeq (tgt := 30) bkSR_styled_8 bdSR_styled_8 (by decide) (lv' := [(0, .ref 0), (1, .int f), (2, .int m), (3, .int g), (4, .int c), (5, .int w)]) (st' := []) (h' := zN sg) (x := if 0 ≤ f ∧ f < sg 1 2 then 1 else 0) (Ps := []) rfl trivial (fun c1 => ?_) (fun c1 => ?_)
  · skip
    refine zb_iret bkSR_styled_30 bdSR_styled_31 rfl (x := (-1)) (h' := zN sg) (Ps := []) rfl trivial rfl ?_
    refine hq _ _ ?_
    exact ⟨_, _, rfl, rfl, hQ_refl hf, Or.inl ⟨by grind, rfl⟩⟩
  · skip
    refine zG_run bkSR_styled_11 (lv' := [(0, .ref 0), (1, .int f), (2, .int m), (3, .int g), (4, .int c), (5, .int w)]) (st' := [.int c, .int g, .int m]) (h' := zN sg) (Ps := []) rfl trivial ?_
    refine zG_calls (As := [.int m, .int g, .int c]) (rest := []) (N2 := 411) bdSR_styled_15 okSR_isFilter lk9_285 (And.intro (by decide) (by decide)) rfl rfl (Nat.le_of_ble_eq_true rfl) (Nat.le_of_ble_eq_true rfl) (Nat.le_refl 411) (Nat.le_refl 411) cSR_isFilter ?_
    rintro rr h' ⟨rfl, rfl⟩ -
    refine zb_ifeq (tgt := 30) bkSR_styled_18 bdSR_styled_18 (by decide) (lv' := [(0, .ref 0), (1, .int f), (2, .int m), (3, .int g), (4, .int c), (5, .int w)]) (st' := []) (h' := zN sg) (x := if (0 ≤ m ∧ m ≤ 15) ∧ (0 ≤ g ∧ g ≤ 15) ∧ (c = -1 ∨ (0 ≤ c ∧ c ≤ 7)) then 1 else 0) (Ps := []) rfl trivial (fun c2 => ?_) (fun c2 => ?_)
    · skip
      refine zb_iret bkSR_styled_30 bdSR_styled_31 rfl (x := (-1)) (h' := zN sg) (Ps := []) rfl trivial rfl ?_
      refine hq _ _ ?_
      exact ⟨_, _, rfl, rfl, hQ_refl hf, Or.inl ⟨by grind, rfl⟩⟩
    · skip
      refine zG_run bkSR_styled_21 (lv' := [(0, .ref 0), (1, .int f), (2, .int m), (3, .int g), (4, .int c), (5, .int w)]) (st' := [.int 2, .int w]) (h' := zN sg) (Ps := []) rfl trivial ?_
      refine zG_calls (As := [.int w, .int 2]) (rest := []) (N2 := 411) bdSR_styled_24 okSR_isWithin lk9_126 (And.intro (by decide) (by decide)) rfl rfl (Nat.le_of_ble_eq_true rfl) (Nat.le_of_ble_eq_true rfl) (Nat.le_refl 411) (Nat.le_refl 411) cSR_isWithin ?_
      rintro rr h' ⟨rfl, rfl⟩ -
      refine zb_ifne (tgt := 32) bkSR_styled_27 bdSR_styled_27 (by decide) (lv' := [(0, .ref 0), (1, .int f), (2, .int m), (3, .int g), (4, .int c), (5, .int w)]) (st' := []) (h' := zN sg) (x := if 0 ≤ w ∧ w ≤ 2 then 1 else 0) (Ps := []) rfl trivial (fun c3 => ?_) (fun c3 => ?_)
      · skip
        have hc : ((0 ≤ f ∧ f < sg 1 2) ∧ ((0 ≤ m ∧ m ≤ 15) ∧ (0 ≤ g ∧ g ≤ 15) ∧ (c = -1 ∨ (0 ≤ c ∧ c ≤ 7)))) ∧ 0 ≤ w ∧ w ≤ 2 := by grind
        refine zG_run bkSR_styled_32 (lv' := [(0, .ref 0), (1, .int f), (2, .int m), (3, .int g), (4, .int c), (5, .int w)]) (st' := [.ref 0]) (h' := zN sg) (Ps := []) rfl trivial ?_
        refine zG_callv (a := 0) (c := 9) (As := []) (rest := []) (N2 := 411) bdSR_styled_33 okSR_looksNow lk9_184 (And.intro (by decide) (by decide)) (by decide) rfl rfl rfl (Nat.le_of_ble_eq_true rfl) (Nat.le_of_ble_eq_true rfl) (Nat.le_refl 411) (Nat.le_refl 411) zob_0 (cSR_looksNow ob hf) ?_
        rintro rr h' ⟨sg0, rfl, rfl, hl⟩ -
        have hq0 : hQ sg sg0 := hLk_Q ob hl
        have fl := hQ_s hq0
        have y2 : sg0 1 2 = sg 1 2 := fl 1 2 (by decide) (by decide)
        have y4 : sg0 1 4 = sg 1 4 := fl 1 4 (by decide) (by decide)
        have y6 : sg0 1 6 = sg 1 6 := fl 1 6 (by decide) (by decide)
        have yt : sg0 34 1 = sg 34 1 := fl 34 1 (by decide) (by decide)
        have l3 : sg0 313 1 = sg 1 2 := hl.2.2.1
        have ts : ∀ j, 0 ≤ j → j < sg 1 2 → sg0 314 j = nS sg j := hl.2.2.2
        refine zG_run bkSR_styled_36 (lv' := [(10, .int f), (9, .int 0), (8, .int 0), (7, .int (-1)), (6, .ref 313), (0, .ref 0), (1, .int f), (2, .int m), (3, .int g), (4, .int c), (5, .int w)]) (st' := []) (h' := zN sg0) (Ps := []) rfl trivial ?_
        refine zG_pick (lv' := [(0, .ref 0), (1, .int f), (2, .int m), (3, .int g), (4, .int c), (5, .int w), (6, .ref 313), (7, .int (-1)), (8, .int 0), (9, .int 0), (10, .int f)]) [5, 6, 7, 8, 9, 10, 4, 3, 2, 1, 0] rfl ?_
        refine zlp4 (fun (a : Int32) (s : Int32) (n : Int32) (i : Int32) => zG mSR_styled 411 Q 50 [(0, .ref 0), (1, .int f), (2, .int m), (3, .int g), (4, .int c), (5, .int w), (6, .ref 313), (7, .int a), (8, .int s), (9, .int n), (10, .int i)] [] (zN sg0)) (fun (a : Int32) (s : Int32) (n : Int32) (i : Int32) => (f ≤ i) ∧ (i ≤ sg 1 2) ∧ (iSy sg f m g c i a s) ∧ (n = zit (nSu sg f m g c) 0 i)) (fun (a : Int32) (s : Int32) (n : Int32) (i : Int32) => zmu (sg 1 2) i) ?_ (-1) 0 0 f ?_
        · intro a s n i hI ih
          obtain ⟨i0, i1, ii, iz⟩ := hI
          refine zb_icge (tgt := 115) bkSR_styled_50 bdSR_styled_59 (by decide) (lv' := [(0, .ref 0), (1, .int f), (2, .int m), (3, .int g), (4, .int c), (5, .int w), (6, .ref 313), (7, .int a), (8, .int s), (9, .int n), (10, .int i)]) (st' := []) (h' := zN sg0) (x := i) (y := sg0 1 2) (Ps := [zOb (zN sg0) 0 9 ∧ (zN sg0).2.2 0 0 = true, zOb (zN sg0) 1 5]) rfl (zA ⟨zob_0, rfl⟩ (zA zob_1 trivial)) (fun c4 => ?_) (fun c4 => ?_)
          · skip
            refine zb_iceq (tgt := 126) bkSR_styled_115 bdSR_styled_118 (by decide) (lv' := [(0, .ref 0), (1, .int f), (2, .int m), (3, .int g), (4, .int c), (5, .int w), (6, .ref 313), (7, .int a), (8, .int s), (9, .int n), (10, .int i)]) (st' := []) (h' := zN sg0) (x := a) (y := (-1)) (Ps := []) rfl trivial (fun c5 => ?_) (fun c5 => ?_)
            · skip
              refine zb_iret bkSR_styled_126 bdSR_styled_128 rfl (x := a) (h' := zN sg0) (Ps := []) rfl trivial rfl ?_
              refine hq _ _ ?_
              have ei : i = sg 1 2 := by lia
              subst ei
              refine ⟨_, _, rfl, rfl, hq0, Or.inr ⟨hc, ?_⟩⟩
              rcases ii with ⟨h1, h2, h3⟩ | ⟨h1, h2, h3, h4, h5, h6, h7, h8⟩
              · first | exact Or.inl ⟨h1, h3⟩ | (exfalso; lia)
              · first | (exfalso; lia; done) | (refine Or.inr ⟨a, ⟨h1, h2, h3, h4⟩, ?_, ?_, ?_⟩ <;> first | (intro hw; exfalso; lia; done) | (intro _; rfl) | (intro _; exact ⟨h5, by lia, h7, h8.elim (fun q => Or.inl (by lia)) Or.inr⟩) | (intro _; exact iz))
            · skip
              refine zb_ifne (tgt := 129) bkSR_styled_121 bdSR_styled_123 (by decide) (lv' := [(0, .ref 0), (1, .int f), (2, .int m), (3, .int g), (4, .int c), (5, .int w), (6, .ref 313), (7, .int a), (8, .int s), (9, .int n), (10, .int i)]) (st' := []) (h' := zN sg0) (x := w) (Ps := []) rfl trivial (fun c6 => ?_) (fun c6 => ?_)
              · skip
                refine zb_icne (tgt := 140) bkSR_styled_129 bdSR_styled_132 (by decide) (lv' := [(0, .ref 0), (1, .int f), (2, .int m), (3, .int g), (4, .int c), (5, .int w), (6, .ref 313), (7, .int a), (8, .int s), (9, .int n), (10, .int i)]) (st' := []) (h' := zN sg0) (x := w) (y := 1) (Ps := []) rfl trivial (fun c7 => ?_) (fun c7 => ?_)
                · skip
                  refine zb_iret bkSR_styled_140 bdSR_styled_142 rfl (x := n) (h' := zN sg0) (Ps := []) rfl trivial rfl ?_
                  refine hq _ _ ?_
                  have ei : i = sg 1 2 := by lia
                  subst ei
                  refine ⟨_, _, rfl, rfl, hq0, Or.inr ⟨hc, ?_⟩⟩
                  rcases ii with ⟨h1, h2, h3⟩ | ⟨h1, h2, h3, h4, h5, h6, h7, h8⟩
                  · first | exact Or.inl ⟨h1, h3⟩ | (exfalso; lia)
                  · first | (exfalso; lia; done) | (refine Or.inr ⟨a, ⟨h1, h2, h3, h4⟩, ?_, ?_, ?_⟩ <;> first | (intro hw; exfalso; lia; done) | (intro _; rfl) | (intro _; exact ⟨h5, by lia, h7, h8.elim (fun q => Or.inl (by lia)) Or.inr⟩) | (intro _; exact iz))
                · skip
                  refine zb_iret bkSR_styled_135 bdSR_styled_142 rfl (x := s) (h' := zN sg0) (Ps := []) rfl trivial rfl ?_
                  refine hq _ _ ?_
                  have ei : i = sg 1 2 := by lia
                  subst ei
                  refine ⟨_, _, rfl, rfl, hq0, Or.inr ⟨hc, ?_⟩⟩
                  rcases ii with ⟨h1, h2, h3⟩ | ⟨h1, h2, h3, h4, h5, h6, h7, h8⟩
                  · first | exact Or.inl ⟨h1, h3⟩ | (exfalso; lia)
                  · first | (exfalso; lia; done) | (refine Or.inr ⟨a, ⟨h1, h2, h3, h4⟩, ?_, ?_, ?_⟩ <;> first | (intro hw; exfalso; lia; done) | (intro _; rfl) | (intro _; exact ⟨h5, by lia, h7, h8.elim (fun q => Or.inl (by lia)) Or.inr⟩) | (intro _; exact iz))
              · skip
                refine zb_iret bkSR_styled_126 bdSR_styled_128 rfl (x := a) (h' := zN sg0) (Ps := []) rfl trivial rfl ?_
                refine hq _ _ ?_
                have ei : i = sg 1 2 := by lia
                subst ei
                refine ⟨_, _, rfl, rfl, hq0, Or.inr ⟨hc, ?_⟩⟩
                rcases ii with ⟨h1, h2, h3⟩ | ⟨h1, h2, h3, h4, h5, h6, h7, h8⟩
                · first | exact Or.inl ⟨h1, h3⟩ | (exfalso; lia)
                · first | (exfalso; lia; done) | (refine Or.inr ⟨a, ⟨h1, h2, h3, h4⟩, ?_, ?_, ?_⟩ <;> first | (intro hw; exfalso; lia; done) | (intro _; rfl) | (intro _; exact ⟨h5, by lia, h7, h8.elim (fun q => Or.inl (by lia)) Or.inr⟩) | (intro _; exact iz))
          · skip
            refine zG_run bkSR_styled_62 (lv' := [(0, .ref 0), (1, .int f), (2, .int m), (3, .int g), (4, .int c), (5, .int w), (6, .ref 313), (7, .int a), (8, .int s), (9, .int n), (10, .int i)]) (st' := [.int c, .int g, .int m, .int (sg0 314 i)]) (h' := zN sg0) (Ps := [zOb (zN sg0) 313 3 ∧ (zN sg0).2.2 313 0 = true, zInL (zN sg0) 314 i]) rfl (zA ⟨zob_313, rfl⟩ (zA (zinL_314 (i := i) (by lia) (by lia)) trivial)) ?_
            refine zG_calls (As := [.int (sg0 314 i), .int m, .int g, .int c]) (rest := []) (N2 := 411) bdSR_styled_74 okSty_suits lk9_289 (And.intro (by decide) (by decide)) rfl rfl (Nat.le_of_ble_eq_true rfl) (Nat.le_of_ble_eq_true rfl) (Nat.le_refl 411) (Nat.le_refl 411) cSty_suits ?_
            rintro rr h' ⟨rfl, rfl⟩ -
            refine zb_ifne (tgt := 83) bkSR_styled_77 bdSR_styled_77 (by decide) (lv' := [(0, .ref 0), (1, .int f), (2, .int m), (3, .int g), (4, .int c), (5, .int w), (6, .ref 313), (7, .int a), (8, .int s), (9, .int n), (10, .int i)]) (st' := []) (h' := zN sg0) (x := fSu (sg0 314 i) m g c) (Ps := []) rfl trivial (fun c8 => ?_) (fun c8 => ?_)
            · skip
              refine zb_icne (tgt := 93) bkSR_styled_83 bdSR_styled_86 (by decide) (lv' := [(0, .ref 0), (1, .int f), (2, .int m), (3, .int g), (4, .int c), (5, .int w), (6, .ref 313), (7, .int a), (8, .int s), (9, .int n), (10, .int i)]) (st' := []) (h' := zN sg0) (x := a) (y := (-1)) (Ps := []) rfl trivial (fun c9 => ?_) (fun c9 => ?_)
              · skip
                refine zb_icne (tgt := 106) bkSR_styled_93 bdSR_styled_100 (by decide) (lv' := [(0, .ref 0), (1, .int f), (2, .int m), (3, .int g), (4, .int c), (5, .int w), (6, .ref 313), (7, .int a), (8, .int s), (9, .int n), (10, .int i)]) (st' := []) (h' := zN sg0) (x := i) (y := a + s) (Ps := []) rfl trivial (fun c10 => ?_) (fun c10 => ?_)
                · skip
                  refine zG_run bkSR_styled_106 (lv' := [(10, .int (i + 1)), (9, .int (n + 1)), (0, .ref 0), (1, .int f), (2, .int m), (3, .int g), (4, .int c), (5, .int w), (6, .ref 313), (7, .int a), (8, .int s)]) (st' := []) (h' := zN sg0) (Ps := []) rfl trivial ?_
                  refine zG_pick (lv' := [(0, .ref 0), (1, .int f), (2, .int m), (3, .int g), (4, .int c), (5, .int w), (6, .ref 313), (7, .int a), (8, .int s), (9, .int (n + 1)), (10, .int (i + 1))]) [2, 3, 4, 5, 6, 7, 8, 9, 10, 1, 0] rfl ?_
                  refine ih a s (n + 1) (i + 1) ?_ ?_
                  · refine ⟨?_, ?_, ?_, ?_⟩
                    · lia
                    · lia
                    · have q := iSy_yes (by lia) (by lia) i0 ii (by unfold suB; rw [← ts i (by lia) (by lia)]; lia)
                      rw [if_neg (by lia)] at q; rw [if_neg (by lia)] at q; exact q
                    · rw [zit_s _ _ (by lia : 0 ≤ i) (by lia : i < sg 1 2), ← iz]; unfold nSu; rw [← ts i (by lia) (by lia), if_pos (by lia)]
                  · exact zmu_up (by lia)
                · skip
                  refine zG_run bkSR_styled_103 (lv' := [(10, .int (i + 1)), (9, .int (n + 1)), (8, .int (s + 1)), (0, .ref 0), (1, .int f), (2, .int m), (3, .int g), (4, .int c), (5, .int w), (6, .ref 313), (7, .int a)]) (st' := []) (h' := zN sg0) (Ps := []) rfl trivial ?_
                  refine zG_pick (lv' := [(0, .ref 0), (1, .int f), (2, .int m), (3, .int g), (4, .int c), (5, .int w), (6, .ref 313), (7, .int a), (8, .int (s + 1)), (9, .int (n + 1)), (10, .int (i + 1))]) [3, 4, 5, 6, 7, 8, 9, 10, 2, 1, 0] rfl ?_
                  refine ih a (s + 1) (n + 1) (i + 1) ?_ ?_
                  · refine ⟨?_, ?_, ?_, ?_⟩
                    · lia
                    · lia
                    · have q := iSy_yes (by lia) (by lia) i0 ii (by unfold suB; rw [← ts i (by lia) (by lia)]; lia)
                      rw [if_neg (by lia)] at q; rw [if_pos (by lia)] at q; exact q
                    · rw [zit_s _ _ (by lia : 0 ≤ i) (by lia : i < sg 1 2), ← iz]; unfold nSu; rw [← ts i (by lia) (by lia), if_pos (by lia)]
                  · exact zmu_up (by lia)
              · skip
                refine zb_icne (tgt := 106) bkSR_styled_89 bdSR_styled_100 (by decide) (lv' := [(7, .int i), (0, .ref 0), (1, .int f), (2, .int m), (3, .int g), (4, .int c), (5, .int w), (6, .ref 313), (8, .int s), (9, .int n), (10, .int i)]) (st' := []) (h' := zN sg0) (x := i) (y := i + s) (Ps := []) rfl trivial (fun c11 => ?_) (fun c11 => ?_)
                · skip
                  refine zG_run bkSR_styled_106 (lv' := [(10, .int (i + 1)), (9, .int (n + 1)), (7, .int i), (0, .ref 0), (1, .int f), (2, .int m), (3, .int g), (4, .int c), (5, .int w), (6, .ref 313), (8, .int s)]) (st' := []) (h' := zN sg0) (Ps := []) rfl trivial ?_
                  refine zG_pick (lv' := [(0, .ref 0), (1, .int f), (2, .int m), (3, .int g), (4, .int c), (5, .int w), (6, .ref 313), (7, .int i), (8, .int s), (9, .int (n + 1)), (10, .int (i + 1))]) [3, 4, 5, 6, 7, 8, 9, 2, 10, 1, 0] rfl ?_
                  refine ih i s (n + 1) (i + 1) ?_ ?_
                  · refine ⟨?_, ?_, ?_, ?_⟩
                    · lia
                    · lia
                    · have q := iSy_yes (by lia) (by lia) i0 ii (by unfold suB; rw [← ts i (by lia) (by lia)]; lia)
                      rw [if_pos (by lia)] at q; rw [if_neg (by lia)] at q; exact q
                    · rw [zit_s _ _ (by lia : 0 ≤ i) (by lia : i < sg 1 2), ← iz]; unfold nSu; rw [← ts i (by lia) (by lia), if_pos (by lia)]
                  · exact zmu_up (by lia)
                · skip
                  refine zG_run bkSR_styled_103 (lv' := [(10, .int (i + 1)), (9, .int (n + 1)), (8, .int (s + 1)), (7, .int i), (0, .ref 0), (1, .int f), (2, .int m), (3, .int g), (4, .int c), (5, .int w), (6, .ref 313)]) (st' := []) (h' := zN sg0) (Ps := []) rfl trivial ?_
                  refine zG_pick (lv' := [(0, .ref 0), (1, .int f), (2, .int m), (3, .int g), (4, .int c), (5, .int w), (6, .ref 313), (7, .int i), (8, .int (s + 1)), (9, .int (n + 1)), (10, .int (i + 1))]) [4, 5, 6, 7, 8, 9, 10, 3, 2, 1, 0] rfl ?_
                  refine ih i (s + 1) (n + 1) (i + 1) ?_ ?_
                  · refine ⟨?_, ?_, ?_, ?_⟩
                    · lia
                    · lia
                    · have q := iSy_yes (by lia) (by lia) i0 ii (by unfold suB; rw [← ts i (by lia) (by lia)]; lia)
                      rw [if_pos (by lia)] at q; rw [if_pos (by lia)] at q; exact q
                    · rw [zit_s _ _ (by lia : 0 ≤ i) (by lia : i < sg 1 2), ← iz]; unfold nSu; rw [← ts i (by lia) (by lia), if_pos (by lia)]
                  · exact zmu_up (by lia)
            · skip
              refine zG_run bkSR_styled_80 (lv' := [(10, .int (i + 1)), (0, .ref 0), (1, .int f), (2, .int m), (3, .int g), (4, .int c), (5, .int w), (6, .ref 313), (7, .int a), (8, .int s), (9, .int n)]) (st' := []) (h' := zN sg0) (Ps := []) rfl trivial ?_
              refine zG_pick (lv' := [(0, .ref 0), (1, .int f), (2, .int m), (3, .int g), (4, .int c), (5, .int w), (6, .ref 313), (7, .int a), (8, .int s), (9, .int n), (10, .int (i + 1))]) [1, 2, 3, 4, 5, 6, 7, 8, 9, 10, 0] rfl ?_
              refine ih a s n (i + 1) ?_ ?_
              · refine ⟨?_, ?_, ?_, ?_⟩
                · lia
                · lia
                · exact iSy_no (by lia) (by lia) i0 ii (by unfold suB; rw [← ts i (by lia) (by lia)]; lia)
                · rw [zit_s _ _ (by lia : 0 ≤ i) (by lia : i < sg 1 2), ← iz]; unfold nSu; rw [← ts i (by lia) (by lia), if_neg (by lia)]
              · exact zmu_up (by lia)
        · refine ⟨?_, ?_, ?_, ?_⟩
          · lia
          · lia
          · exact Or.inl ⟨rfl, rfl, fun j j0 j1 => by exfalso; lia⟩
          · rw [zit_id (by lia)]; intro i x h1 h2; unfold nSu; rw [if_neg (by lia)]
      · skip
        refine zb_iret bkSR_styled_30 bdSR_styled_31 rfl (x := (-1)) (h' := zN sg) (Ps := []) rfl trivial rfl ?_
        refine hq _ _ ?_
        exact ⟨_, _, rfl, rfl, hQ_refl hf, Or.inl ⟨by grind, rfl⟩⟩
theorem cSR_styled {sg : zSig} {f m g c w : Int32} (ob : okS sg 1) (h0 : 0 ≤ sg 36 2) (h1 : sg 36 2 < 8) (u0 : 0 ≤ sg 36 3) (u1 : sg 36 3 ≤ 8) (hf : okF sg) : zG mSR_styled 411 (fun rr h' => ∃ v sg', rr = some (.int v) ∧ h' = zN sg' ∧ hQ sg sg' ∧ ((¬ (((0 ≤ f ∧ f < sg 1 2) ∧ ((0 ≤ m ∧ m ≤ 15) ∧ (0 ≤ g ∧ g ≤ 15) ∧ (c = -1 ∨ (0 ≤ c ∧ c ≤ 7)))) ∧ 0 ≤ w ∧ w ≤ 2) ∧ v = -1) ∨ ((((0 ≤ f ∧ f < sg 1 2) ∧ ((0 ≤ m ∧ m ≤ 15) ∧ (0 ≤ g ∧ g ≤ 15) ∧ (c = -1 ∨ (0 ≤ c ∧ c ≤ 7)))) ∧ 0 ≤ w ∧ w ≤ 2) ∧ qSy sg f m g c w v))) 0 [(0, .ref 0), (1, .int f), (2, .int m), (3, .int g), (4, .int c), (5, .int w)] [] (zN sg) := lSR_styled ob h0 h1 u0 u1 hf (fun _ _ q => q)
