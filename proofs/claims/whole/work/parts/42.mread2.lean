/-! the reference: read: printed by wip/whole/p42.py -/
def mRI (sg : zSig) : zSig := zup (zup (zup (zup (zup sg 393 12 (-1)) 393 19 0) 393 20 1) 393 21 0) 393 25 0
def okMr (sg s : zSig) : Prop := mRdF sg s ∧ (s 393 20 = 0 ∨ s 393 20 = 1) ∧ (¬ s 393 20 = 0 → 0 ≤ s 393 19 ∧ s 393 19 ≤ sg 393 11) ∧ (0 ≤ s 393 21 ∧ s 393 21 ≤ 200) ∧ 0 ≤ s 393 25 ∧ s 393 25 ≤ 8
def mStp (s s' : zSig) : Prop := (mBy s (s 393 19) = 91 ∧ mMkP s s') ∨ (mBy s (s 393 19) ≠ 91 ∧ mLtP s s')
def mREnd (s : zSig) : zSig := if ¬ s 393 20 = 0 ∧ 0 < s 393 25 then hWr s (s 393 11) else s
def mNw (sg sg' : zSig) : Prop := (∀ c j, c ≠ 395 → sg' c j = sg c j) ∧ sg' 395 0 = sg 393 21 ∧ sg' 395 1 = 0 ∧ sg' 395 2 = 0 ∧ ∀ j, 0 ≤ j → j < 4 * sg 393 21 → sg' 395 (3 + j) = sg 405 j
theorem mA1_r (sg : zSig) (t : Int32) : mA1 sg t = t + 1 ∨ mA1 sg t = t + 1 + 1 := by unfold mA1; split <;> simp
theorem mA2_r (sg : zSig) (t : Int32) : mA2 sg t = mA1 sg t + 1 ∨ mA2 sg t = mA1 sg t + 1 + 1 := by unfold mA2; split <;> simp
theorem mMkF_1 {sg : zSig} {t : Int32} (t0 : 0 ≤ t) (t1 : t < 400) (h : mMkF sg t = -1) : mB1 sg t = false ∧ mB2 sg t = false ∧ mBy sg (mA2 sg t) = 93 ∧ mB3 sg t = false := by
  have a1 := mA1_r sg t
  have a2 := mA2_r sg t
  unfold mMkF at h
  split at h
  · exfalso; lia
  · split at h
    · exfalso; lia
    · split at h
      · exfalso; lia
      · split at h
        · exfalso; lia
        · refine ⟨?_, ?_, ?_, ?_⟩
          · simpa using ‹¬ mB1 sg t = true›
          · simpa using ‹¬ mB2 sg t = true›
          · exact Classical.not_not.mp ‹¬ mBy sg (mA2 sg t) ≠ 93›
          · simpa using ‹¬ mB3 sg t = true›
theorem mRdF_trans {a b c : zSig} (h : mRdF a b) (h2 : mRdF b c) : mRdF a c := fun x j h1 h3 h4 h5 => (h2 x j h1 h3 h4 h5).trans (h x j h1 h3 h4 h5)
theorem mRdF_t {a b : zSig} (h : mRdF a b) : b 393 11 = a 393 11 := h 393 11 (by decide) (by decide) (by decide) (by decide)
def mMu (sg s : zSig) : Nat := if s 393 20 = 0 then 0 else zmu (sg 393 11) (s 393 19) + 1
theorem zmu_lt {e i j : Int32} (h : i < j) (h2 : j ≤ e) : zmu e j < zmu e i := by
  rw [Int32.lt_iff_toInt_lt] at h; rw [Int32.le_iff_toInt_le] at h2
  unfold zmu; omega
theorem okMr_s {sg s s' : zSig} (t0 : 0 ≤ sg 393 11) (t1 : sg 393 11 ≤ 400) (h : okMr sg s) (gd : ¬ s 393 20 = 0) (hr : s 393 19 < s 393 11) (hs : mStp s s') : okMr sg s' ∧ mMu sg s' < mMu sg s := by
  obtain ⟨hf, hg, hrr, ⟨m0, m1⟩, u0, u1⟩ := h
  have et := mRdF_t hf
  have hr0 := (hrr gd).1
  rcases hs with ⟨hb, hm⟩ | ⟨hb, hm⟩
  · obtain ⟨h1, h2, h3, h4⟩ := hm
    have hf2 := mRdF_trans hf h1
    rcases h4 with ⟨-, e12, e20, e25⟩ | ⟨hF, e12, e20, e19, e25⟩
    · refine ⟨⟨hf2, Or.inl e20, fun q => absurd e20 q, ⟨by lia, by lia⟩, by lia, by lia⟩, ?_⟩
      unfold mMu; rw [if_pos e20, if_neg gd]; exact Nat.succ_pos _
    · have hA := (mMkF_1 hr0 (by lia) hF).2.2.1
      have a1 := mA1_r s (s 393 19)
      have a2 := mA2_r s (s 393 19)
      have hA2 : mA2 s (s 393 19) < s 393 11 := by
        unfold mBy at hA; split at hA
        · assumption
        · exact absurd hA (by decide)
      refine ⟨⟨hf2, by rw [e20]; exact hg, fun _ => ⟨by lia, by lia⟩, ⟨by lia, by lia⟩, ?_⟩, ?_⟩
      · rcases e25 with ⟨-, e, e2, -⟩ | ⟨-, e, e2, -⟩ <;> constructor <;> lia
      · unfold mMu; rw [if_neg (by rw [e20]; exact gd), if_neg gd]; exact Nat.succ_lt_succ (zmu_lt (by lia) (by lia))
  · obtain ⟨h1, h2, -, -, h4⟩ := hm
    have hf2 := mRdF_trans hf h1
    rcases h4 with ⟨-, e12, e20, e21, -⟩ | ⟨hG, e12, e20, e19, e21, -⟩
    · refine ⟨⟨hf2, Or.inl e20, fun q => absurd e20 q, ⟨by lia, by lia⟩, by lia, by lia⟩, ?_⟩
      unfold mMu; rw [if_pos e20, if_neg gd]; exact Nat.succ_pos _
    · have hn : s 393 21 ≠ 200 := by unfold mLg at hG; exact (of_decide_eq_true hG).2
      refine ⟨⟨hf2, by rw [e20]; exact hg, fun _ => ⟨by lia, by lia⟩, ⟨by lia, by lia⟩, by lia, by lia⟩, ?_⟩
      unfold mMu; rw [if_neg (by rw [e20]; exact gd), if_neg gd]; exact Nat.succ_lt_succ (zmu_lt (by lia) (by lia))
theorem bkMo_read_5 : zBk mMo_read 5 [(1, 0, 1, 0, 0), (0, 0, 0, 0, -1), (6, 10, 12, 0, 12), (1, 0, 1, 0, 0), (0, 0, 0, 0, 0), (6, 10, 19, 0, 19), (1, 0, 1, 0, 0), (0, 0, 0, 0, 1), (6, 10, 20, 1, 20), (1, 0, 1, 0, 0), (0, 0, 0, 0, 0), (6, 10, 21, 0, 21), (1, 0, 1, 0, 0), (0, 0, 0, 0, 0), (6, 10, 25, 0, 25)] = some 30 := by decide +kernel
theorem bkMo_read_105 : zBk mMo_read 105 [(1, 0, 1, 0, 0), (0, 0, 0, 0, 0), (6, 10, 11, 0, 11)] = some 110 := by decide +kernel
theorem bkMo_read_110 : zBk mMo_read 110 [(1, 0, 1, 0, 0), (5, 10, 20, 0, 20)] = some 114 := by decide +kernel
theorem bkMo_read_124 : zBk mMo_read 124 [(1, 0, 1, 0, 0), (0, 0, 0, 0, 11)] = some 127 := by decide +kernel
theorem bkMo_read_130 : zBk mMo_read 130 [(0, 0, 0, 0, 0), (2, 1, 0, 0, 0)] = some 132 := by decide +kernel
theorem bkMo_read_132 : zBk mMo_read 132 [(1, 1, 0, 0, 0), (0, 0, 0, 0, 995)] = some 136 := by decide +kernel
theorem bkMo_read_152 : zBk mMo_read 152 [(1, 0, 1, 0, 0), (5, 10, 3, 2, 3), (0, 0, 0, 0, 0), (1, 0, 1, 0, 0), (5, 10, 21, 0, 21), (8, 0, 0, 0, 0), (0, 0, 0, 0, 0), (2, 1, 0, 0, 0)] = some 164 := by decide +kernel
theorem bkMo_read_164 : zBk mMo_read 164 [(1, 1, 0, 0, 0), (0, 0, 0, 0, 4), (1, 0, 1, 0, 0), (5, 10, 21, 0, 21), (4, 2, 0, 0, 0)] = some 171 := by decide +kernel
theorem bkMo_read_194 : zBk mMo_read 194 [(1, 0, 1, 0, 0), (1, 0, 1, 0, 0), (5, 10, 21, 0, 21)] = some 199 := by decide +kernel
theorem bkMo_read_202 : zBk mMo_read 202 [] = some 202 := by decide +kernel
theorem bkMo_read_174 : zBk mMo_read 174 [(1, 0, 1, 0, 0), (5, 10, 3, 2, 3), (0, 0, 0, 0, 3), (1, 1, 0, 0, 0), (4, 0, 0, 0, 0), (1, 0, 1, 0, 0), (5, 10, 22, 12, 22), (1, 1, 0, 0, 0), (7, 0, 0, 0, 0), (8, 0, 0, 0, 0), (3, 1, 0, 0, 1), (22, 164, 0, 0, 0)] = some 164 := by decide +kernel
theorem bkMo_read_139 : zBk mMo_read 139 [(1, 0, 1, 0, 0), (5, 10, 3, 2, 3), (1, 1, 0, 0, 0), (0, 0, 0, 0, 0), (8, 0, 0, 0, 0), (3, 1, 0, 0, 1), (22, 132, 0, 0, 0)] = some 132 := by decide +kernel
theorem bkMo_read_117 : zBk mMo_read 117 [(1, 0, 1, 0, 0), (0, 0, 0, 0, -6)] = some 120 := by decide +kernel
theorem bkMo_read_123 : zBk mMo_read 123 [] = some 123 := by decide +kernel
theorem bkMo_read_83 : zBk mMo_read 83 [(1, 0, 1, 0, 0), (5, 10, 20, 0, 20)] = some 87 := by decide +kernel
theorem bkMo_read_90 : zBk mMo_read 90 [(1, 0, 1, 0, 0), (5, 10, 25, 0, 25)] = some 94 := by decide +kernel
theorem bkMo_read_97 : zBk mMo_read 97 [(1, 0, 1, 0, 0), (1, 0, 1, 0, 0), (5, 10, 11, 0, 11)] = some 102 := by decide +kernel
theorem bkMo_read_30 : zBk mMo_read 30 [(1, 0, 1, 0, 0), (5, 10, 20, 0, 20)] = some 34 := by decide +kernel
theorem bkMo_read_37 : zBk mMo_read 37 [(1, 0, 1, 0, 0), (5, 10, 19, 0, 19), (1, 0, 1, 0, 0), (5, 10, 11, 0, 11)] = some 45 := by decide +kernel
theorem bkMo_read_48 : zBk mMo_read 48 [(1, 0, 1, 0, 0), (1, 0, 1, 0, 0), (5, 10, 19, 0, 19)] = some 53 := by decide +kernel
theorem bkMo_read_56 : zBk mMo_read 56 [(0, 0, 0, 0, 91)] = some 58 := by decide +kernel
theorem bkMo_read_68 : zBk mMo_read 68 [(1, 0, 1, 0, 0), (1, 0, 1, 0, 0), (1, 0, 1, 0, 0), (5, 10, 19, 0, 19)] = some 74 := by decide +kernel
theorem bkMo_read_77 : zBk mMo_read 77 [] = some 77 := by decide +kernel
theorem bkMo_read_80 : zBk mMo_read 80 [(22, 30, 0, 0, 0)] = some 30 := by decide +kernel
theorem bkMo_read_61 : zBk mMo_read 61 [(1, 0, 1, 0, 0)] = some 62 := by decide +kernel
theorem bkMo_read_65 : zBk mMo_read 65 [(22, 30, 0, 0, 0)] = some 30 := by decide +kernel
theorem bkMo_read_0 : zBk mMo_read 0 [(1, 0, 1, 0, 0), (0, 0, 0, 0, 0), (6, 10, 0, 0, 0)] = some 5 := by decide +kernel
theorem bdMo_read_34 : decode mMo_read.2.2.1 34 = .ok (.ifCond .eq 49, 3) := by decide +kernel
theorem bdMo_read_45 : decode mMo_read.2.2.1 45 = .ok (.if_icmp .ge 38, 3) := by decide +kernel
theorem bdMo_read_53 : decode mMo_read.2.2.1 53 = .ok (.invokevirtual 210, 3) := by decide +kernel
theorem bdMo_read_58 : decode mMo_read.2.2.1 58 = .ok (.if_icmp .ne 10, 3) := by decide +kernel
theorem bdMo_read_62 : decode mMo_read.2.2.1 62 = .ok (.invokevirtual 225, 3) := by decide +kernel
theorem bdMo_read_74 : decode mMo_read.2.2.1 74 = .ok (.invokevirtual 210, 3) := by decide +kernel
theorem bdMo_read_77 : decode mMo_read.2.2.1 77 = .ok (.invokevirtual 228, 3) := by decide +kernel
theorem bdMo_read_87 : decode mMo_read.2.2.1 87 = .ok (.ifCond .eq 18, 3) := by decide +kernel
theorem bdMo_read_94 : decode mMo_read.2.2.1 94 = .ok (.ifCond .le 11, 3) := by decide +kernel
theorem bdMo_read_102 : decode mMo_read.2.2.1 102 = .ok (.invokevirtual 216, 3) := by decide +kernel
theorem bdMo_read_114 : decode mMo_read.2.2.1 114 = .ok (.ifCond .ne 10, 3) := by decide +kernel
theorem bdMo_read_120 : decode mMo_read.2.2.1 120 = .ok (.invokevirtual 80, 3) := by decide +kernel
theorem bdMo_read_123 : decode mMo_read.2.2.1 123 = .ok (.ireturn, 1) := by decide +kernel
theorem bdMo_read_127 : decode mMo_read.2.2.1 127 = .ok (.invokevirtual 127, 3) := by decide +kernel
theorem bdMo_read_136 : decode mMo_read.2.2.1 136 = .ok (.if_icmp .ge 16, 3) := by decide +kernel
theorem bdMo_read_171 : decode mMo_read.2.2.1 171 = .ok (.if_icmp .ge 23, 3) := by decide +kernel
theorem bdMo_read_199 : decode mMo_read.2.2.1 199 = .ok (.invokevirtual 84, 3) := by decide +kernel
theorem bdMo_read_202 : decode mMo_read.2.2.1 202 = .ok (.ireturn, 1) := by decide +kernel
set_option maxHeartbeats 4000000 in
theorem lMo_read {sg : zSig} {J : Nat → zSig → Prop}  (b0 : 0 ≤ sg 393 6) (b1 : sg 393 6 ≤ 8) (t0 : 0 ≤ sg 393 11) (t1 : sg 393 11 ≤ 400) (hJ0 : J 0 (mRI sg)) (hJs : ∀ k s s', J k s → ¬ s 393 20 = 0 → s 393 19 < s 393 11 → okMr sg s → mStp s s' → J (k + 1) s') {Q : Option Value → zHp → Prop} (hq : ∀ rr h', (∃ k sF sP, J k sF ∧ okMr sg sF ∧ (¬ (¬ sF 393 20 = 0 ∧ sF 393 19 < sF 393 11)) ∧ sP = mREnd sF ∧ ((sP 393 20 = 0 ∧ rr = some (.int (-6)) ∧ h' = zN (hRef (zup sP 393 11 0) (-6))) ∨ (¬ sP 393 20 = 0 ∧ ∃ sR sE, mRem (zup sP 393 11 0) sR 11 ∧ mNw sR sE ∧ rr = some (.int (sP 393 21)) ∧ h' = zN (hTell sE)))) → Q rr h') : zG mMo_read 411 Q 5 [(0, .ref 393)] [] (zN sg) := by
  refine zG_run bkMo_read_5 (lv' := [(0, .ref 393)]) (st' := []) (h' := zN (zup (zup (zup (zup (zup sg 393 12 (-1)) 393 19 0) 393 20 1) 393 21 0) 393 25 0)) (Ps := [zOb (zN sg) 393 10, zOb (zN (zup sg 393 12 (-1))) 393 10, zOb (zN (zup (zup sg 393 12 (-1)) 393 19 0)) 393 10, 1 = 0 ∨ 1 = 1, zOb (zN (zup (zup (zup sg 393 12 (-1)) 393 19 0) 393 20 1)) 393 10, zOb (zN (zup (zup (zup (zup sg 393 12 (-1)) 393 19 0) 393 20 1) 393 21 0)) 393 10]) rfl (zA zob_393 (zA zob_393 (zA zob_393 (zA (Or.inr rfl) (zA zob_393 (zA zob_393 trivial)))))) ?_
  have K : ∀ (sF : zSig), (∃ k, J k sF) → (okMr sg sF) → (¬ (¬ sF 393 20 = 0 ∧ sF 393 19 < sF 393 11)) → zG mMo_read 411 Q 83 [(0, .ref 393)] [] (zN sF) := by
    intro sF jf iof stp
    have etf := mRdF_t iof.1
    have ⟨ff, fg, fr, ⟨fm0, fm1⟩, fu0, fu1⟩ := iof
    have K5 : ∀ (sP : zSig), (sP = mREnd sF) → zG mMo_read 411 Q 105 [(0, .ref 393)] [] (zN sP) := by
      intro sP hP
      have fP : ∀ c j, (c ≠ 393 ∨ (j ≠ 12 ∧ j ≠ 20)) → sP c j = sF c j := fun c j h => by rw [hP]; unfold mREnd; split <;> first | exact hWr_f h | rfl
      refine zG_run bkMo_read_105 (lv' := [(0, .ref 393)]) (st' := []) (h' := zN (zup sP 393 11 0)) (Ps := [zOb (zN sP) 393 10]) rfl (zA zob_393 trivial) ?_
      refine zG_nm (sg := zup sP 393 11 0) (fun sQ eQ => ?_)
      have fQ : ∀ c j, (c ≠ 393 ∨ j ≠ 11) → sQ c j = sP c j := fun c j h => by rw [eQ, zup_e, if_neg (fun q => h.elim (fun h => h q.1) (fun h => h q.2))]
      have q6 : sQ 393 6 = sg 393 6 := by rw [fQ 393 6 (by decide), fP 393 6 (by decide)]; exact ff 393 6 (by decide) (by decide) (by decide) (by decide)
      have q21 : sQ 393 21 = sP 393 21 := fQ 393 21 (by decide)
      have p21 : sP 393 21 = sF 393 21 := fP 393 21 (by decide)
      refine zb_ifne (tgt := 124) bkMo_read_110 bdMo_read_114 (by decide) (lv' := [(0, .ref 393)]) (st' := []) (h' := zN sQ) (x := sQ 393 20) (Ps := [zOb (zN sQ) 393 10]) rfl (zA zob_393 trivial) (fun c1 => ?_) (fun c1 => ?_)
      · skip
        refine zG_run bkMo_read_124 (lv' := [(0, .ref 393)]) (st' := [.int 11, .ref 393]) (h' := zN sQ) (Ps := []) rfl trivial ?_
        refine zG_callv (a := 393) (c := 10) (As := [.int 11]) (rest := []) (N2 := 411) bdMo_read_127 okMo_remember lk10_127 (And.intro (by decide) (by decide)) (by decide) rfl rfl rfl (Nat.le_of_ble_eq_true rfl) (Nat.le_of_ble_eq_true rfl) (Nat.le_refl 411) (Nat.le_refl 411) zob_393 (cMo_remember (s := 11) (by lia) (by lia)) ?_
        rintro rr h' ⟨sR, rfl, rfl, hb⟩ -
        have fb := hb.1
        have r21 : sR 393 21 = sP 393 21 := by rw [fb 393 21 (by decide) (by decide) (by decide) (by decide)]; exact q21
        refine zG_run bkMo_read_130 (lv' := [(1, .int 0), (0, .ref 393)]) (st' := []) (h' := zN sR) (Ps := []) rfl trivial ?_
        refine zG_pick (lv' := [(0, .ref 393), (1, .int 0)]) [1, 0] rfl ?_
        refine zlp2 (fun (kz : Int32) (sZ : zSig) => zG mMo_read 411 Q 132 [(0, .ref 393), (1, .int kz)] [] (zN sZ)) (fun (kz : Int32) (sZ : zSig) => (0 ≤ kz) ∧ (kz ≤ 995) ∧ (∀ c j, c ≠ 395 → sZ c j = sR c j) ∧ (∀ j, 0 ≤ j → j < kz → sZ 395 j = 0)) (fun (kz : Int32) (sZ : zSig) => zmu 995 kz) ?_ 0 sR ?_
        · intro kz sZ hZ ihZ
          obtain ⟨z0, z1, zf, zz⟩ := hZ
          have z21 : sZ 393 21 = sP 393 21 := by rw [zf 393 21 (by decide)]; exact r21
          refine zb_icge (tgt := 152) bkMo_read_132 bdMo_read_136 (by decide) (lv' := [(0, .ref 393), (1, .int kz)]) (st' := []) (h' := zN sZ) (x := kz) (y := 995) (Ps := []) rfl trivial (fun c2 => ?_) (fun c2 => ?_)
          · skip
            refine zG_run bkMo_read_152 (lv' := [(1, .int 0), (0, .ref 393)]) (st' := []) (h' := zN (zup sZ 395 0 (sZ 393 21))) (Ps := [zOb (zN sZ) 393 10 ∧ (zN sZ).2.2 393 3 = true, zOb (zN sZ) 393 10, zIn (zN sZ) 395 0 0]) rfl (zA ⟨zob_393, rfl⟩ (zA zob_393 (zA (zin_395 (i := 0) (by decide) (by decide)) trivial))) ?_
            refine zG_pick (lv' := [(0, .ref 393), (1, .int 0)]) [1, 0] rfl ?_
            refine zlp2 (fun (kc : Int32) (sC : zSig) => zG mMo_read 411 Q 164 [(0, .ref 393), (1, .int kc)] [] (zN sC)) (fun (kc : Int32) (sC : zSig) => (0 ≤ kc) ∧ (kc ≤ 4 * sP 393 21) ∧ (∀ c j, c ≠ 395 → sC c j = sR c j) ∧ (sC 395 0 = sP 393 21) ∧ (sC 395 1 = 0) ∧ (sC 395 2 = 0) ∧ (∀ j, 0 ≤ j → j < kc → sC 395 (3 + j) = sR 405 j)) (fun (kc : Int32) (sC : zSig) => zmu (4 * sP 393 21) kc) ?_ 0 (zup sZ 395 0 (sZ 393 21)) ?_
            · intro kc sC hC ihC
              obtain ⟨k0, k1, cf, c0, c1_, c2_, cz⟩ := hC
              have f21 : sC 393 21 = sP 393 21 := by rw [cf 393 21 (by decide)]; exact r21
              refine zb_icge (tgt := 194) bkMo_read_164 bdMo_read_171 (by decide) (lv' := [(0, .ref 393), (1, .int kc)]) (st' := []) (h' := zN sC) (x := kc) (y := 4 * (sC 393 21)) (Ps := [zOb (zN sC) 393 10]) rfl (zA zob_393 trivial) (fun c3 => ?_) (fun c3 => ?_)
              · skip
                refine zG_run bkMo_read_194 (lv' := [(0, .ref 393), (1, .int kc)]) (st' := [.int (sC 393 21), .ref 393]) (h' := zN sC) (Ps := [zOb (zN sC) 393 10]) rfl (zA zob_393 trivial) ?_
                refine zG_callv (a := 393) (c := 10) (As := [.int (sC 393 21)]) (rest := []) (N2 := 411) bdMo_read_199 okMo_tell lk10_84 (And.intro (by decide) (by decide)) (by decide) rfl rfl rfl (Nat.le_of_ble_eq_true rfl) (Nat.le_of_ble_eq_true rfl) (Nat.le_refl 411) (Nat.le_refl 411) zob_393 cMo_tell ?_
                rintro rr h' ⟨rfl, rfl⟩ -
                refine zb_iret bkMo_read_202 bdMo_read_202 rfl (x := sC 393 21) (h' := zN (hTell sC)) (Ps := []) rfl trivial rfl ?_
                refine hq _ _ ?_
                obtain ⟨k, hk⟩ := jf
                have e995 : kz = 995 := by lia
                have egd : ¬ sP 393 20 = 0 := by rw [← fQ 393 20 (by decide)]; assumption
                have e21 : sC 393 21 = sP 393 21 := f21
                refine ⟨k, sF, sP, hk, iof, stp, hP, Or.inr ⟨egd, sR, sC, by rw [← eQ]; exact hb, ⟨cf, ?_, ?_, ?_, fun j j0 j1 => cz j j0 (by lia)⟩, by rw [e21], rfl⟩⟩
                · rw [c0, r21]
                · exact c1_
                · exact c2_
              · skip
                refine zG_run bkMo_read_174 (lv' := [(1, .int (kc + 1)), (0, .ref 393)]) (st' := []) (h' := zN (zup sC 395 (3 + kc) (sC 405 kc))) (Ps := [zOb (zN sC) 393 10 ∧ (zN sC).2.2 393 3 = true, zOb (zN sC) 393 10 ∧ (zN sC).2.2 393 22 = true, zInL (zN sC) 405 kc, zIn (zN sC) 395 0 (3 + kc)]) rfl (zA ⟨zob_393, rfl⟩ (zA ⟨zob_393, rfl⟩ (zA (zinL_405 (i := kc) (by lia) (by lia)) (zA (zin_395 (i := 3 + kc) (by lia) (by lia)) trivial)))) ?_
                refine zG_pick (lv' := [(0, .ref 393), (1, .int (kc + 1))]) [1, 0] rfl ?_
                refine ihC (kc + 1) (zup sC 395 (3 + kc) (sC 405 kc)) ?_ ?_
                · refine ⟨?_, ?_, ?_, ?_, ?_, ?_, ?_⟩
                  · lia
                  · lia
                  · intro c j h; rw [zup_a h]; exact cf c j h
                  · rw [zup_i (by lia)]; assumption
                  · rw [zup_i (by lia)]; assumption
                  · rw [zup_i (by lia)]; assumption
                  · intro j j0 j1; rw [zup_e]; by_cases hj : j = kc
                    · rw [if_pos ⟨rfl, by rw [hj]⟩, cf 405 kc (by decide), hj]
                    · rw [if_neg (fun q => hj (by have := q.2; lia))]; exact cz j j0 (by lia)
                · exact zmu_up (by lia)
            · refine ⟨?_, ?_, ?_, ?_, ?_, ?_, ?_⟩
              · lia
              · lia
              · intro c j h; rw [zup_a h]; exact zf c j h
              · rw [zup_s]; exact z21
              · rw [zup_i (by decide)]; exact zz 1 (by decide) (by lia)
              · rw [zup_i (by decide)]; exact zz 2 (by decide) (by lia)
              · intro j j0 j1; exfalso; lia
          · skip
            refine zG_run bkMo_read_139 (lv' := [(1, .int (kz + 1)), (0, .ref 393)]) (st' := []) (h' := zN (zup sZ 395 kz 0)) (Ps := [zOb (zN sZ) 393 10 ∧ (zN sZ).2.2 393 3 = true, zIn (zN sZ) 395 0 kz]) rfl (zA ⟨zob_393, rfl⟩ (zA (zin_395 (i := kz) (by lia) (by lia)) trivial)) ?_
            refine zG_pick (lv' := [(0, .ref 393), (1, .int (kz + 1))]) [1, 0] rfl ?_
            refine ihZ (kz + 1) (zup sZ 395 kz 0) ?_ ?_
            · refine ⟨?_, ?_, ?_, ?_⟩
              · lia
              · lia
              · intro c j h; rw [zup_a h]; exact zf c j h
              · intro j j0 j1; rw [zup_e]; by_cases hj : j = kz
                · rw [if_pos ⟨rfl, hj⟩]
                · rw [if_neg (fun q => hj q.2)]; exact zz j j0 (by lia)
            · exact zmu_up (by lia)
        · refine ⟨?_, ?_, ?_, ?_⟩
          · lia
          · lia
          · intro c j _; rfl
          · intro j j0 j1; exfalso; lia
      · skip
        refine zG_run bkMo_read_117 (lv' := [(0, .ref 393)]) (st' := [.int (-6), .ref 393]) (h' := zN sQ) (Ps := []) rfl trivial ?_
        refine zG_callv (a := 393) (c := 10) (As := [.int (-6)]) (rest := []) (N2 := 411) bdMo_read_120 okMo_refuse lk10_80 (And.intro (by decide) (by decide)) (by decide) rfl rfl rfl (Nat.le_of_ble_eq_true rfl) (Nat.le_of_ble_eq_true rfl) (Nat.le_refl 411) (Nat.le_refl 411) zob_393 (cMo_refuse (by decide) (by decide)) ?_
        rintro rr h' ⟨rfl, rfl⟩ -
        refine zb_iret bkMo_read_123 bdMo_read_123 rfl (x := (-6)) (h' := zN (hRef sQ (-6))) (Ps := []) rfl trivial rfl ?_
        refine hq _ _ ?_
        obtain ⟨k, hk⟩ := jf
        have q0 : sP 393 20 = 0 := by rw [← fQ 393 20 (by decide)]; assumption
        exact ⟨k, sF, sP, hk, iof, stp, hP, Or.inl ⟨q0, rfl, by rw [eQ]⟩⟩
    refine zb_ifeq (tgt := 105) bkMo_read_83 bdMo_read_87 (by decide) (lv' := [(0, .ref 393)]) (st' := []) (h' := zN sF) (x := sF 393 20) (Ps := [zOb (zN sF) 393 10]) rfl (zA zob_393 trivial) (fun c4 => ?_) (fun c4 => ?_)
    · skip
      refine K5 _ ?_
      unfold mREnd; rw [if_neg (by first | (intro q; exact q.1 (by assumption)) | (intro q; lia))]
    · skip
      refine zb_ifle (tgt := 105) bkMo_read_90 bdMo_read_94 (by decide) (lv' := [(0, .ref 393)]) (st' := []) (h' := zN sF) (x := sF 393 25) (Ps := [zOb (zN sF) 393 10]) rfl (zA zob_393 trivial) (fun c5 => ?_) (fun c5 => ?_)
      · skip
        refine K5 _ ?_
        unfold mREnd; rw [if_neg (by first | (intro q; exact q.1 (by assumption)) | (intro q; lia))]
      · skip
        refine zG_run bkMo_read_97 (lv' := [(0, .ref 393)]) (st' := [.int (sF 393 11), .ref 393]) (h' := zN sF) (Ps := [zOb (zN sF) 393 10]) rfl (zA zob_393 trivial) ?_
        refine zG_callv (a := 393) (c := 10) (As := [.int (sF 393 11)]) (rest := []) (N2 := 411) bdMo_read_102 okMo_wrong lk10_216 (And.intro (by decide) (by decide)) (by decide) rfl rfl rfl (Nat.le_of_ble_eq_true rfl) (Nat.le_of_ble_eq_true rfl) (Nat.le_refl 411) (Nat.le_refl 411) zob_393 (cMo_wrong (p := sF 393 11)) ?_
        rintro rr h' ⟨rfl, rfl⟩ -
        refine K5 _ ?_
        unfold mREnd; rw [if_pos ⟨by assumption, by lia⟩]
  refine zlp1 (fun (s : zSig) => zG mMo_read 411 Q 30 [(0, .ref 393)] [] (zN s)) (fun (s : zSig) => (∃ k, J k s) ∧ (okMr sg s)) (fun (s : zSig) => mMu sg s) ?_ (zup (zup (zup (zup (zup sg 393 12 (-1)) 393 19 0) 393 20 1) 393 21 0) 393 25 0) ?_
  · intro s hI ih
    obtain ⟨jx, io⟩ := hI
    have et := mRdF_t io.1
    have ⟨hf_, hg_, hr_, ⟨m0_, m1_⟩, u0_, u1_⟩ := io
    refine zb_ifeq (tgt := 83) bkMo_read_30 bdMo_read_34 (by decide) (lv' := [(0, .ref 393)]) (st' := []) (h' := zN s) (x := s 393 20) (Ps := [zOb (zN s) 393 10]) rfl (zA zob_393 trivial) (fun c6 => ?_) (fun c6 => ?_)
    · skip
      refine K _ ?_ ?_ ?_
      · exact jx
      · exact io
      · rintro ⟨q1, q2⟩; first | exact absurd (by assumption) q1 | lia
    · skip
      refine zb_icge (tgt := 83) bkMo_read_37 bdMo_read_45 (by decide) (lv' := [(0, .ref 393)]) (st' := []) (h' := zN s) (x := s 393 19) (y := s 393 11) (Ps := [zOb (zN s) 393 10, zOb (zN s) 393 10]) rfl (zA zob_393 (zA zob_393 trivial)) (fun c7 => ?_) (fun c7 => ?_)
      · skip
        refine K _ ?_ ?_ ?_
        · exact jx
        · exact io
        · rintro ⟨q1, q2⟩; first | exact absurd (by assumption) q1 | lia
      · skip
        have gd : ¬ s 393 20 = 0 := by assumption
        have hr : s 393 19 < s 393 11 := by lia
        have hr0 := (hr_ gd).1
        refine zG_run bkMo_read_48 (lv' := [(0, .ref 393)]) (st' := [.int (s 393 19), .ref 393]) (h' := zN s) (Ps := [zOb (zN s) 393 10]) rfl (zA zob_393 trivial) ?_
        refine zG_callv (a := 393) (c := 10) (As := [.int (s 393 19)]) (rest := []) (N2 := 411) bdMo_read_53 okMo_byteAt lk10_210 (And.intro (by decide) (by decide)) (by decide) rfl rfl rfl (Nat.le_of_ble_eq_true rfl) (Nat.le_of_ble_eq_true rfl) (Nat.le_refl 411) (Nat.le_refl 411) zob_393 (cMo_byteAt (by lia) (by lia)) ?_
        rintro rr h' ⟨rfl, rfl⟩ -
        refine zb_icne (tgt := 68) bkMo_read_56 bdMo_read_58 (by decide) (lv' := [(0, .ref 393)]) (st' := []) (h' := zN s) (x := mBy s (s 393 19)) (y := 91) (Ps := []) rfl trivial (fun c8 => ?_) (fun c8 => ?_)
        · skip
          have hby : mBy s (s 393 19) ≠ 91 := by assumption
          refine zG_run bkMo_read_68 (lv' := [(0, .ref 393)]) (st' := [.int (s 393 19), .ref 393, .ref 393]) (h' := zN s) (Ps := [zOb (zN s) 393 10]) rfl (zA zob_393 trivial) ?_
          refine zG_callv (a := 393) (c := 10) (As := [.int (s 393 19)]) (rest := [.ref 393]) (N2 := 411) bdMo_read_74 okMo_byteAt lk10_210 (And.intro (by decide) (by decide)) (by decide) rfl rfl rfl (Nat.le_of_ble_eq_true rfl) (Nat.le_of_ble_eq_true rfl) (Nat.le_refl 411) (Nat.le_refl 411) zob_393 (cMo_byteAt (by lia) (by lia)) ?_
          rintro rr h' ⟨rfl, rfl⟩ -
          refine zG_run bkMo_read_77 (lv' := [(0, .ref 393)]) (st' := [.int (mBy s (s 393 19)), .ref 393]) (h' := zN s) (Ps := []) rfl trivial ?_
          refine zG_callv (a := 393) (c := 10) (As := [.int (mBy s (s 393 19))]) (rest := []) (N2 := 411) bdMo_read_77 okMo_readLetter lk10_228 (And.intro (by decide) (by decide)) (by decide) rfl rfl rfl (Nat.le_of_ble_eq_true rfl) (Nat.le_of_ble_eq_true rfl) (Nat.le_refl 411) (Nat.le_refl 411) zob_393 (cMo_readLetter (by lia) (by lia) (hr_ gd).1 hr gd (by lia) (by lia) (by lia) (by lia) rfl) ?_
          rintro rr h' ⟨s2, rfl, rfl, hm⟩ -
          have sk := okMr_s t0 t1 io gd hr (Or.inr ⟨hby, hm⟩)
          have jk : ∃ k, J k s2 := jx.elim (fun k hk => ⟨k + 1, hJs k s s2 hk gd hr io (Or.inr ⟨hby, hm⟩)⟩)
          refine zG_run bkMo_read_80 (lv' := [(0, .ref 393)]) (st' := []) (h' := zN s2) (Ps := []) rfl trivial ?_
          refine ih s2 ?_ ?_
          · refine ⟨?_, ?_⟩
            · exact jk
            · exact sk.1
          · exact sk.2
        · skip
          have hby : mBy s (s 393 19) = 91 := by assumption
          refine zG_run bkMo_read_61 (lv' := [(0, .ref 393)]) (st' := [.ref 393]) (h' := zN s) (Ps := []) rfl trivial ?_
          refine zG_callv (a := 393) (c := 10) (As := []) (rest := []) (N2 := 411) bdMo_read_62 okMo_readMark lk10_225 (And.intro (by decide) (by decide)) (by decide) rfl rfl rfl (Nat.le_of_ble_eq_true rfl) (Nat.le_of_ble_eq_true rfl) (Nat.le_refl 411) (Nat.le_refl 411) zob_393 (cMo_readMark (by lia) (by lia) (hr_ gd).1 hr gd (by lia) (by lia)) ?_
          rintro rr h' ⟨s2, rfl, rfl, hm⟩ -
          have sk := okMr_s t0 t1 io gd hr (Or.inl ⟨hby, hm⟩)
          have jk : ∃ k, J k s2 := jx.elim (fun k hk => ⟨k + 1, hJs k s s2 hk gd hr io (Or.inl ⟨hby, hm⟩)⟩)
          refine zG_run bkMo_read_65 (lv' := [(0, .ref 393)]) (st' := []) (h' := zN s2) (Ps := []) rfl trivial ?_
          refine ih s2 ?_ ?_
          · refine ⟨?_, ?_⟩
            · exact jk
            · exact sk.1
          · exact sk.2
  · refine ⟨?_, ?_⟩
    · exact ⟨0, hJ0⟩
    · refine ⟨fun c j h1 h2 h3 h4 => ?_, Or.inr ?_, fun _ => ?_, ?_, ?_⟩
      · rw [zup_e, if_neg (by clear hq hJs hJ0 K; grind)]; rw [zup_e, if_neg (by clear hq hJs hJ0 K; grind)]; rw [zup_e, if_neg (by clear hq hJs hJ0 K; grind)]; rw [zup_e, if_neg (by clear hq hJs hJ0 K; grind)]; rw [zup_e, if_neg (by clear hq hJs hJ0 K; grind)]
      · simp [zup_e]
      · simp [zup_e]; lia
      · simp [zup_e]
      · simp [zup_e]
theorem bMo_read {sg : zSig} {J : Nat → zSig → Prop}  (b0 : 0 ≤ sg 393 6) (b1 : sg 393 6 ≤ 8) (t0 : 0 ≤ sg 393 11) (t1 : sg 393 11 ≤ 400) (hJ0 : J 0 (mRI sg)) (hJs : ∀ k s s', J k s → ¬ s 393 20 = 0 → s 393 19 < s 393 11 → okMr sg s → mStp s s' → J (k + 1) s') : zG mMo_read 411 (fun rr h' => ∃ k sF sP, J k sF ∧ okMr sg sF ∧ (¬ (¬ sF 393 20 = 0 ∧ sF 393 19 < sF 393 11)) ∧ sP = mREnd sF ∧ ((sP 393 20 = 0 ∧ rr = some (.int (-6)) ∧ h' = zN (hRef (zup sP 393 11 0) (-6))) ∨ (¬ sP 393 20 = 0 ∧ ∃ sR sE, mRem (zup sP 393 11 0) sR 11 ∧ mNw sR sE ∧ rr = some (.int (sP 393 21)) ∧ h' = zN (hTell sE)))) 5 [(0, .ref 393)] [] (zN sg) := lMo_read b0 b1 t0 t1 hJ0 hJs (fun _ _ q => q)
theorem tMo_read {sg : zSig} {J : Nat → zSig → Prop} {Q : Option Value → zHp → Prop} (g : zG mMo_read 411 Q 5 [(0, .ref 393)] [] (zN (zup sg 393 0 0))) : zG mMo_read 411 Q 0 [(0, .ref 393)] [] (zN sg) :=
  zG_run bkMo_read_0 (lv' := [(0, .ref 393)]) (st' := []) (h' := zN (zup sg 393 0 0)) (Ps := [zOb (zN sg) 393 10]) rfl (zA zob_393 trivial) g
