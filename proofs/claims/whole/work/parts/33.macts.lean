/-! the reference: its acts: printed by wip/whole/p33.py -/
theorem mRem_u {sg sg1 : zSig} {s : Int32} (b0 : 0 ≤ sg 393 6) (b1 : sg 393 6 ≤ 8) (h : mRem sg sg1 s) : 1 ≤ sg1 393 6 ∧ sg1 393 6 ≤ 8 := by
  obtain ⟨-, n, d, h, e, -⟩ := h
  rw [e]; lia
theorem mNo_f {sg : zSig} {f t a : Int32} {c : Nat} {j : Int32} (h : c ≠ 398) : mNo sg f t a c j = sg c j := by
  unfold mNo; rw [zup_a h, zup_a h, zup_a h]
theorem bkMo_areLetters_0 : zBk mMo_areLetters 0 [(0, 0, 0, 0, 1), (2, 1, 0, 0, 0), (0, 0, 0, 0, 0), (2, 2, 0, 0, 0)] = some 4 := by decide +kernel
theorem bkMo_areLetters_4 : zBk mMo_areLetters 4 [(1, 2, 0, 0, 0), (1, 0, 1, 0, 0), (5, 10, 11, 0, 11)] = some 9 := by decide +kernel
theorem bkMo_areLetters_40 : zBk mMo_areLetters 40 [(1, 1, 0, 0, 0)] = some 41 := by decide +kernel
theorem bkMo_areLetters_12 : zBk mMo_areLetters 12 [(1, 1, 0, 0, 0)] = some 13 := by decide +kernel
theorem bkMo_areLetters_32 : zBk mMo_areLetters 32 [(0, 0, 0, 0, 0), (2, 1, 0, 0, 0), (3, 2, 0, 0, 1), (22, 4, 0, 0, 0)] = some 4 := by decide +kernel
theorem bkMo_areLetters_16 : zBk mMo_areLetters 16 [(1, 0, 1, 0, 0), (5, 10, 10, 8, 10), (1, 2, 0, 0, 0), (7, 1, 0, 0, 0)] = some 22 := by decide +kernel
theorem bkMo_areLetters_25 : zBk mMo_areLetters 25 [] = some 25 := by decide +kernel
theorem bkMo_areLetters_28 : zBk mMo_areLetters 28 [(0, 0, 0, 0, 1), (22, 33, 0, 0, 0), (2, 1, 0, 0, 0), (3, 2, 0, 0, 1), (22, 4, 0, 0, 0)] = some 4 := by decide +kernel
theorem bdMo_areLetters_9 : decode mMo_areLetters.2.2.1 9 = .ok (.if_icmp .ge 31, 3) := by decide +kernel
theorem bdMo_areLetters_13 : decode mMo_areLetters.2.2.1 13 = .ok (.ifCond .eq 19, 3) := by decide +kernel
theorem bdMo_areLetters_22 : decode mMo_areLetters.2.2.1 22 = .ok (.invokestatic 120, 3) := by decide +kernel
theorem bdMo_areLetters_25 : decode mMo_areLetters.2.2.1 25 = .ok (.ifCond .eq 7, 3) := by decide +kernel
theorem bdMo_areLetters_41 : decode mMo_areLetters.2.2.1 41 = .ok (.ireturn, 1) := by decide +kernel
theorem lMo_areLetters {sg : zSig}  (t0 : 0 ≤ sg 393 11) (t1 : sg 393 11 ≤ 400) {Q : Option Value → zHp → Prop} (hq : ∀ rr h', (∃ v, rr = some (.int v) ∧ h' = zN sg ∧ ((v = 1 ∧ ∀ j, 0 ≤ j → j < sg 393 11 → isL (sg 401 j)) ∨ (v = 0 ∧ ∃ j, 0 ≤ j ∧ j < sg 393 11 ∧ ¬ isL (sg 401 j)))) → Q rr h') : zG mMo_areLetters 411 Q 0 [(0, .ref 393)] [] (zN sg) := by
  refine zG_run bkMo_areLetters_0 (lv' := [(2, .int 0), (1, .int 1), (0, .ref 393)]) (st' := []) (h' := zN sg) (Ps := []) rfl trivial ?_
  refine zG_pick (lv' := [(0, .ref 393), (1, .int 1), (2, .int 0)]) [2, 1, 0] rfl ?_
  refine zlp2 (fun (b : Int32) (k : Int32) => zG mMo_areLetters 411 Q 4 [(0, .ref 393), (1, .int b), (2, .int k)] [] (zN sg)) (fun (b : Int32) (k : Int32) => (0 ≤ k) ∧ (k ≤ sg 393 11) ∧ ((b = 1 ∧ ∀ j, 0 ≤ j → j < k → isL (sg 401 j)) ∨ (b = 0 ∧ ∃ j, 0 ≤ j ∧ j < sg 393 11 ∧ ¬ isL (sg 401 j)))) (fun (b : Int32) (k : Int32) => zmu (sg 393 11) k) ?_ 1 0 ?_
  · intro b k hI ih
    obtain ⟨k0, k1, kz⟩ := hI
    refine zb_icge (tgt := 40) bkMo_areLetters_4 bdMo_areLetters_9 (by decide) (lv' := [(0, .ref 393), (1, .int b), (2, .int k)]) (st' := []) (h' := zN sg) (x := k) (y := sg 393 11) (Ps := [zOb (zN sg) 393 10]) rfl (zA zob_393 trivial) (fun c1 => ?_) (fun c1 => ?_)
    · skip
      refine zb_zret bkMo_areLetters_40 bdMo_areLetters_41 rfl (x := b) (h' := zN sg) (Ps := []) rfl trivial rfl (by rcases kz with ⟨h, -⟩ | ⟨h, -⟩ <;> simp [h]) ?_
      refine hq _ _ ?_
      refine ⟨b, rfl, rfl, ?_⟩
      rw [show k = sg 393 11 by lia] at kz; exact kz
    · skip
      refine zb_ifeq (tgt := 32) bkMo_areLetters_12 bdMo_areLetters_13 (by decide) (lv' := [(0, .ref 393), (1, .int b), (2, .int k)]) (st' := []) (h' := zN sg) (x := b) (Ps := []) rfl trivial (fun c2 => ?_) (fun c2 => ?_)
      · skip
        refine zG_run bkMo_areLetters_32 (lv' := [(2, .int (k + 1)), (1, .int 0), (0, .ref 393)]) (st' := []) (h' := zN sg) (Ps := []) rfl trivial ?_
        refine zG_pick (lv' := [(0, .ref 393), (1, .int 0), (2, .int (k + 1))]) [2, 1, 0] rfl ?_
        refine ih 0 (k + 1) ?_ ?_
        · refine ⟨?_, ?_, ?_⟩
          · lia
          · lia
          · rcases kz with ⟨kb, kz⟩ | kz
            · refine Or.inr ⟨rfl, k, by lia, by lia, ?_⟩
              unfold isL; clear ih hq kz; grind
            · exact Or.inr ⟨rfl, kz.2⟩
        · exact zmu_up (by lia)
      · skip
        refine zG_run bkMo_areLetters_16 (lv' := [(0, .ref 393), (1, .int b), (2, .int k)]) (st' := [.int (sg 401 k)]) (h' := zN sg) (Ps := [zOb (zN sg) 393 10 ∧ (zN sg).2.2 393 10 = true, zIn (zN sg) 401 1 k]) rfl (zA ⟨zob_393, rfl⟩ (zA (zin_401 (i := k) (by lia) (by lia)) trivial)) ?_
        refine zG_calls (As := [.int (sg 401 k)]) (rest := []) (N2 := 411) bdMo_areLetters_22 okMo_isByte lk10_120 (And.intro (by decide) (by decide)) rfl rfl (Nat.le_of_ble_eq_true rfl) (Nat.le_of_ble_eq_true rfl) (Nat.le_refl 411) (Nat.le_refl 411) cMo_isByte ?_
        rintro rr h' ⟨rfl, rfl⟩ -
        refine zb_ifeq (tgt := 32) bkMo_areLetters_25 bdMo_areLetters_25 (by decide) (lv' := [(0, .ref 393), (1, .int b), (2, .int k)]) (st' := []) (h' := zN sg) (x := if (32 ≤ (sg 401 k) ∧ (sg 401 k) ≤ 126) ∧ (sg 401 k) ≠ 91 ∧ (sg 401 k) ≠ 93 then 1 else 0) (Ps := []) rfl trivial (fun c3 => ?_) (fun c3 => ?_)
        · skip
          refine zG_run bkMo_areLetters_32 (lv' := [(2, .int (k + 1)), (1, .int 0), (0, .ref 393)]) (st' := []) (h' := zN sg) (Ps := []) rfl trivial ?_
          refine zG_pick (lv' := [(0, .ref 393), (1, .int 0), (2, .int (k + 1))]) [2, 1, 0] rfl ?_
          refine ih 0 (k + 1) ?_ ?_
          · refine ⟨?_, ?_, ?_⟩
            · lia
            · lia
            · rcases kz with ⟨kb, kz⟩ | kz
              · refine Or.inr ⟨rfl, k, by lia, by lia, ?_⟩
                unfold isL; clear ih hq kz; grind
              · exact Or.inr ⟨rfl, kz.2⟩
          · exact zmu_up (by lia)
        · skip
          refine zG_run bkMo_areLetters_28 (lv' := [(2, .int (k + 1)), (1, .int 1), (0, .ref 393)]) (st' := []) (h' := zN sg) (Ps := []) rfl trivial ?_
          refine zG_pick (lv' := [(0, .ref 393), (1, .int 1), (2, .int (k + 1))]) [2, 1, 0] rfl ?_
          refine ih 1 (k + 1) ?_ ?_
          · refine ⟨?_, ?_, ?_⟩
            · lia
            · lia
            · rcases kz with ⟨kb, kz⟩ | kz
              · refine Or.inl ⟨rfl, fun j j0 j1 => ?_⟩
                by_cases hj : j = k
                · rw [hj]; unfold isL; clear ih hq kz; grind
                · exact kz j j0 (by lia)
              · exfalso; lia
          · exact zmu_up (by lia)
  · refine ⟨?_, ?_, ?_⟩
    · lia
    · lia
    · exact Or.inl ⟨rfl, fun j j0 j1 => by exfalso; lia⟩
theorem cMo_areLetters {sg : zSig}  (t0 : 0 ≤ sg 393 11) (t1 : sg 393 11 ≤ 400) : zG mMo_areLetters 411 (fun rr h' => ∃ v, rr = some (.int v) ∧ h' = zN sg ∧ ((v = 1 ∧ ∀ j, 0 ≤ j → j < sg 393 11 → isL (sg 401 j)) ∨ (v = 0 ∧ ∃ j, 0 ≤ j ∧ j < sg 393 11 ∧ ¬ isL (sg 401 j)))) 0 [(0, .ref 393)] [] (zN sg) := lMo_areLetters t0 t1 (fun _ _ q => q)
def mCv (sg : zSig) (p m i : Int32) : Int32 := if i = 0 then sg 401 m else if 0 < p then sg 395 (3 + 4 * (p - 1) + i) else if i = 3 then 4 else 0
def mCf (sg sg' : zSig) (p m : Int32) : Prop := (∀ c j, c ≠ 395 → sg' c j = sg c j) ∧ (∀ j, (j < 3 + 4 * p ∨ 3 + 4 * p + 4 * m ≤ j) → sg' 395 j = sg 395 j) ∧ ∀ k i, 0 ≤ k → k < m → 0 ≤ i → i < 4 → sg' 395 (3 + 4 * (p + k) + i) = mCv sg p k i
theorem z3e {x y i : Int32} (h0 : 0 ≤ i) (h1 : i < 4) (x0 : 0 ≤ x) (x1 : x < 1000) (y0 : 0 ≤ y) (y1 : y < 1000) (f : Int32) (f0 : 0 ≤ f) (f1 : f < 4) (h : 3 + 4 * x + i = 3 + 4 * y + f) : x = y ∧ i = f := by
  have := congrArg Int32.toInt h
  lia
theorem mCf_s {sg sg1 : zSig} {p m k x1 x2 x3 : Int32} (k0 : 0 ≤ k) (k1 : k < m) (p0 : 0 ≤ p) (pm : p ≤ 200) (mm : m ≤ 400) (h : mCf sg sg1 p k) (e1 : x1 = mCv sg p k 1) (e2 : x2 = mCv sg p k 2) (e3 : x3 = mCv sg p k 3) : mCf sg (zup (zup (zup (zup sg1 395 (3 + 4 * (p + k)) (sg1 401 k)) 395 (3 + 4 * (p + k) + 1) x1) 395 (3 + 4 * (p + k) + 2) x2) 395 (3 + 4 * (p + k) + 3) x3) p (k + 1) := by
  obtain ⟨h1, h2, h3⟩ := h
  refine ⟨fun c j hc => ?_, fun j hj => ?_, fun q i q0 q1 i0 i1 => ?_⟩
  · rw [zup_a hc, zup_a hc, zup_a hc, zup_a hc]; exact h1 c j hc
  · rw [zup_i (by lia), zup_i (by lia), zup_i (by lia), zup_i (by lia)]; exact h2 j (by lia)
  · by_cases hq : q = k
    · subst hq
      by_cases i3 : i = 3
      · rw [i3, zup_s, e3]
      · rw [zup_i (by lia)]
        by_cases i2 : i = 2
        · rw [i2, zup_s, e2]
        · rw [zup_i (by lia)]
          by_cases i1' : i = 1
          · rw [i1', zup_s, e1]
          · have i00 : i = 0 := by lia
            rw [i00, show 3 + 4 * (p + q) + 0 = 3 + 4 * (p + q) by grind, zup_i (by lia), zup_s, h1 401 q (by decide)]; rfl
    · have hn : ∀ f, 0 ≤ f → f < 4 → 3 + 4 * (p + q) + i ≠ 3 + 4 * (p + k) + f := fun f f0 f1 e => hq (by
        have := (z3e i0 i1 (by lia) (by lia) (by lia) (by lia) f f0 f1 e).1
        lia)
      rw [zup_i (hn 3 (by decide) (by decide)), zup_i (hn 2 (by decide) (by decide)), zup_i (hn 1 (by decide) (by decide)), zup_i (fun e => hn 0 (by decide) (by decide) (e.trans (z0a _)))]
      exact h3 q i q0 (by lia) i0 i1
theorem bkMo_comeFrom_0 : zBk mMo_comeFrom 0 [(0, 0, 0, 0, 0), (2, 2, 0, 0, 0)] = some 2 := by decide +kernel
theorem bkMo_comeFrom_2 : zBk mMo_comeFrom 2 [(1, 2, 0, 0, 0), (1, 0, 1, 0, 0), (5, 10, 11, 0, 11)] = some 7 := by decide +kernel
theorem bkMo_comeFrom_91 : zBk mMo_comeFrom 91 [] = some 91 := by decide +kernel
theorem bkMo_comeFrom_10 : zBk mMo_comeFrom 10 [(1, 1, 0, 0, 0), (1, 2, 0, 0, 0), (4, 0, 0, 0, 0)] = some 13 := by decide +kernel
theorem bkMo_comeFrom_16 : zBk mMo_comeFrom 16 [(2, 3, 0, 0, 0), (1, 0, 1, 0, 0), (5, 10, 3, 2, 3), (1, 3, 0, 0, 0), (1, 0, 1, 0, 0), (5, 10, 10, 8, 10), (1, 2, 0, 0, 0), (7, 1, 0, 0, 0), (8, 0, 0, 0, 0), (0, 0, 0, 0, 1), (2, 4, 0, 0, 0), (1, 4, 0, 0, 0), (0, 0, 0, 0, 4)] = some 35 := by decide +kernel
theorem bkMo_comeFrom_38 : zBk mMo_comeFrom 38 [(1, 0, 1, 0, 0), (5, 10, 3, 2, 3), (1, 3, 0, 0, 0), (1, 4, 0, 0, 0), (4, 0, 0, 0, 0), (1, 1, 0, 0, 0)] = some 47 := by decide +kernel
theorem bkMo_comeFrom_50 : zBk mMo_comeFrom 50 [(1, 0, 1, 0, 0), (5, 10, 3, 2, 3), (1, 1, 0, 0, 0), (0, 0, 0, 0, 1), (4, 1, 0, 0, 0)] = some 57 := by decide +kernel
theorem bkMo_comeFrom_60 : zBk mMo_comeFrom 60 [(1, 4, 0, 0, 0), (4, 0, 0, 0, 0), (7, 0, 0, 0, 0), (22, 78, 0, 0, 0), (8, 0, 0, 0, 0), (3, 4, 0, 0, 1), (22, 32, 0, 0, 0), (1, 4, 0, 0, 0), (0, 0, 0, 0, 4)] = some 35 := by decide +kernel
theorem bkMo_comeFrom_85 : zBk mMo_comeFrom 85 [(3, 2, 0, 0, 1), (22, 2, 0, 0, 0)] = some 2 := by decide +kernel
theorem bdMo_comeFrom_7 : decode mMo_comeFrom.2.2.1 7 = .ok (.if_icmp .ge 84, 3) := by decide +kernel
theorem bdMo_comeFrom_13 : decode mMo_comeFrom.2.2.1 13 = .ok (.invokestatic 141, 3) := by decide +kernel
theorem bdMo_comeFrom_35 : decode mMo_comeFrom.2.2.1 35 = .ok (.if_icmp .ge 50, 3) := by decide +kernel
theorem bdMo_comeFrom_47 : decode mMo_comeFrom.2.2.1 47 = .ok (.ifCond .le 20, 3) := by decide +kernel
theorem bdMo_comeFrom_57 : decode mMo_comeFrom.2.2.1 57 = .ok (.invokestatic 141, 3) := by decide +kernel
theorem bdMo_comeFrom_91 : decode mMo_comeFrom.2.2.1 91 = .ok (.return_, 1) := by decide +kernel
theorem lMo_comeFrom_p {sg : zSig} {p m : Int32} (p0 : 0 ≤ p) (p1 : p ≤ 200) (m0 : 0 ≤ m) (m1 : p + m ≤ 200) (m2 : m ≤ 200) (em : sg 393 11 = m) (hp : 0 < p) {Q : Option Value → zHp → Prop} (hq : ∀ rr h', (∃ sg', rr = none ∧ h' = zN sg' ∧ mCf sg sg' p m) → Q rr h') : zG mMo_comeFrom 411 Q 0 [(0, .ref 393), (1, .int p)] [] (zN sg) := by
  refine zG_run bkMo_comeFrom_0 (lv' := [(2, .int 0), (0, .ref 393), (1, .int p)]) (st' := []) (h' := zN sg) (Ps := []) rfl trivial ?_
  refine zG_pick (lv' := [(0, .ref 393), (1, .int p), (2, .int 0)]) [1, 2, 0] rfl ?_
  refine zlp2 (fun (k : Int32) (sg1 : zSig) => zG mMo_comeFrom 411 Q 2 [(0, .ref 393), (1, .int p), (2, .int k)] [] (zN sg1)) (fun (k : Int32) (sg1 : zSig) => (0 ≤ k) ∧ (k ≤ m) ∧ (mCf sg sg1 p k)) (fun (k : Int32) (sg1 : zSig) => zmu m k) ?_ 0 sg ?_
  · intro k sg1 hI ih
    obtain ⟨k0, k1, kz⟩ := hI
    have kt : sg1 393 11 = m := by rw [kz.1 393 11 (by decide)]; assumption
    refine zb_icge (tgt := 91) bkMo_comeFrom_2 bdMo_comeFrom_7 (by decide) (lv' := [(0, .ref 393), (1, .int p), (2, .int k)]) (st' := []) (h' := zN sg1) (x := k) (y := sg1 393 11) (Ps := [zOb (zN sg1) 393 10]) rfl (zA zob_393 trivial) (fun c1 => ?_) (fun c1 => ?_)
    · skip
      refine zb_vret bkMo_comeFrom_91 bdMo_comeFrom_91 rfl (h' := zN sg1) (Ps := []) rfl trivial rfl ?_
      refine hq _ _ ?_
      refine ⟨sg1, rfl, rfl, ?_⟩
      rw [show k = m by lia] at kz; exact kz
    · skip
      refine zG_run bkMo_comeFrom_10 (lv' := [(0, .ref 393), (1, .int p), (2, .int k)]) (st' := [.int (p + k)]) (h' := zN sg1) (Ps := []) rfl trivial ?_
      refine zG_calls (As := [.int (p + k)]) (rest := []) (N2 := 411) bdMo_comeFrom_13 okMo_letterAt lk10_141 (And.intro (by decide) (by decide)) rfl rfl (Nat.le_of_ble_eq_true rfl) (Nat.le_of_ble_eq_true rfl) (Nat.le_refl 411) (Nat.le_refl 411) cMo_letterAt ?_
      rintro rr h' ⟨rfl, rfl⟩ -
      refine zb_icge (tgt := 85) bkMo_comeFrom_16 bdMo_comeFrom_35 (by decide) (lv' := [(4, .int 1), (3, .int (3 + 4 * (p + k))), (0, .ref 393), (1, .int p), (2, .int k)]) (st' := []) (h' := zN (zup sg1 395 (3 + 4 * (p + k)) (sg1 401 k))) (x := 1) (y := 4) (Ps := [zOb (zN sg1) 393 10 ∧ (zN sg1).2.2 393 3 = true, zOb (zN sg1) 393 10 ∧ (zN sg1).2.2 393 10 = true, zIn (zN sg1) 401 1 k, zIn (zN sg1) 395 0 (3 + 4 * (p + k))]) rfl (zA ⟨zob_393, rfl⟩ (zA ⟨zob_393, rfl⟩ (zA (zin_401 (i := k) (by lia) (by lia)) (zA (zin_395 (i := 3 + 4 * (p + k)) (by lia) (by lia)) trivial)))) (fun c2 => ?_) (fun c2 => ?_)
      · exact absurd c2 (by decide)
      · skip
        refine zb_ifle (tgt := 67) bkMo_comeFrom_38 bdMo_comeFrom_47 (by decide) (lv' := [(4, .int 1), (3, .int (3 + 4 * (p + k))), (0, .ref 393), (1, .int p), (2, .int k)]) (st' := [.int ((3 + 4 * (p + k)) + 1), .ref 395]) (h' := zN (zup sg1 395 (3 + 4 * (p + k)) (sg1 401 k))) (x := p) (Ps := [zOb (zN (zup sg1 395 (3 + 4 * (p + k)) (sg1 401 k))) 393 10 ∧ (zN (zup sg1 395 (3 + 4 * (p + k)) (sg1 401 k))).2.2 393 3 = true]) rfl (zA ⟨zob_393, rfl⟩ trivial) (fun c3 => ?_) (fun c3 => ?_)
        · skip
          exfalso; lia
        · skip
          refine zG_run bkMo_comeFrom_50 (lv' := [(4, .int 1), (3, .int (3 + 4 * (p + k))), (0, .ref 393), (1, .int p), (2, .int k)]) (st' := [.int (p - 1), .ref 395, .int ((3 + 4 * (p + k)) + 1), .ref 395]) (h' := zN (zup sg1 395 (3 + 4 * (p + k)) (sg1 401 k))) (Ps := [zOb (zN (zup sg1 395 (3 + 4 * (p + k)) (sg1 401 k))) 393 10 ∧ (zN (zup sg1 395 (3 + 4 * (p + k)) (sg1 401 k))).2.2 393 3 = true]) rfl (zA ⟨zob_393, rfl⟩ trivial) ?_
          refine zG_calls (As := [.int (p - 1)]) (rest := [.ref 395, .int ((3 + 4 * (p + k)) + 1), .ref 395]) (N2 := 411) bdMo_comeFrom_57 okMo_letterAt lk10_141 (And.intro (by decide) (by decide)) rfl rfl (Nat.le_of_ble_eq_true rfl) (Nat.le_of_ble_eq_true rfl) (Nat.le_refl 411) (Nat.le_refl 411) cMo_letterAt ?_
          rintro rr h' ⟨rfl, rfl⟩ -
          refine zb_icge (tgt := 85) bkMo_comeFrom_60 bdMo_comeFrom_35 (by decide) (lv' := [(4, .int 2), (3, .int (3 + 4 * (p + k))), (0, .ref 393), (1, .int p), (2, .int k)]) (st' := []) (h' := zN (zup (zup sg1 395 (3 + 4 * (p + k)) (sg1 401 k)) 395 ((3 + 4 * (p + k)) + 1) ((zup sg1 395 (3 + 4 * (p + k)) (sg1 401 k)) 395 ((3 + 4 * (p - 1)) + 1)))) (x := 2) (y := 4) (Ps := [zInL (zN (zup sg1 395 (3 + 4 * (p + k)) (sg1 401 k))) 395 ((3 + 4 * (p - 1)) + 1), zIn (zN (zup sg1 395 (3 + 4 * (p + k)) (sg1 401 k))) 395 0 ((3 + 4 * (p + k)) + 1)]) rfl (zA (zinL_395 (i := (3 + 4 * (p - 1)) + 1) (by lia) (by lia)) (zA (zin_395 (i := (3 + 4 * (p + k)) + 1) (by lia) (by lia)) trivial)) (fun c4 => ?_) (fun c4 => ?_)
          · exact absurd c4 (by decide)
          · skip
            refine zb_ifle (tgt := 67) bkMo_comeFrom_38 bdMo_comeFrom_47 (by decide) (lv' := [(4, .int 2), (3, .int (3 + 4 * (p + k))), (0, .ref 393), (1, .int p), (2, .int k)]) (st' := [.int ((3 + 4 * (p + k)) + 2), .ref 395]) (h' := zN (zup (zup sg1 395 (3 + 4 * (p + k)) (sg1 401 k)) 395 ((3 + 4 * (p + k)) + 1) ((zup sg1 395 (3 + 4 * (p + k)) (sg1 401 k)) 395 ((3 + 4 * (p - 1)) + 1)))) (x := p) (Ps := [zOb (zN (zup (zup sg1 395 (3 + 4 * (p + k)) (sg1 401 k)) 395 ((3 + 4 * (p + k)) + 1) ((zup sg1 395 (3 + 4 * (p + k)) (sg1 401 k)) 395 ((3 + 4 * (p - 1)) + 1)))) 393 10 ∧ (zN (zup (zup sg1 395 (3 + 4 * (p + k)) (sg1 401 k)) 395 ((3 + 4 * (p + k)) + 1) ((zup sg1 395 (3 + 4 * (p + k)) (sg1 401 k)) 395 ((3 + 4 * (p - 1)) + 1)))).2.2 393 3 = true]) rfl (zA ⟨zob_393, rfl⟩ trivial) (fun c5 => ?_) (fun c5 => ?_)
            · skip
              exfalso; lia
            · skip
              refine zG_run bkMo_comeFrom_50 (lv' := [(4, .int 2), (3, .int (3 + 4 * (p + k))), (0, .ref 393), (1, .int p), (2, .int k)]) (st' := [.int (p - 1), .ref 395, .int ((3 + 4 * (p + k)) + 2), .ref 395]) (h' := zN (zup (zup sg1 395 (3 + 4 * (p + k)) (sg1 401 k)) 395 ((3 + 4 * (p + k)) + 1) ((zup sg1 395 (3 + 4 * (p + k)) (sg1 401 k)) 395 ((3 + 4 * (p - 1)) + 1)))) (Ps := [zOb (zN (zup (zup sg1 395 (3 + 4 * (p + k)) (sg1 401 k)) 395 ((3 + 4 * (p + k)) + 1) ((zup sg1 395 (3 + 4 * (p + k)) (sg1 401 k)) 395 ((3 + 4 * (p - 1)) + 1)))) 393 10 ∧ (zN (zup (zup sg1 395 (3 + 4 * (p + k)) (sg1 401 k)) 395 ((3 + 4 * (p + k)) + 1) ((zup sg1 395 (3 + 4 * (p + k)) (sg1 401 k)) 395 ((3 + 4 * (p - 1)) + 1)))).2.2 393 3 = true]) rfl (zA ⟨zob_393, rfl⟩ trivial) ?_
              refine zG_calls (As := [.int (p - 1)]) (rest := [.ref 395, .int ((3 + 4 * (p + k)) + 2), .ref 395]) (N2 := 411) bdMo_comeFrom_57 okMo_letterAt lk10_141 (And.intro (by decide) (by decide)) rfl rfl (Nat.le_of_ble_eq_true rfl) (Nat.le_of_ble_eq_true rfl) (Nat.le_refl 411) (Nat.le_refl 411) cMo_letterAt ?_
              rintro rr h' ⟨rfl, rfl⟩ -
              refine zb_icge (tgt := 85) bkMo_comeFrom_60 bdMo_comeFrom_35 (by decide) (lv' := [(4, .int 3), (3, .int (3 + 4 * (p + k))), (0, .ref 393), (1, .int p), (2, .int k)]) (st' := []) (h' := zN (zup (zup (zup sg1 395 (3 + 4 * (p + k)) (sg1 401 k)) 395 ((3 + 4 * (p + k)) + 1) ((zup sg1 395 (3 + 4 * (p + k)) (sg1 401 k)) 395 ((3 + 4 * (p - 1)) + 1))) 395 ((3 + 4 * (p + k)) + 2) ((zup (zup sg1 395 (3 + 4 * (p + k)) (sg1 401 k)) 395 ((3 + 4 * (p + k)) + 1) ((zup sg1 395 (3 + 4 * (p + k)) (sg1 401 k)) 395 ((3 + 4 * (p - 1)) + 1))) 395 ((3 + 4 * (p - 1)) + 2)))) (x := 3) (y := 4) (Ps := [zInL (zN (zup (zup sg1 395 (3 + 4 * (p + k)) (sg1 401 k)) 395 ((3 + 4 * (p + k)) + 1) ((zup sg1 395 (3 + 4 * (p + k)) (sg1 401 k)) 395 ((3 + 4 * (p - 1)) + 1)))) 395 ((3 + 4 * (p - 1)) + 2), zIn (zN (zup (zup sg1 395 (3 + 4 * (p + k)) (sg1 401 k)) 395 ((3 + 4 * (p + k)) + 1) ((zup sg1 395 (3 + 4 * (p + k)) (sg1 401 k)) 395 ((3 + 4 * (p - 1)) + 1)))) 395 0 ((3 + 4 * (p + k)) + 2)]) rfl (zA (zinL_395 (i := (3 + 4 * (p - 1)) + 2) (by lia) (by lia)) (zA (zin_395 (i := (3 + 4 * (p + k)) + 2) (by lia) (by lia)) trivial)) (fun c6 => ?_) (fun c6 => ?_)
              · exact absurd c6 (by decide)
              · skip
                refine zb_ifle (tgt := 67) bkMo_comeFrom_38 bdMo_comeFrom_47 (by decide) (lv' := [(4, .int 3), (3, .int (3 + 4 * (p + k))), (0, .ref 393), (1, .int p), (2, .int k)]) (st' := [.int ((3 + 4 * (p + k)) + 3), .ref 395]) (h' := zN (zup (zup (zup sg1 395 (3 + 4 * (p + k)) (sg1 401 k)) 395 ((3 + 4 * (p + k)) + 1) ((zup sg1 395 (3 + 4 * (p + k)) (sg1 401 k)) 395 ((3 + 4 * (p - 1)) + 1))) 395 ((3 + 4 * (p + k)) + 2) ((zup (zup sg1 395 (3 + 4 * (p + k)) (sg1 401 k)) 395 ((3 + 4 * (p + k)) + 1) ((zup sg1 395 (3 + 4 * (p + k)) (sg1 401 k)) 395 ((3 + 4 * (p - 1)) + 1))) 395 ((3 + 4 * (p - 1)) + 2)))) (x := p) (Ps := [zOb (zN (zup (zup (zup sg1 395 (3 + 4 * (p + k)) (sg1 401 k)) 395 ((3 + 4 * (p + k)) + 1) ((zup sg1 395 (3 + 4 * (p + k)) (sg1 401 k)) 395 ((3 + 4 * (p - 1)) + 1))) 395 ((3 + 4 * (p + k)) + 2) ((zup (zup sg1 395 (3 + 4 * (p + k)) (sg1 401 k)) 395 ((3 + 4 * (p + k)) + 1) ((zup sg1 395 (3 + 4 * (p + k)) (sg1 401 k)) 395 ((3 + 4 * (p - 1)) + 1))) 395 ((3 + 4 * (p - 1)) + 2)))) 393 10 ∧ (zN (zup (zup (zup sg1 395 (3 + 4 * (p + k)) (sg1 401 k)) 395 ((3 + 4 * (p + k)) + 1) ((zup sg1 395 (3 + 4 * (p + k)) (sg1 401 k)) 395 ((3 + 4 * (p - 1)) + 1))) 395 ((3 + 4 * (p + k)) + 2) ((zup (zup sg1 395 (3 + 4 * (p + k)) (sg1 401 k)) 395 ((3 + 4 * (p + k)) + 1) ((zup sg1 395 (3 + 4 * (p + k)) (sg1 401 k)) 395 ((3 + 4 * (p - 1)) + 1))) 395 ((3 + 4 * (p - 1)) + 2)))).2.2 393 3 = true]) rfl (zA ⟨zob_393, rfl⟩ trivial) (fun c7 => ?_) (fun c7 => ?_)
                · skip
                  exfalso; lia
                · skip
                  refine zG_run bkMo_comeFrom_50 (lv' := [(4, .int 3), (3, .int (3 + 4 * (p + k))), (0, .ref 393), (1, .int p), (2, .int k)]) (st' := [.int (p - 1), .ref 395, .int ((3 + 4 * (p + k)) + 3), .ref 395]) (h' := zN (zup (zup (zup sg1 395 (3 + 4 * (p + k)) (sg1 401 k)) 395 ((3 + 4 * (p + k)) + 1) ((zup sg1 395 (3 + 4 * (p + k)) (sg1 401 k)) 395 ((3 + 4 * (p - 1)) + 1))) 395 ((3 + 4 * (p + k)) + 2) ((zup (zup sg1 395 (3 + 4 * (p + k)) (sg1 401 k)) 395 ((3 + 4 * (p + k)) + 1) ((zup sg1 395 (3 + 4 * (p + k)) (sg1 401 k)) 395 ((3 + 4 * (p - 1)) + 1))) 395 ((3 + 4 * (p - 1)) + 2)))) (Ps := [zOb (zN (zup (zup (zup sg1 395 (3 + 4 * (p + k)) (sg1 401 k)) 395 ((3 + 4 * (p + k)) + 1) ((zup sg1 395 (3 + 4 * (p + k)) (sg1 401 k)) 395 ((3 + 4 * (p - 1)) + 1))) 395 ((3 + 4 * (p + k)) + 2) ((zup (zup sg1 395 (3 + 4 * (p + k)) (sg1 401 k)) 395 ((3 + 4 * (p + k)) + 1) ((zup sg1 395 (3 + 4 * (p + k)) (sg1 401 k)) 395 ((3 + 4 * (p - 1)) + 1))) 395 ((3 + 4 * (p - 1)) + 2)))) 393 10 ∧ (zN (zup (zup (zup sg1 395 (3 + 4 * (p + k)) (sg1 401 k)) 395 ((3 + 4 * (p + k)) + 1) ((zup sg1 395 (3 + 4 * (p + k)) (sg1 401 k)) 395 ((3 + 4 * (p - 1)) + 1))) 395 ((3 + 4 * (p + k)) + 2) ((zup (zup sg1 395 (3 + 4 * (p + k)) (sg1 401 k)) 395 ((3 + 4 * (p + k)) + 1) ((zup sg1 395 (3 + 4 * (p + k)) (sg1 401 k)) 395 ((3 + 4 * (p - 1)) + 1))) 395 ((3 + 4 * (p - 1)) + 2)))).2.2 393 3 = true]) rfl (zA ⟨zob_393, rfl⟩ trivial) ?_
                  refine zG_calls (As := [.int (p - 1)]) (rest := [.ref 395, .int ((3 + 4 * (p + k)) + 3), .ref 395]) (N2 := 411) bdMo_comeFrom_57 okMo_letterAt lk10_141 (And.intro (by decide) (by decide)) rfl rfl (Nat.le_of_ble_eq_true rfl) (Nat.le_of_ble_eq_true rfl) (Nat.le_refl 411) (Nat.le_refl 411) cMo_letterAt ?_
                  rintro rr h' ⟨rfl, rfl⟩ -
                  refine zb_icge (tgt := 85) bkMo_comeFrom_60 bdMo_comeFrom_35 (by decide) (lv' := [(4, .int 4), (3, .int (3 + 4 * (p + k))), (0, .ref 393), (1, .int p), (2, .int k)]) (st' := []) (h' := zN (zup (zup (zup (zup sg1 395 (3 + 4 * (p + k)) (sg1 401 k)) 395 ((3 + 4 * (p + k)) + 1) ((zup sg1 395 (3 + 4 * (p + k)) (sg1 401 k)) 395 ((3 + 4 * (p - 1)) + 1))) 395 ((3 + 4 * (p + k)) + 2) ((zup (zup sg1 395 (3 + 4 * (p + k)) (sg1 401 k)) 395 ((3 + 4 * (p + k)) + 1) ((zup sg1 395 (3 + 4 * (p + k)) (sg1 401 k)) 395 ((3 + 4 * (p - 1)) + 1))) 395 ((3 + 4 * (p - 1)) + 2))) 395 ((3 + 4 * (p + k)) + 3) ((zup (zup (zup sg1 395 (3 + 4 * (p + k)) (sg1 401 k)) 395 ((3 + 4 * (p + k)) + 1) ((zup sg1 395 (3 + 4 * (p + k)) (sg1 401 k)) 395 ((3 + 4 * (p - 1)) + 1))) 395 ((3 + 4 * (p + k)) + 2) ((zup (zup sg1 395 (3 + 4 * (p + k)) (sg1 401 k)) 395 ((3 + 4 * (p + k)) + 1) ((zup sg1 395 (3 + 4 * (p + k)) (sg1 401 k)) 395 ((3 + 4 * (p - 1)) + 1))) 395 ((3 + 4 * (p - 1)) + 2))) 395 ((3 + 4 * (p - 1)) + 3)))) (x := 4) (y := 4) (Ps := [zInL (zN (zup (zup (zup sg1 395 (3 + 4 * (p + k)) (sg1 401 k)) 395 ((3 + 4 * (p + k)) + 1) ((zup sg1 395 (3 + 4 * (p + k)) (sg1 401 k)) 395 ((3 + 4 * (p - 1)) + 1))) 395 ((3 + 4 * (p + k)) + 2) ((zup (zup sg1 395 (3 + 4 * (p + k)) (sg1 401 k)) 395 ((3 + 4 * (p + k)) + 1) ((zup sg1 395 (3 + 4 * (p + k)) (sg1 401 k)) 395 ((3 + 4 * (p - 1)) + 1))) 395 ((3 + 4 * (p - 1)) + 2)))) 395 ((3 + 4 * (p - 1)) + 3), zIn (zN (zup (zup (zup sg1 395 (3 + 4 * (p + k)) (sg1 401 k)) 395 ((3 + 4 * (p + k)) + 1) ((zup sg1 395 (3 + 4 * (p + k)) (sg1 401 k)) 395 ((3 + 4 * (p - 1)) + 1))) 395 ((3 + 4 * (p + k)) + 2) ((zup (zup sg1 395 (3 + 4 * (p + k)) (sg1 401 k)) 395 ((3 + 4 * (p + k)) + 1) ((zup sg1 395 (3 + 4 * (p + k)) (sg1 401 k)) 395 ((3 + 4 * (p - 1)) + 1))) 395 ((3 + 4 * (p - 1)) + 2)))) 395 0 ((3 + 4 * (p + k)) + 3)]) rfl (zA (zinL_395 (i := (3 + 4 * (p - 1)) + 3) (by lia) (by lia)) (zA (zin_395 (i := (3 + 4 * (p + k)) + 3) (by lia) (by lia)) trivial)) (fun c8 => ?_) (fun c8 => ?_)
                  · skip
                    refine zG_run bkMo_comeFrom_85 (lv' := [(2, .int (k + 1)), (4, .int 4), (3, .int (3 + 4 * (p + k))), (0, .ref 393), (1, .int p)]) (st' := []) (h' := zN (zup (zup (zup (zup sg1 395 (3 + 4 * (p + k)) (sg1 401 k)) 395 ((3 + 4 * (p + k)) + 1) ((zup sg1 395 (3 + 4 * (p + k)) (sg1 401 k)) 395 ((3 + 4 * (p - 1)) + 1))) 395 ((3 + 4 * (p + k)) + 2) ((zup (zup sg1 395 (3 + 4 * (p + k)) (sg1 401 k)) 395 ((3 + 4 * (p + k)) + 1) ((zup sg1 395 (3 + 4 * (p + k)) (sg1 401 k)) 395 ((3 + 4 * (p - 1)) + 1))) 395 ((3 + 4 * (p - 1)) + 2))) 395 ((3 + 4 * (p + k)) + 3) ((zup (zup (zup sg1 395 (3 + 4 * (p + k)) (sg1 401 k)) 395 ((3 + 4 * (p + k)) + 1) ((zup sg1 395 (3 + 4 * (p + k)) (sg1 401 k)) 395 ((3 + 4 * (p - 1)) + 1))) 395 ((3 + 4 * (p + k)) + 2) ((zup (zup sg1 395 (3 + 4 * (p + k)) (sg1 401 k)) 395 ((3 + 4 * (p + k)) + 1) ((zup sg1 395 (3 + 4 * (p + k)) (sg1 401 k)) 395 ((3 + 4 * (p - 1)) + 1))) 395 ((3 + 4 * (p - 1)) + 2))) 395 ((3 + 4 * (p - 1)) + 3)))) (Ps := []) rfl trivial ?_
                    refine zG_pick (lv' := [(0, .ref 393), (1, .int p), (2, .int (k + 1))]) [3, 4, 0] rfl ?_
                    refine ih (k + 1) (zup (zup (zup (zup sg1 395 (3 + 4 * (p + k)) (sg1 401 k)) 395 ((3 + 4 * (p + k)) + 1) ((zup sg1 395 (3 + 4 * (p + k)) (sg1 401 k)) 395 ((3 + 4 * (p - 1)) + 1))) 395 ((3 + 4 * (p + k)) + 2) ((zup (zup sg1 395 (3 + 4 * (p + k)) (sg1 401 k)) 395 ((3 + 4 * (p + k)) + 1) ((zup sg1 395 (3 + 4 * (p + k)) (sg1 401 k)) 395 ((3 + 4 * (p - 1)) + 1))) 395 ((3 + 4 * (p - 1)) + 2))) 395 ((3 + 4 * (p + k)) + 3) ((zup (zup (zup sg1 395 (3 + 4 * (p + k)) (sg1 401 k)) 395 ((3 + 4 * (p + k)) + 1) ((zup sg1 395 (3 + 4 * (p + k)) (sg1 401 k)) 395 ((3 + 4 * (p - 1)) + 1))) 395 ((3 + 4 * (p + k)) + 2) ((zup (zup sg1 395 (3 + 4 * (p + k)) (sg1 401 k)) 395 ((3 + 4 * (p + k)) + 1) ((zup sg1 395 (3 + 4 * (p + k)) (sg1 401 k)) 395 ((3 + 4 * (p - 1)) + 1))) 395 ((3 + 4 * (p - 1)) + 2))) 395 ((3 + 4 * (p - 1)) + 3))) ?_ ?_
                    · refine ⟨?_, ?_, ?_⟩
                      · lia
                      · lia
                      · exact mCf_s k0 (by lia : k < m) p0 (by lia) (by lia) kz (by unfold mCv; rw [if_neg (by decide), if_pos hp, zup_i (by lia), kz.2.1 _ (Or.inl (by lia))]) (by unfold mCv; rw [if_neg (by decide), if_pos hp, zup_i (by lia), zup_i (by lia), kz.2.1 _ (Or.inl (by lia))]) (by unfold mCv; rw [if_neg (by decide), if_pos hp, zup_i (by lia), zup_i (by lia), zup_i (by lia), kz.2.1 _ (Or.inl (by lia))])
                    · exact zmu_up (by lia)
                  · exact absurd c8 (by decide)
  · refine ⟨?_, ?_, ?_⟩
    · lia
    · lia
    · exact ⟨fun _ _ _ => rfl, fun _ _ => rfl, fun q i q0 q1 _ _ => by exfalso; lia⟩
theorem cMo_comeFrom_p {sg : zSig} {p m : Int32} (p0 : 0 ≤ p) (p1 : p ≤ 200) (m0 : 0 ≤ m) (m1 : p + m ≤ 200) (m2 : m ≤ 200) (em : sg 393 11 = m) (hp : 0 < p) : zG mMo_comeFrom 411 (fun rr h' => ∃ sg', rr = none ∧ h' = zN sg' ∧ mCf sg sg' p m) 0 [(0, .ref 393), (1, .int p)] [] (zN sg) := lMo_comeFrom_p p0 p1 m0 m1 m2 em hp (fun _ _ q => q)
theorem bkMo_comeFrom_67 : zBk mMo_comeFrom 67 [(1, 4, 0, 0, 0), (0, 0, 0, 0, 3)] = some 70 := by decide +kernel
theorem bkMo_comeFrom_77 : zBk mMo_comeFrom 77 [(0, 0, 0, 0, 0), (8, 0, 0, 0, 0), (3, 4, 0, 0, 1), (22, 32, 0, 0, 0), (1, 4, 0, 0, 0), (0, 0, 0, 0, 4)] = some 35 := by decide +kernel
theorem bkMo_comeFrom_73 : zBk mMo_comeFrom 73 [(0, 0, 0, 0, 4), (22, 78, 0, 0, 0), (8, 0, 0, 0, 0), (3, 4, 0, 0, 1), (22, 32, 0, 0, 0), (1, 4, 0, 0, 0), (0, 0, 0, 0, 4)] = some 35 := by decide +kernel
theorem bdMo_comeFrom_70 : decode mMo_comeFrom.2.2.1 70 = .ok (.if_icmp .ne 7, 3) := by decide +kernel
theorem lMo_comeFrom_0 {sg : zSig} {p m : Int32} (p0 : 0 ≤ p) (p1 : p ≤ 200) (m0 : 0 ≤ m) (m1 : p + m ≤ 200) (m2 : m ≤ 200) (em : sg 393 11 = m) (hp : ¬ 0 < p) {Q : Option Value → zHp → Prop} (hq : ∀ rr h', (∃ sg', rr = none ∧ h' = zN sg' ∧ mCf sg sg' p m) → Q rr h') : zG mMo_comeFrom 411 Q 0 [(0, .ref 393), (1, .int p)] [] (zN sg) := by
  refine zG_run bkMo_comeFrom_0 (lv' := [(2, .int 0), (0, .ref 393), (1, .int p)]) (st' := []) (h' := zN sg) (Ps := []) rfl trivial ?_
  refine zG_pick (lv' := [(0, .ref 393), (1, .int p), (2, .int 0)]) [1, 2, 0] rfl ?_
  refine zlp2 (fun (k : Int32) (sg1 : zSig) => zG mMo_comeFrom 411 Q 2 [(0, .ref 393), (1, .int p), (2, .int k)] [] (zN sg1)) (fun (k : Int32) (sg1 : zSig) => (0 ≤ k) ∧ (k ≤ m) ∧ (mCf sg sg1 p k)) (fun (k : Int32) (sg1 : zSig) => zmu m k) ?_ 0 sg ?_
  · intro k sg1 hI ih
    obtain ⟨k0, k1, kz⟩ := hI
    have kt : sg1 393 11 = m := by rw [kz.1 393 11 (by decide)]; assumption
    refine zb_icge (tgt := 91) bkMo_comeFrom_2 bdMo_comeFrom_7 (by decide) (lv' := [(0, .ref 393), (1, .int p), (2, .int k)]) (st' := []) (h' := zN sg1) (x := k) (y := sg1 393 11) (Ps := [zOb (zN sg1) 393 10]) rfl (zA zob_393 trivial) (fun c1 => ?_) (fun c1 => ?_)
    · skip
      refine zb_vret bkMo_comeFrom_91 bdMo_comeFrom_91 rfl (h' := zN sg1) (Ps := []) rfl trivial rfl ?_
      refine hq _ _ ?_
      refine ⟨sg1, rfl, rfl, ?_⟩
      rw [show k = m by lia] at kz; exact kz
    · skip
      refine zG_run bkMo_comeFrom_10 (lv' := [(0, .ref 393), (1, .int p), (2, .int k)]) (st' := [.int (p + k)]) (h' := zN sg1) (Ps := []) rfl trivial ?_
      refine zG_calls (As := [.int (p + k)]) (rest := []) (N2 := 411) bdMo_comeFrom_13 okMo_letterAt lk10_141 (And.intro (by decide) (by decide)) rfl rfl (Nat.le_of_ble_eq_true rfl) (Nat.le_of_ble_eq_true rfl) (Nat.le_refl 411) (Nat.le_refl 411) cMo_letterAt ?_
      rintro rr h' ⟨rfl, rfl⟩ -
      refine zb_icge (tgt := 85) bkMo_comeFrom_16 bdMo_comeFrom_35 (by decide) (lv' := [(4, .int 1), (3, .int (3 + 4 * (p + k))), (0, .ref 393), (1, .int p), (2, .int k)]) (st' := []) (h' := zN (zup sg1 395 (3 + 4 * (p + k)) (sg1 401 k))) (x := 1) (y := 4) (Ps := [zOb (zN sg1) 393 10 ∧ (zN sg1).2.2 393 3 = true, zOb (zN sg1) 393 10 ∧ (zN sg1).2.2 393 10 = true, zIn (zN sg1) 401 1 k, zIn (zN sg1) 395 0 (3 + 4 * (p + k))]) rfl (zA ⟨zob_393, rfl⟩ (zA ⟨zob_393, rfl⟩ (zA (zin_401 (i := k) (by lia) (by lia)) (zA (zin_395 (i := 3 + 4 * (p + k)) (by lia) (by lia)) trivial)))) (fun c2 => ?_) (fun c2 => ?_)
      · exact absurd c2 (by decide)
      · skip
        refine zb_ifle (tgt := 67) bkMo_comeFrom_38 bdMo_comeFrom_47 (by decide) (lv' := [(4, .int 1), (3, .int (3 + 4 * (p + k))), (0, .ref 393), (1, .int p), (2, .int k)]) (st' := [.int ((3 + 4 * (p + k)) + 1), .ref 395]) (h' := zN (zup sg1 395 (3 + 4 * (p + k)) (sg1 401 k))) (x := p) (Ps := [zOb (zN (zup sg1 395 (3 + 4 * (p + k)) (sg1 401 k))) 393 10 ∧ (zN (zup sg1 395 (3 + 4 * (p + k)) (sg1 401 k))).2.2 393 3 = true]) rfl (zA ⟨zob_393, rfl⟩ trivial) (fun c3 => ?_) (fun c3 => ?_)
        · skip
          refine zb_icne (tgt := 77) bkMo_comeFrom_67 bdMo_comeFrom_70 (by decide) (lv' := [(4, .int 1), (3, .int (3 + 4 * (p + k))), (0, .ref 393), (1, .int p), (2, .int k)]) (st' := [.int ((3 + 4 * (p + k)) + 1), .ref 395]) (h' := zN (zup sg1 395 (3 + 4 * (p + k)) (sg1 401 k))) (x := 1) (y := 3) (Ps := []) rfl trivial (fun c4 => ?_) (fun c4 => ?_)
          · skip
            refine zb_icge (tgt := 85) bkMo_comeFrom_77 bdMo_comeFrom_35 (by decide) (lv' := [(4, .int 2), (3, .int (3 + 4 * (p + k))), (0, .ref 393), (1, .int p), (2, .int k)]) (st' := []) (h' := zN (zup (zup sg1 395 (3 + 4 * (p + k)) (sg1 401 k)) 395 ((3 + 4 * (p + k)) + 1) 0)) (x := 2) (y := 4) (Ps := [zIn (zN (zup sg1 395 (3 + 4 * (p + k)) (sg1 401 k))) 395 0 ((3 + 4 * (p + k)) + 1)]) rfl (zA (zin_395 (i := (3 + 4 * (p + k)) + 1) (by lia) (by lia)) trivial) (fun c5 => ?_) (fun c5 => ?_)
            · exact absurd c5 (by decide)
            · skip
              refine zb_ifle (tgt := 67) bkMo_comeFrom_38 bdMo_comeFrom_47 (by decide) (lv' := [(4, .int 2), (3, .int (3 + 4 * (p + k))), (0, .ref 393), (1, .int p), (2, .int k)]) (st' := [.int ((3 + 4 * (p + k)) + 2), .ref 395]) (h' := zN (zup (zup sg1 395 (3 + 4 * (p + k)) (sg1 401 k)) 395 ((3 + 4 * (p + k)) + 1) 0)) (x := p) (Ps := [zOb (zN (zup (zup sg1 395 (3 + 4 * (p + k)) (sg1 401 k)) 395 ((3 + 4 * (p + k)) + 1) 0)) 393 10 ∧ (zN (zup (zup sg1 395 (3 + 4 * (p + k)) (sg1 401 k)) 395 ((3 + 4 * (p + k)) + 1) 0)).2.2 393 3 = true]) rfl (zA ⟨zob_393, rfl⟩ trivial) (fun c6 => ?_) (fun c6 => ?_)
              · skip
                refine zb_icne (tgt := 77) bkMo_comeFrom_67 bdMo_comeFrom_70 (by decide) (lv' := [(4, .int 2), (3, .int (3 + 4 * (p + k))), (0, .ref 393), (1, .int p), (2, .int k)]) (st' := [.int ((3 + 4 * (p + k)) + 2), .ref 395]) (h' := zN (zup (zup sg1 395 (3 + 4 * (p + k)) (sg1 401 k)) 395 ((3 + 4 * (p + k)) + 1) 0)) (x := 2) (y := 3) (Ps := []) rfl trivial (fun c7 => ?_) (fun c7 => ?_)
                · skip
                  refine zb_icge (tgt := 85) bkMo_comeFrom_77 bdMo_comeFrom_35 (by decide) (lv' := [(4, .int 3), (3, .int (3 + 4 * (p + k))), (0, .ref 393), (1, .int p), (2, .int k)]) (st' := []) (h' := zN (zup (zup (zup sg1 395 (3 + 4 * (p + k)) (sg1 401 k)) 395 ((3 + 4 * (p + k)) + 1) 0) 395 ((3 + 4 * (p + k)) + 2) 0)) (x := 3) (y := 4) (Ps := [zIn (zN (zup (zup sg1 395 (3 + 4 * (p + k)) (sg1 401 k)) 395 ((3 + 4 * (p + k)) + 1) 0)) 395 0 ((3 + 4 * (p + k)) + 2)]) rfl (zA (zin_395 (i := (3 + 4 * (p + k)) + 2) (by lia) (by lia)) trivial) (fun c8 => ?_) (fun c8 => ?_)
                  · exact absurd c8 (by decide)
                  · skip
                    refine zb_ifle (tgt := 67) bkMo_comeFrom_38 bdMo_comeFrom_47 (by decide) (lv' := [(4, .int 3), (3, .int (3 + 4 * (p + k))), (0, .ref 393), (1, .int p), (2, .int k)]) (st' := [.int ((3 + 4 * (p + k)) + 3), .ref 395]) (h' := zN (zup (zup (zup sg1 395 (3 + 4 * (p + k)) (sg1 401 k)) 395 ((3 + 4 * (p + k)) + 1) 0) 395 ((3 + 4 * (p + k)) + 2) 0)) (x := p) (Ps := [zOb (zN (zup (zup (zup sg1 395 (3 + 4 * (p + k)) (sg1 401 k)) 395 ((3 + 4 * (p + k)) + 1) 0) 395 ((3 + 4 * (p + k)) + 2) 0)) 393 10 ∧ (zN (zup (zup (zup sg1 395 (3 + 4 * (p + k)) (sg1 401 k)) 395 ((3 + 4 * (p + k)) + 1) 0) 395 ((3 + 4 * (p + k)) + 2) 0)).2.2 393 3 = true]) rfl (zA ⟨zob_393, rfl⟩ trivial) (fun c9 => ?_) (fun c9 => ?_)
                    · skip
                      refine zb_icne (tgt := 77) bkMo_comeFrom_67 bdMo_comeFrom_70 (by decide) (lv' := [(4, .int 3), (3, .int (3 + 4 * (p + k))), (0, .ref 393), (1, .int p), (2, .int k)]) (st' := [.int ((3 + 4 * (p + k)) + 3), .ref 395]) (h' := zN (zup (zup (zup sg1 395 (3 + 4 * (p + k)) (sg1 401 k)) 395 ((3 + 4 * (p + k)) + 1) 0) 395 ((3 + 4 * (p + k)) + 2) 0)) (x := 3) (y := 3) (Ps := []) rfl trivial (fun c10 => ?_) (fun c10 => ?_)
                      · exact absurd c10 (by decide)
                      · skip
                        refine zb_icge (tgt := 85) bkMo_comeFrom_73 bdMo_comeFrom_35 (by decide) (lv' := [(4, .int 4), (3, .int (3 + 4 * (p + k))), (0, .ref 393), (1, .int p), (2, .int k)]) (st' := []) (h' := zN (zup (zup (zup (zup sg1 395 (3 + 4 * (p + k)) (sg1 401 k)) 395 ((3 + 4 * (p + k)) + 1) 0) 395 ((3 + 4 * (p + k)) + 2) 0) 395 ((3 + 4 * (p + k)) + 3) 4)) (x := 4) (y := 4) (Ps := [zIn (zN (zup (zup (zup sg1 395 (3 + 4 * (p + k)) (sg1 401 k)) 395 ((3 + 4 * (p + k)) + 1) 0) 395 ((3 + 4 * (p + k)) + 2) 0)) 395 0 ((3 + 4 * (p + k)) + 3)]) rfl (zA (zin_395 (i := (3 + 4 * (p + k)) + 3) (by lia) (by lia)) trivial) (fun c11 => ?_) (fun c11 => ?_)
                        · skip
                          refine zG_run bkMo_comeFrom_85 (lv' := [(2, .int (k + 1)), (4, .int 4), (3, .int (3 + 4 * (p + k))), (0, .ref 393), (1, .int p)]) (st' := []) (h' := zN (zup (zup (zup (zup sg1 395 (3 + 4 * (p + k)) (sg1 401 k)) 395 ((3 + 4 * (p + k)) + 1) 0) 395 ((3 + 4 * (p + k)) + 2) 0) 395 ((3 + 4 * (p + k)) + 3) 4)) (Ps := []) rfl trivial ?_
                          refine zG_pick (lv' := [(0, .ref 393), (1, .int p), (2, .int (k + 1))]) [3, 4, 0] rfl ?_
                          refine ih (k + 1) (zup (zup (zup (zup sg1 395 (3 + 4 * (p + k)) (sg1 401 k)) 395 ((3 + 4 * (p + k)) + 1) 0) 395 ((3 + 4 * (p + k)) + 2) 0) 395 ((3 + 4 * (p + k)) + 3) 4) ?_ ?_
                          · refine ⟨?_, ?_, ?_⟩
                            · lia
                            · lia
                            · exact mCf_s k0 (by lia : k < m) p0 (by lia) (by lia) kz (by unfold mCv; rw [if_neg (by decide), if_neg hp, if_neg (by decide)]) (by unfold mCv; rw [if_neg (by decide), if_neg hp, if_neg (by decide)]) (by unfold mCv; rw [if_neg (by decide), if_neg hp, if_pos rfl])
                          · exact zmu_up (by lia)
                        · exact absurd c11 (by decide)
                    · skip
                      exfalso; lia
                · exact absurd c7 (by decide)
              · skip
                exfalso; lia
          · exact absurd c4 (by decide)
        · skip
          exfalso; lia
  · refine ⟨?_, ?_, ?_⟩
    · lia
    · lia
    · exact ⟨fun _ _ _ => rfl, fun _ _ => rfl, fun q i q0 q1 _ _ => by exfalso; lia⟩
theorem cMo_comeFrom_0 {sg : zSig} {p m : Int32} (p0 : 0 ≤ p) (p1 : p ≤ 200) (m0 : 0 ≤ m) (m1 : p + m ≤ 200) (m2 : m ≤ 200) (em : sg 393 11 = m) (hp : ¬ 0 < p) : zG mMo_comeFrom 411 (fun rr h' => ∃ sg', rr = none ∧ h' = zN sg' ∧ mCf sg sg' p m) 0 [(0, .ref 393), (1, .int p)] [] (zN sg) := lMo_comeFrom_0 p0 p1 m0 m1 m2 em hp (fun _ _ q => q)
theorem cMo_comeFrom {sg : zSig} {p m : Int32} (p0 : 0 ≤ p) (p1 : p ≤ 200) (m0 : 0 ≤ m) (m1 : p + m ≤ 200) (m2 : m ≤ 200) (em : sg 393 11 = m) : zG mMo_comeFrom 411 (fun rr h' => ∃ sg', rr = none ∧ h' = zN sg' ∧ mCf sg sg' p m) 0 [(0, .ref 393), (1, .int p)] [] (zN sg) := by
  by_cases hp : 0 < p
  · exact cMo_comeFrom_p p0 p1 m0 m1 m2 em hp
  · exact cMo_comeFrom_0 p0 p1 m0 m1 m2 em hp
theorem bkMo_cut_5 : zBk mMo_cut 5 [(1, 0, 1, 0, 0), (1, 1, 0, 0, 0), (1, 2, 0, 0, 0)] = some 8 := by decide +kernel
theorem bkMo_cut_11 : zBk mMo_cut 11 [] = some 11 := by decide +kernel
theorem bkMo_cut_20 : zBk mMo_cut 20 [(1, 0, 1, 0, 0), (0, 0, 0, 0, 1)] = some 22 := by decide +kernel
theorem bkMo_cut_25 : zBk mMo_cut 25 [(1, 0, 1, 0, 0), (1, 1, 0, 0, 0), (1, 2, 0, 0, 0), (0, 0, 0, 0, 0)] = some 29 := by decide +kernel
theorem bkMo_cut_32 : zBk mMo_cut 32 [(1, 0, 1, 0, 0), (1, 1, 0, 0, 0), (1, 2, 0, 0, 0), (0, 0, 0, 0, 0)] = some 36 := by decide +kernel
theorem bkMo_cut_39 : zBk mMo_cut 39 [(1, 0, 1, 0, 0), (1, 0, 1, 0, 0), (5, 10, 3, 2, 3), (0, 0, 0, 0, 0), (7, 0, 0, 0, 0)] = some 46 := by decide +kernel
theorem bkMo_cut_49 : zBk mMo_cut 49 [] = some 49 := by decide +kernel
theorem bkMo_cut_14 : zBk mMo_cut 14 [(1, 0, 1, 0, 0), (0, 0, 0, 0, -1)] = some 16 := by decide +kernel
theorem bkMo_cut_19 : zBk mMo_cut 19 [] = some 19 := by decide +kernel
theorem bkMo_cut_0 : zBk mMo_cut 0 [(1, 0, 1, 0, 0), (0, 0, 0, 0, 0), (6, 10, 0, 0, 0)] = some 5 := by decide +kernel
theorem bdMo_cut_8 : decode mMo_cut.2.2.1 8 = .ok (.invokevirtual 144, 3) := by decide +kernel
theorem bdMo_cut_11 : decode mMo_cut.2.2.1 11 = .ok (.ifCond .ne 9, 3) := by decide +kernel
theorem bdMo_cut_16 : decode mMo_cut.2.2.1 16 = .ok (.invokevirtual 80, 3) := by decide +kernel
theorem bdMo_cut_19 : decode mMo_cut.2.2.1 19 = .ok (.ireturn, 1) := by decide +kernel
theorem bdMo_cut_22 : decode mMo_cut.2.2.1 22 = .ok (.invokevirtual 127, 3) := by decide +kernel
theorem bdMo_cut_29 : decode mMo_cut.2.2.1 29 = .ok (.invokevirtual 130, 3) := by decide +kernel
theorem bdMo_cut_36 : decode mMo_cut.2.2.1 36 = .ok (.invokevirtual 148, 3) := by decide +kernel
theorem bdMo_cut_46 : decode mMo_cut.2.2.1 46 = .ok (.invokevirtual 84, 3) := by decide +kernel
theorem bdMo_cut_49 : decode mMo_cut.2.2.1 49 = .ok (.ireturn, 1) := by decide +kernel
theorem bMo_cut {sg : zSig} {f t : Int32} (n0 : 0 ≤ sg 395 0) (n2 : sg 395 0 ≤ 200) (g0 : 0 ≤ sg 395 1) (g1 : sg 395 1 ≤ 16) (a0 : 0 ≤ sg 395 2) (a1 : sg 395 2 ≤ 12) (b0 : 0 ≤ sg 393 6) (b1 : sg 393 6 ≤ 8) : zG mMo_cut 411 (fun rr h' => (rr = some (.int (-1)) ∧ h' = zN (hRef sg (-1)) ∧ (¬ (0 ≤ f ∧ f < t ∧ t ≤ sg 395 0))) ∨ ((0 ≤ f ∧ f < t ∧ t ≤ sg 395 0) ∧ ∃ sg1 sg2, mRem sg sg1 1 ∧ mTk (mNo sg1 f t 0) sg2 f t 0 ∧ rr = some (.int (sg2 395 0)) ∧ h' = zN (hTell sg2))) 5 [(0, .ref 393), (1, .int f), (2, .int t)] [] (zN sg) := by
  refine zG_run bkMo_cut_5 (lv' := [(0, .ref 393), (1, .int f), (2, .int t)]) (st' := [.int t, .int f, .ref 393]) (h' := zN sg) (Ps := []) rfl trivial ?_
  refine zG_callv (a := 393) (c := 10) (As := [.int f, .int t]) (rest := []) (N2 := 411) bdMo_cut_8 okMo_isRange lk10_144 (And.intro (by decide) (by decide)) (by decide) rfl rfl rfl (Nat.le_of_ble_eq_true rfl) (Nat.le_of_ble_eq_true rfl) (Nat.le_refl 411) (Nat.le_refl 411) zob_393 cMo_isRange ?_
  rintro rr h' ⟨rfl, rfl⟩ -
  refine zb_ifne (tgt := 20) bkMo_cut_11 bdMo_cut_11 (by decide) (lv' := [(0, .ref 393), (1, .int f), (2, .int t)]) (st' := []) (h' := zN sg) (x := if 0 ≤ f ∧ f < t ∧ t ≤ sg 395 0 then 1 else 0) (Ps := []) rfl trivial (fun c1 => ?_) (fun c1 => ?_)
  · skip
    have hc : 0 ≤ f ∧ f < t ∧ t ≤ sg 395 0 := by grind
    refine zG_run bkMo_cut_20 (lv' := [(0, .ref 393), (1, .int f), (2, .int t)]) (st' := [.int 1, .ref 393]) (h' := zN sg) (Ps := []) rfl trivial ?_
    refine zG_callv (a := 393) (c := 10) (As := [.int 1]) (rest := []) (N2 := 411) bdMo_cut_22 okMo_remember lk10_127 (And.intro (by decide) (by decide)) (by decide) rfl rfl rfl (Nat.le_of_ble_eq_true rfl) (Nat.le_of_ble_eq_true rfl) (Nat.le_refl 411) (Nat.le_refl 411) zob_393 (cMo_remember (s := 1) b0 b1) ?_
    rintro rr h' ⟨sg1, rfl, rfl, hb⟩ -
    have fb := hb.1
    have ub := mRem_u b0 b1 hb
    have x0 : sg1 395 0 = sg 395 0 := fb 395 0 (by decide) (by decide) (by decide) (by decide)
    have x1 : sg1 395 1 = sg 395 1 := fb 395 1 (by decide) (by decide) (by decide) (by decide)
    have x2 : sg1 395 2 = sg 395 2 := fb 395 2 (by decide) (by decide) (by decide) (by decide)
    have xt : sg1 393 11 = sg 393 11 := fb 393 11 (by decide) (by decide) (by decide) (by decide)
    refine zG_run bkMo_cut_25 (lv' := [(0, .ref 393), (1, .int f), (2, .int t)]) (st' := [.int 0, .int t, .int f, .ref 393]) (h' := zN sg1) (Ps := []) rfl trivial ?_
    refine zG_callv (a := 393) (c := 10) (As := [.int f, .int t, .int 0]) (rest := []) (N2 := 411) bdMo_cut_29 okMo_noteAct lk10_130 (And.intro (by decide) (by decide)) (by decide) rfl rfl rfl (Nat.le_of_ble_eq_true rfl) (Nat.le_of_ble_eq_true rfl) (Nat.le_refl 411) (Nat.le_refl 411) zob_393 (cMo_noteAct (by lia) (by lia)) ?_
    rintro rr h' ⟨rfl, rfl⟩ -
    refine zG_nm (sg := mNo sg1 f t 0) (fun sg2 e2 => ?_)
    have f2 : ∀ c j, c ≠ 398 → sg2 c j = sg1 c j := fun c j h => by rw [e2]; exact mNo_f h
    have z0 : sg2 395 0 = sg 395 0 := by rw [f2 395 0 (by decide)]; assumption
    have z1 : sg2 395 1 = sg 395 1 := by rw [f2 395 1 (by decide)]; assumption
    have z2 : sg2 395 2 = sg 395 2 := by rw [f2 395 2 (by decide)]; assumption
    have zt : sg2 393 11 = sg 393 11 := by rw [f2 393 11 (by decide)]; assumption
    refine zG_run bkMo_cut_32 (lv' := [(0, .ref 393), (1, .int f), (2, .int t)]) (st' := [.int 0, .int t, .int f, .ref 393]) (h' := zN sg2) (Ps := []) rfl trivial ?_
    refine zG_callv (a := 393) (c := 10) (As := [.int f, .int t, .int 0]) (rest := []) (N2 := 411) bdMo_cut_36 okMo_takeOut lk10_148 (And.intro (by decide) (by decide)) (by decide) rfl rfl rfl (Nat.le_of_ble_eq_true rfl) (Nat.le_of_ble_eq_true rfl) (Nat.le_refl 411) (Nat.le_refl 411) zob_393 (cMo_takeOut (p := f) (q := t) (ot := 0) (by lia) (by lia) (by lia) (by lia) (by lia) (by lia) (by lia) (by lia) (by lia)) ?_
    rintro rr h' ⟨sg3, rfl, rfl, hg1⟩ -
    refine zG_run bkMo_cut_39 (lv' := [(0, .ref 393), (1, .int f), (2, .int t)]) (st' := [.int (sg3 395 0), .ref 393]) (h' := zN sg3) (Ps := [zOb (zN sg3) 393 10 ∧ (zN sg3).2.2 393 3 = true, zInL (zN sg3) 395 0]) rfl (zA ⟨zob_393, rfl⟩ (zA (zinL_395 (i := 0) (by decide) (by decide)) trivial)) ?_
    refine zG_callv (a := 393) (c := 10) (As := [.int (sg3 395 0)]) (rest := []) (N2 := 411) bdMo_cut_46 okMo_tell lk10_84 (And.intro (by decide) (by decide)) (by decide) rfl rfl rfl (Nat.le_of_ble_eq_true rfl) (Nat.le_of_ble_eq_true rfl) (Nat.le_refl 411) (Nat.le_refl 411) zob_393 cMo_tell ?_
    rintro rr h' ⟨rfl, rfl⟩ -
    refine zb_iret bkMo_cut_49 bdMo_cut_49 rfl (x := sg3 395 0) (h' := zN (hTell sg3)) (Ps := []) rfl trivial rfl ?_
    subst e2
    exact Or.inr (⟨hc, _, _, hb, hg1, rfl, rfl⟩)
  · skip
    refine zG_run bkMo_cut_14 (lv' := [(0, .ref 393), (1, .int f), (2, .int t)]) (st' := [.int (-1), .ref 393]) (h' := zN sg) (Ps := []) rfl trivial ?_
    refine zG_callv (a := 393) (c := 10) (As := [.int (-1)]) (rest := []) (N2 := 411) bdMo_cut_16 okMo_refuse lk10_80 (And.intro (by decide) (by decide)) (by decide) rfl rfl rfl (Nat.le_of_ble_eq_true rfl) (Nat.le_of_ble_eq_true rfl) (Nat.le_refl 411) (Nat.le_refl 411) zob_393 (cMo_refuse (by decide) (by decide)) ?_
    rintro rr h' ⟨rfl, rfl⟩ -
    refine zb_iret bkMo_cut_19 bdMo_cut_19 rfl (x := (-1)) (h' := zN (hRef sg (-1))) (Ps := []) rfl trivial rfl ?_
    exact Or.inl ⟨rfl, rfl, by grind⟩
theorem tMo_cut {sg : zSig} {f t : Int32} {Q : Option Value → zHp → Prop} (g : zG mMo_cut 411 Q 5 [(0, .ref 393), (1, .int f), (2, .int t)] [] (zN (zup sg 393 0 0))) : zG mMo_cut 411 Q 0 [(0, .ref 393), (1, .int f), (2, .int t)] [] (zN sg) :=
  zG_run bkMo_cut_0 (lv' := [(0, .ref 393), (1, .int f), (2, .int t)]) (st' := []) (h' := zN (zup sg 393 0 0)) (Ps := [zOb (zN sg) 393 10]) rfl (zA zob_393 trivial) g
def mAL (sg : zSig) : Prop := ∀ j, 0 ≤ j → j < sg 393 11 → isL (sg 401 j)
theorem bkMo_type_5 : zBk mMo_type 5 [(1, 0, 1, 0, 0), (1, 1, 0, 0, 0)] = some 7 := by decide +kernel
theorem bkMo_type_10 : zBk mMo_type 10 [] = some 10 := by decide +kernel
theorem bkMo_type_20 : zBk mMo_type 20 [(1, 0, 1, 0, 0), (0, 0, 0, 0, -1)] = some 22 := by decide +kernel
theorem bkMo_type_25 : zBk mMo_type 25 [] = some 25 := by decide +kernel
theorem bkMo_type_13 : zBk mMo_type 13 [(1, 0, 1, 0, 0)] = some 14 := by decide +kernel
theorem bkMo_type_17 : zBk mMo_type 17 [] = some 17 := by decide +kernel
theorem bkMo_type_26 : zBk mMo_type 26 [(1, 0, 1, 0, 0), (5, 10, 11, 0, 11)] = some 30 := by decide +kernel
theorem bkMo_type_40 : zBk mMo_type 40 [(1, 0, 1, 0, 0), (5, 10, 3, 2, 3), (0, 0, 0, 0, 0), (7, 0, 0, 0, 0), (1, 0, 1, 0, 0), (5, 10, 11, 0, 11), (4, 0, 0, 0, 0), (0, 0, 0, 0, 200)] = some 54 := by decide +kernel
theorem bkMo_type_64 : zBk mMo_type 64 [(1, 0, 1, 0, 0), (0, 0, 0, 0, 0)] = some 66 := by decide +kernel
theorem bkMo_type_69 : zBk mMo_type 69 [(1, 0, 1, 0, 0), (1, 1, 0, 0, 0), (0, 0, 0, 0, 0), (1, 0, 1, 0, 0), (5, 10, 11, 0, 11)] = some 76 := by decide +kernel
theorem bkMo_type_79 : zBk mMo_type 79 [(1, 0, 1, 0, 0), (1, 1, 0, 0, 0), (1, 0, 1, 0, 0), (5, 10, 11, 0, 11), (0, 0, 0, 0, 0)] = some 86 := by decide +kernel
theorem bkMo_type_89 : zBk mMo_type 89 [(1, 0, 1, 0, 0), (1, 1, 0, 0, 0)] = some 91 := by decide +kernel
theorem bkMo_type_94 : zBk mMo_type 94 [(1, 0, 1, 0, 0), (0, 0, 0, 0, 0), (6, 10, 11, 0, 11), (1, 0, 1, 0, 0), (1, 0, 1, 0, 0), (5, 10, 3, 2, 3), (0, 0, 0, 0, 0), (7, 0, 0, 0, 0)] = some 106 := by decide +kernel
theorem bkMo_type_109 : zBk mMo_type 109 [] = some 109 := by decide +kernel
theorem bkMo_type_57 : zBk mMo_type 57 [(1, 0, 1, 0, 0), (0, 0, 0, 0, -5)] = some 60 := by decide +kernel
theorem bkMo_type_63 : zBk mMo_type 63 [] = some 63 := by decide +kernel
theorem bkMo_type_33 : zBk mMo_type 33 [(1, 0, 1, 0, 0), (0, 0, 0, 0, -4)] = some 36 := by decide +kernel
theorem bkMo_type_39 : zBk mMo_type 39 [] = some 39 := by decide +kernel
theorem bkMo_type_0 : zBk mMo_type 0 [(1, 0, 1, 0, 0), (0, 0, 0, 0, 0), (6, 10, 0, 0, 0)] = some 5 := by decide +kernel
theorem bdMo_type_7 : decode mMo_type.2.2.1 7 = .ok (.invokevirtual 97, 3) := by decide +kernel
theorem bdMo_type_10 : decode mMo_type.2.2.1 10 = .ok (.ifCond .eq 10, 3) := by decide +kernel
theorem bdMo_type_14 : decode mMo_type.2.2.1 14 = .ok (.invokevirtual 123, 3) := by decide +kernel
theorem bdMo_type_17 : decode mMo_type.2.2.1 17 = .ok (.ifCond .ne 9, 3) := by decide +kernel
theorem bdMo_type_22 : decode mMo_type.2.2.1 22 = .ok (.invokevirtual 80, 3) := by decide +kernel
theorem bdMo_type_25 : decode mMo_type.2.2.1 25 = .ok (.ireturn, 1) := by decide +kernel
theorem bdMo_type_30 : decode mMo_type.2.2.1 30 = .ok (.ifCond .ne 10, 3) := by decide +kernel
theorem bdMo_type_36 : decode mMo_type.2.2.1 36 = .ok (.invokevirtual 80, 3) := by decide +kernel
theorem bdMo_type_39 : decode mMo_type.2.2.1 39 = .ok (.ireturn, 1) := by decide +kernel
theorem bdMo_type_54 : decode mMo_type.2.2.1 54 = .ok (.if_icmp .le 10, 3) := by decide +kernel
theorem bdMo_type_60 : decode mMo_type.2.2.1 60 = .ok (.invokevirtual 80, 3) := by decide +kernel
theorem bdMo_type_63 : decode mMo_type.2.2.1 63 = .ok (.ireturn, 1) := by decide +kernel
theorem bdMo_type_66 : decode mMo_type.2.2.1 66 = .ok (.invokevirtual 127, 3) := by decide +kernel
theorem bdMo_type_76 : decode mMo_type.2.2.1 76 = .ok (.invokevirtual 130, 3) := by decide +kernel
theorem bdMo_type_86 : decode mMo_type.2.2.1 86 = .ok (.invokevirtual 134, 3) := by decide +kernel
theorem bdMo_type_91 : decode mMo_type.2.2.1 91 = .ok (.invokevirtual 138, 3) := by decide +kernel
theorem bdMo_type_106 : decode mMo_type.2.2.1 106 = .ok (.invokevirtual 84, 3) := by decide +kernel
theorem bdMo_type_109 : decode mMo_type.2.2.1 109 = .ok (.ireturn, 1) := by decide +kernel
theorem bMo_type {sg : zSig} {p : Int32} (n0 : 0 ≤ sg 395 0) (n2 : sg 395 0 ≤ 200) (g0 : 0 ≤ sg 395 1) (g1 : sg 395 1 ≤ 16) (a0 : 0 ≤ sg 395 2) (a1 : sg 395 2 ≤ 12) (b0 : 0 ≤ sg 393 6) (b1 : sg 393 6 ≤ 8) (t0 : 0 ≤ sg 393 11) (t1 : sg 393 11 ≤ 400) : zG mMo_type 411 (fun rr h' => (rr = some (.int (-1)) ∧ h' = zN (hRef sg (-1)) ∧ (¬ ((0 ≤ p ∧ p ≤ sg 395 0) ∧ mAL sg))) ∨ (rr = some (.int (-4)) ∧ h' = zN (hRef sg (-4)) ∧ (((0 ≤ p ∧ p ≤ sg 395 0) ∧ mAL sg) ∧ sg 393 11 = 0)) ∨ (rr = some (.int (-5)) ∧ h' = zN (hRef sg (-5)) ∧ (((0 ≤ p ∧ p ≤ sg 395 0) ∧ mAL sg) ∧ sg 393 11 ≠ 0 ∧ 200 < sg 395 0 + sg 393 11)) ∨ (((0 ≤ p ∧ p ≤ sg 395 0) ∧ mAL sg) ∧ (sg 393 11 ≠ 0 ∧ sg 395 0 + sg 393 11 ≤ 200) ∧ ∃ sg1 sg2 sg3, mRem sg sg1 0 ∧ mMk (mNo sg1 p 0 (sg 393 11)) sg2 p (sg 393 11) 0 ∧ mCf sg2 sg3 p (sg 393 11) ∧ rr = some (.int (sg3 395 0)) ∧ h' = zN (hTell (zup sg3 393 11 0)))) 5 [(0, .ref 393), (1, .int p)] [] (zN sg) := by
  refine zG_run bkMo_type_5 (lv' := [(0, .ref 393), (1, .int p)]) (st' := [.int p, .ref 393]) (h' := zN sg) (Ps := []) rfl trivial ?_
  refine zG_callv (a := 393) (c := 10) (As := [.int p]) (rest := []) (N2 := 411) bdMo_type_7 okMo_isPlace lk10_97 (And.intro (by decide) (by decide)) (by decide) rfl rfl rfl (Nat.le_of_ble_eq_true rfl) (Nat.le_of_ble_eq_true rfl) (Nat.le_refl 411) (Nat.le_refl 411) zob_393 cMo_isPlace ?_
  rintro rr h' ⟨rfl, rfl⟩ -
  refine zb_ifeq (tgt := 20) bkMo_type_10 bdMo_type_10 (by decide) (lv' := [(0, .ref 393), (1, .int p)]) (st' := []) (h' := zN sg) (x := if 0 ≤ p ∧ p ≤ sg 395 0 then 1 else 0) (Ps := []) rfl trivial (fun c1 => ?_) (fun c1 => ?_)
  · skip
    refine zG_run bkMo_type_20 (lv' := [(0, .ref 393), (1, .int p)]) (st' := [.int (-1), .ref 393]) (h' := zN sg) (Ps := []) rfl trivial ?_
    refine zG_callv (a := 393) (c := 10) (As := [.int (-1)]) (rest := []) (N2 := 411) bdMo_type_22 okMo_refuse lk10_80 (And.intro (by decide) (by decide)) (by decide) rfl rfl rfl (Nat.le_of_ble_eq_true rfl) (Nat.le_of_ble_eq_true rfl) (Nat.le_refl 411) (Nat.le_refl 411) zob_393 (cMo_refuse (by decide) (by decide)) ?_
    rintro rr h' ⟨rfl, rfl⟩ -
    refine zb_iret bkMo_type_25 bdMo_type_25 rfl (x := (-1)) (h' := zN (hRef sg (-1))) (Ps := []) rfl trivial rfl ?_
    exact Or.inl ⟨rfl, rfl, by intro q; first | exact hv.elim (fun h => absurd h.1 (by lia)) (fun ⟨_, j, j0, j1, hj⟩ => hj (q.2 j j0 j1)) | (have q1 := q.1; clear q; grind)⟩
  · skip
    refine zG_run bkMo_type_13 (lv' := [(0, .ref 393), (1, .int p)]) (st' := [.ref 393]) (h' := zN sg) (Ps := []) rfl trivial ?_
    refine zG_callv (a := 393) (c := 10) (As := []) (rest := []) (N2 := 411) bdMo_type_14 okMo_areLetters lk10_123 (And.intro (by decide) (by decide)) (by decide) rfl rfl rfl (Nat.le_of_ble_eq_true rfl) (Nat.le_of_ble_eq_true rfl) (Nat.le_refl 411) (Nat.le_refl 411) zob_393 (cMo_areLetters (by lia) (by lia)) ?_
    rintro rr h' ⟨v2, rfl, rfl, hv⟩ -
    refine zb_ifne (tgt := 26) bkMo_type_17 bdMo_type_17 (by decide) (lv' := [(0, .ref 393), (1, .int p)]) (st' := []) (h' := zN sg) (x := v2) (Ps := []) rfl trivial (fun c3 => ?_) (fun c3 => ?_)
    · skip
      have hc : (0 ≤ p ∧ p ≤ sg 395 0) ∧ mAL sg := by
        refine ⟨by clear hv; grind, ?_⟩
        rcases hv with ⟨-, hv⟩ | ⟨hv, -⟩
        · exact hv
        · exfalso; lia
      refine zb_ifne (tgt := 40) bkMo_type_26 bdMo_type_30 (by decide) (lv' := [(0, .ref 393), (1, .int p)]) (st' := []) (h' := zN sg) (x := sg 393 11) (Ps := [zOb (zN sg) 393 10]) rfl (zA zob_393 trivial) (fun c4 => ?_) (fun c4 => ?_)
      · skip
        refine zb_icle (tgt := 64) bkMo_type_40 bdMo_type_54 (by decide) (lv' := [(0, .ref 393), (1, .int p)]) (st' := []) (h' := zN sg) (x := (sg 395 0) + (sg 393 11)) (y := 200) (Ps := [zOb (zN sg) 393 10 ∧ (zN sg).2.2 393 3 = true, zInL (zN sg) 395 0, zOb (zN sg) 393 10]) rfl (zA ⟨zob_393, rfl⟩ (zA (zinL_395 (i := 0) (by decide) (by decide)) (zA zob_393 trivial))) (fun c5 => ?_) (fun c5 => ?_)
        · skip
          refine zG_run bkMo_type_64 (lv' := [(0, .ref 393), (1, .int p)]) (st' := [.int 0, .ref 393]) (h' := zN sg) (Ps := []) rfl trivial ?_
          refine zG_callv (a := 393) (c := 10) (As := [.int 0]) (rest := []) (N2 := 411) bdMo_type_66 okMo_remember lk10_127 (And.intro (by decide) (by decide)) (by decide) rfl rfl rfl (Nat.le_of_ble_eq_true rfl) (Nat.le_of_ble_eq_true rfl) (Nat.le_refl 411) (Nat.le_refl 411) zob_393 (cMo_remember (s := 0) b0 b1) ?_
          rintro rr h' ⟨sg1, rfl, rfl, hb⟩ -
          have fb := hb.1
          have ub := mRem_u b0 b1 hb
          have x0 : sg1 395 0 = sg 395 0 := fb 395 0 (by decide) (by decide) (by decide) (by decide)
          have x1 : sg1 395 1 = sg 395 1 := fb 395 1 (by decide) (by decide) (by decide) (by decide)
          have x2 : sg1 395 2 = sg 395 2 := fb 395 2 (by decide) (by decide) (by decide) (by decide)
          have xt : sg1 393 11 = sg 393 11 := fb 393 11 (by decide) (by decide) (by decide) (by decide)
          refine zG_run bkMo_type_69 (lv' := [(0, .ref 393), (1, .int p)]) (st' := [.int (sg1 393 11), .int 0, .int p, .ref 393]) (h' := zN sg1) (Ps := [zOb (zN sg1) 393 10]) rfl (zA zob_393 trivial) ?_
          refine zG_callv (a := 393) (c := 10) (As := [.int p, .int 0, .int (sg1 393 11)]) (rest := []) (N2 := 411) bdMo_type_76 okMo_noteAct lk10_130 (And.intro (by decide) (by decide)) (by decide) rfl rfl rfl (Nat.le_of_ble_eq_true rfl) (Nat.le_of_ble_eq_true rfl) (Nat.le_refl 411) (Nat.le_refl 411) zob_393 (cMo_noteAct (by lia) (by lia)) ?_
          rintro rr h' ⟨rfl, rfl⟩ -
          refine zG_nm (sg := mNo sg1 p 0 (sg1 393 11)) (fun sg2 e2 => ?_)
          have f2 : ∀ c j, c ≠ 398 → sg2 c j = sg1 c j := fun c j h => by rw [e2]; exact mNo_f h
          have z0 : sg2 395 0 = sg 395 0 := by rw [f2 395 0 (by decide)]; assumption
          have z1 : sg2 395 1 = sg 395 1 := by rw [f2 395 1 (by decide)]; assumption
          have z2 : sg2 395 2 = sg 395 2 := by rw [f2 395 2 (by decide)]; assumption
          have zt : sg2 393 11 = sg 393 11 := by rw [f2 393 11 (by decide)]; assumption
          refine zG_run bkMo_type_79 (lv' := [(0, .ref 393), (1, .int p)]) (st' := [.int 0, .int (sg2 393 11), .int p, .ref 393]) (h' := zN sg2) (Ps := [zOb (zN sg2) 393 10]) rfl (zA zob_393 trivial) ?_
          refine zG_callv (a := 393) (c := 10) (As := [.int p, .int (sg2 393 11), .int 0]) (rest := []) (N2 := 411) bdMo_type_86 okMo_makeRoom lk10_134 (And.intro (by decide) (by decide)) (by decide) rfl rfl rfl (Nat.le_of_ble_eq_true rfl) (Nat.le_of_ble_eq_true rfl) (Nat.le_refl 411) (Nat.le_refl 411) zob_393 (cMo_makeRoom (p := p) (m := sg2 393 11) (ot := 0) (by lia) (by lia) (by lia) (by lia) (by lia) (by lia) (by lia) (by lia) (by lia) (by lia) (by lia)) ?_
          rintro rr h' ⟨sg3, rfl, rfl, hk⟩ -
          have y1 : sg3 395 1 = sg 395 1 := by rw [hk.2.2.1]; assumption
          have y2 : sg3 395 2 = sg 395 2 := by rw [hk.2.2.2.1]; assumption
          have y0 : sg3 395 0 = sg 395 0 + sg 393 11 := by rw [hk.2.1, z0, zt]
          have yt : sg3 393 11 = sg 393 11 := by rw [hk.1 393 11 (by decide)]; assumption
          refine zG_run bkMo_type_89 (lv' := [(0, .ref 393), (1, .int p)]) (st' := [.int p, .ref 393]) (h' := zN sg3) (Ps := []) rfl trivial ?_
          refine zG_callv (a := 393) (c := 10) (As := [.int p]) (rest := []) (N2 := 411) bdMo_type_91 okMo_comeFrom lk10_138 (And.intro (by decide) (by decide)) (by decide) rfl rfl rfl (Nat.le_of_ble_eq_true rfl) (Nat.le_of_ble_eq_true rfl) (Nat.le_refl 411) (Nat.le_refl 411) zob_393 (cMo_comeFrom (p := p) (m := sg 393 11) (by lia) (by lia) (by lia) (by lia) (by lia) (by lia)) ?_
          rintro rr h' ⟨sg4, rfl, rfl, hf⟩ -
          have v0 : sg4 395 0 = sg3 395 0 := hf.2.1 0 (Or.inl (by lia))
          have v1 : sg4 395 1 = sg3 395 1 := hf.2.1 1 (Or.inl (by lia))
          have v2 : sg4 395 2 = sg3 395 2 := hf.2.1 2 (Or.inl (by lia))
          have vt : sg4 393 11 = sg 393 11 := by rw [hf.1 393 11 (by decide)]; assumption
          refine zG_run bkMo_type_94 (lv' := [(0, .ref 393), (1, .int p)]) (st' := [.int ((zup sg4 393 11 0) 395 0), .ref 393]) (h' := zN (zup sg4 393 11 0)) (Ps := [zOb (zN sg4) 393 10, zOb (zN (zup sg4 393 11 0)) 393 10 ∧ (zN (zup sg4 393 11 0)).2.2 393 3 = true, zInL (zN (zup sg4 393 11 0)) 395 0]) rfl (zA zob_393 (zA ⟨zob_393, rfl⟩ (zA (zinL_395 (i := 0) (by decide) (by decide)) trivial))) ?_
          refine zG_callv (a := 393) (c := 10) (As := [.int ((zup sg4 393 11 0) 395 0)]) (rest := []) (N2 := 411) bdMo_type_106 okMo_tell lk10_84 (And.intro (by decide) (by decide)) (by decide) rfl rfl rfl (Nat.le_of_ble_eq_true rfl) (Nat.le_of_ble_eq_true rfl) (Nat.le_refl 411) (Nat.le_refl 411) zob_393 cMo_tell ?_
          rintro rr h' ⟨rfl, rfl⟩ -
          refine zb_iret bkMo_type_109 bdMo_type_109 rfl (x := (zup sg4 393 11 0) 395 0) (h' := zN (hTell (zup sg4 393 11 0))) (Ps := []) rfl trivial rfl ?_
          rw [xt] at e2
          rw [zt] at hk
          subst e2
          exact Or.inr (Or.inr (Or.inr (⟨hc, ⟨by lia, by lia⟩, _, _, _, hb, hk, hf, by rw [zup_a (by decide)], rfl⟩)))
        · skip
          refine zG_run bkMo_type_57 (lv' := [(0, .ref 393), (1, .int p)]) (st' := [.int (-5), .ref 393]) (h' := zN sg) (Ps := []) rfl trivial ?_
          refine zG_callv (a := 393) (c := 10) (As := [.int (-5)]) (rest := []) (N2 := 411) bdMo_type_60 okMo_refuse lk10_80 (And.intro (by decide) (by decide)) (by decide) rfl rfl rfl (Nat.le_of_ble_eq_true rfl) (Nat.le_of_ble_eq_true rfl) (Nat.le_refl 411) (Nat.le_refl 411) zob_393 (cMo_refuse (by decide) (by decide)) ?_
          rintro rr h' ⟨rfl, rfl⟩ -
          refine zb_iret bkMo_type_63 bdMo_type_63 rfl (x := (-5)) (h' := zN (hRef sg (-5))) (Ps := []) rfl trivial rfl ?_
          exact Or.inr (Or.inr (Or.inl ⟨rfl, rfl, by refine ⟨hc, ?_⟩; lia⟩))
      · skip
        refine zG_run bkMo_type_33 (lv' := [(0, .ref 393), (1, .int p)]) (st' := [.int (-4), .ref 393]) (h' := zN sg) (Ps := []) rfl trivial ?_
        refine zG_callv (a := 393) (c := 10) (As := [.int (-4)]) (rest := []) (N2 := 411) bdMo_type_36 okMo_refuse lk10_80 (And.intro (by decide) (by decide)) (by decide) rfl rfl rfl (Nat.le_of_ble_eq_true rfl) (Nat.le_of_ble_eq_true rfl) (Nat.le_refl 411) (Nat.le_refl 411) zob_393 (cMo_refuse (by decide) (by decide)) ?_
        rintro rr h' ⟨rfl, rfl⟩ -
        refine zb_iret bkMo_type_39 bdMo_type_39 rfl (x := (-4)) (h' := zN (hRef sg (-4))) (Ps := []) rfl trivial rfl ?_
        exact Or.inr (Or.inl ⟨rfl, rfl, by refine ⟨hc, ?_⟩; lia⟩)
    · skip
      refine zG_run bkMo_type_20 (lv' := [(0, .ref 393), (1, .int p)]) (st' := [.int (-1), .ref 393]) (h' := zN sg) (Ps := []) rfl trivial ?_
      refine zG_callv (a := 393) (c := 10) (As := [.int (-1)]) (rest := []) (N2 := 411) bdMo_type_22 okMo_refuse lk10_80 (And.intro (by decide) (by decide)) (by decide) rfl rfl rfl (Nat.le_of_ble_eq_true rfl) (Nat.le_of_ble_eq_true rfl) (Nat.le_refl 411) (Nat.le_refl 411) zob_393 (cMo_refuse (by decide) (by decide)) ?_
      rintro rr h' ⟨rfl, rfl⟩ -
      refine zb_iret bkMo_type_25 bdMo_type_25 rfl (x := (-1)) (h' := zN (hRef sg (-1))) (Ps := []) rfl trivial rfl ?_
      exact Or.inl ⟨rfl, rfl, by intro q; first | exact hv.elim (fun h => absurd h.1 (by lia)) (fun ⟨_, j, j0, j1, hj⟩ => hj (q.2 j j0 j1)) | (have q1 := q.1; clear q; grind)⟩
theorem tMo_type {sg : zSig} {p : Int32} {Q : Option Value → zHp → Prop} (g : zG mMo_type 411 Q 5 [(0, .ref 393), (1, .int p)] [] (zN (zup sg 393 0 0))) : zG mMo_type 411 Q 0 [(0, .ref 393), (1, .int p)] [] (zN sg) :=
  zG_run bkMo_type_0 (lv' := [(0, .ref 393), (1, .int p)]) (st' := []) (h' := zN (zup sg 393 0 0)) (Ps := [zOb (zN sg) 393 10]) rfl (zA zob_393 trivial) g
theorem bkMo_swap_5 : zBk mMo_swap 5 [(1, 0, 1, 0, 0), (1, 1, 0, 0, 0), (1, 2, 0, 0, 0)] = some 8 := by decide +kernel
theorem bkMo_swap_11 : zBk mMo_swap 11 [] = some 11 := by decide +kernel
theorem bkMo_swap_21 : zBk mMo_swap 21 [(1, 0, 1, 0, 0), (0, 0, 0, 0, -1)] = some 23 := by decide +kernel
theorem bkMo_swap_26 : zBk mMo_swap 26 [] = some 26 := by decide +kernel
theorem bkMo_swap_14 : zBk mMo_swap 14 [(1, 0, 1, 0, 0)] = some 15 := by decide +kernel
theorem bkMo_swap_18 : zBk mMo_swap 18 [] = some 18 := by decide +kernel
theorem bkMo_swap_27 : zBk mMo_swap 27 [(1, 0, 1, 0, 0), (5, 10, 11, 0, 11)] = some 31 := by decide +kernel
theorem bkMo_swap_41 : zBk mMo_swap 41 [(1, 0, 1, 0, 0), (5, 10, 3, 2, 3), (0, 0, 0, 0, 0), (7, 0, 0, 0, 0), (1, 0, 1, 0, 0), (5, 10, 11, 0, 11), (4, 0, 0, 0, 0), (0, 0, 0, 0, 200)] = some 55 := by decide +kernel
theorem bkMo_swap_65 : zBk mMo_swap 65 [(1, 0, 1, 0, 0), (0, 0, 0, 0, 12)] = some 68 := by decide +kernel
theorem bkMo_swap_71 : zBk mMo_swap 71 [(1, 0, 1, 0, 0), (1, 1, 0, 0, 0), (1, 2, 0, 0, 0), (1, 0, 1, 0, 0), (5, 10, 11, 0, 11)] = some 78 := by decide +kernel
theorem bkMo_swap_81 : zBk mMo_swap 81 [(1, 0, 1, 0, 0), (1, 1, 0, 0, 0), (0, 0, 0, 0, 1), (4, 0, 0, 0, 0), (1, 0, 1, 0, 0), (5, 10, 11, 0, 11), (0, 0, 0, 0, 0)] = some 90 := by decide +kernel
theorem bkMo_swap_93 : zBk mMo_swap 93 [(1, 0, 1, 0, 0), (1, 1, 0, 0, 0), (0, 0, 0, 0, 1), (4, 0, 0, 0, 0)] = some 97 := by decide +kernel
theorem bkMo_swap_100 : zBk mMo_swap 100 [(1, 0, 1, 0, 0), (1, 1, 0, 0, 0), (1, 1, 0, 0, 0), (0, 0, 0, 0, 1), (4, 0, 0, 0, 0), (0, 0, 0, 0, 0)] = some 106 := by decide +kernel
theorem bkMo_swap_109 : zBk mMo_swap 109 [(1, 2, 0, 0, 0), (1, 1, 0, 0, 0), (4, 1, 0, 0, 0), (0, 0, 0, 0, 1)] = some 113 := by decide +kernel
theorem bkMo_swap_135 : zBk mMo_swap 135 [(1, 0, 1, 0, 0), (0, 0, 0, 0, 0), (6, 10, 11, 0, 11), (1, 0, 1, 0, 0), (1, 0, 1, 0, 0), (5, 10, 3, 2, 3), (0, 0, 0, 0, 0), (7, 0, 0, 0, 0)] = some 147 := by decide +kernel
theorem bkMo_swap_150 : zBk mMo_swap 150 [] = some 150 := by decide +kernel
theorem bkMo_swap_116 : zBk mMo_swap 116 [(1, 0, 1, 0, 0), (1, 1, 0, 0, 0), (1, 0, 1, 0, 0), (5, 10, 11, 0, 11), (4, 0, 0, 0, 0), (1, 2, 0, 0, 0), (1, 0, 1, 0, 0), (5, 10, 11, 0, 11), (4, 0, 0, 0, 0), (0, 0, 0, 0, 1), (4, 1, 0, 0, 0), (0, 0, 0, 0, 0)] = some 132 := by decide +kernel
theorem bkMo_swap_58 : zBk mMo_swap 58 [(1, 0, 1, 0, 0), (0, 0, 0, 0, -5)] = some 61 := by decide +kernel
theorem bkMo_swap_64 : zBk mMo_swap 64 [] = some 64 := by decide +kernel
theorem bkMo_swap_34 : zBk mMo_swap 34 [(1, 0, 1, 0, 0), (0, 0, 0, 0, -4)] = some 37 := by decide +kernel
theorem bkMo_swap_40 : zBk mMo_swap 40 [] = some 40 := by decide +kernel
theorem bkMo_swap_0 : zBk mMo_swap 0 [(1, 0, 1, 0, 0), (0, 0, 0, 0, 0), (6, 10, 0, 0, 0)] = some 5 := by decide +kernel
theorem bdMo_swap_8 : decode mMo_swap.2.2.1 8 = .ok (.invokevirtual 144, 3) := by decide +kernel
theorem bdMo_swap_11 : decode mMo_swap.2.2.1 11 = .ok (.ifCond .eq 10, 3) := by decide +kernel
theorem bdMo_swap_15 : decode mMo_swap.2.2.1 15 = .ok (.invokevirtual 123, 3) := by decide +kernel
theorem bdMo_swap_18 : decode mMo_swap.2.2.1 18 = .ok (.ifCond .ne 9, 3) := by decide +kernel
theorem bdMo_swap_23 : decode mMo_swap.2.2.1 23 = .ok (.invokevirtual 80, 3) := by decide +kernel
theorem bdMo_swap_26 : decode mMo_swap.2.2.1 26 = .ok (.ireturn, 1) := by decide +kernel
theorem bdMo_swap_31 : decode mMo_swap.2.2.1 31 = .ok (.ifCond .ne 10, 3) := by decide +kernel
theorem bdMo_swap_37 : decode mMo_swap.2.2.1 37 = .ok (.invokevirtual 80, 3) := by decide +kernel
theorem bdMo_swap_40 : decode mMo_swap.2.2.1 40 = .ok (.ireturn, 1) := by decide +kernel
theorem bdMo_swap_55 : decode mMo_swap.2.2.1 55 = .ok (.if_icmp .le 10, 3) := by decide +kernel
theorem bdMo_swap_61 : decode mMo_swap.2.2.1 61 = .ok (.invokevirtual 80, 3) := by decide +kernel
theorem bdMo_swap_64 : decode mMo_swap.2.2.1 64 = .ok (.ireturn, 1) := by decide +kernel
theorem bdMo_swap_68 : decode mMo_swap.2.2.1 68 = .ok (.invokevirtual 127, 3) := by decide +kernel
theorem bdMo_swap_78 : decode mMo_swap.2.2.1 78 = .ok (.invokevirtual 130, 3) := by decide +kernel
theorem bdMo_swap_90 : decode mMo_swap.2.2.1 90 = .ok (.invokevirtual 134, 3) := by decide +kernel
theorem bdMo_swap_97 : decode mMo_swap.2.2.1 97 = .ok (.invokevirtual 138, 3) := by decide +kernel
theorem bdMo_swap_106 : decode mMo_swap.2.2.1 106 = .ok (.invokevirtual 148, 3) := by decide +kernel
theorem bdMo_swap_113 : decode mMo_swap.2.2.1 113 = .ok (.if_icmp .le 22, 3) := by decide +kernel
theorem bdMo_swap_132 : decode mMo_swap.2.2.1 132 = .ok (.invokevirtual 148, 3) := by decide +kernel
theorem bdMo_swap_147 : decode mMo_swap.2.2.1 147 = .ok (.invokevirtual 84, 3) := by decide +kernel
theorem bdMo_swap_150 : decode mMo_swap.2.2.1 150 = .ok (.ireturn, 1) := by decide +kernel
theorem bMo_swap {sg : zSig} {f t : Int32} (n0 : 0 ≤ sg 395 0) (n2 : sg 395 0 ≤ 200) (g0 : 0 ≤ sg 395 1) (g1 : sg 395 1 ≤ 16) (a0 : 0 ≤ sg 395 2) (a1 : sg 395 2 ≤ 12) (b0 : 0 ≤ sg 393 6) (b1 : sg 393 6 ≤ 8) (t0 : 0 ≤ sg 393 11) (t1 : sg 393 11 ≤ 400) : zG mMo_swap 411 (fun rr h' => (rr = some (.int (-1)) ∧ h' = zN (hRef sg (-1)) ∧ (¬ ((0 ≤ f ∧ f < t ∧ t ≤ sg 395 0) ∧ mAL sg))) ∨ (rr = some (.int (-4)) ∧ h' = zN (hRef sg (-4)) ∧ (((0 ≤ f ∧ f < t ∧ t ≤ sg 395 0) ∧ mAL sg) ∧ sg 393 11 = 0)) ∨ (rr = some (.int (-5)) ∧ h' = zN (hRef sg (-5)) ∧ (((0 ≤ f ∧ f < t ∧ t ≤ sg 395 0) ∧ mAL sg) ∧ sg 393 11 ≠ 0 ∧ 200 < sg 395 0 + sg 393 11)) ∨ (((0 ≤ f ∧ f < t ∧ t ≤ sg 395 0) ∧ mAL sg) ∧ (sg 393 11 ≠ 0 ∧ sg 395 0 + sg 393 11 ≤ 200) ∧ ∃ sg1 sg2 sg3 sg4 sg5, mRem sg sg1 12 ∧ mMk (mNo sg1 f t (sg 393 11)) sg2 (f + 1) (sg 393 11) 0 ∧ mCf sg2 sg3 (f + 1) (sg 393 11) ∧ mTk sg3 sg4 f (f + 1) 0 ∧ ((1 < t - f ∧ mTk sg4 sg5 (f + sg 393 11) (t + sg 393 11 - 1) 0) ∨ (¬ 1 < t - f ∧ sg5 = sg4)) ∧ rr = some (.int (sg5 395 0)) ∧ h' = zN (hTell (zup sg5 393 11 0)))) 5 [(0, .ref 393), (1, .int f), (2, .int t)] [] (zN sg) := by
  refine zG_run bkMo_swap_5 (lv' := [(0, .ref 393), (1, .int f), (2, .int t)]) (st' := [.int t, .int f, .ref 393]) (h' := zN sg) (Ps := []) rfl trivial ?_
  refine zG_callv (a := 393) (c := 10) (As := [.int f, .int t]) (rest := []) (N2 := 411) bdMo_swap_8 okMo_isRange lk10_144 (And.intro (by decide) (by decide)) (by decide) rfl rfl rfl (Nat.le_of_ble_eq_true rfl) (Nat.le_of_ble_eq_true rfl) (Nat.le_refl 411) (Nat.le_refl 411) zob_393 cMo_isRange ?_
  rintro rr h' ⟨rfl, rfl⟩ -
  refine zb_ifeq (tgt := 21) bkMo_swap_11 bdMo_swap_11 (by decide) (lv' := [(0, .ref 393), (1, .int f), (2, .int t)]) (st' := []) (h' := zN sg) (x := if 0 ≤ f ∧ f < t ∧ t ≤ sg 395 0 then 1 else 0) (Ps := []) rfl trivial (fun c1 => ?_) (fun c1 => ?_)
  · skip
    refine zG_run bkMo_swap_21 (lv' := [(0, .ref 393), (1, .int f), (2, .int t)]) (st' := [.int (-1), .ref 393]) (h' := zN sg) (Ps := []) rfl trivial ?_
    refine zG_callv (a := 393) (c := 10) (As := [.int (-1)]) (rest := []) (N2 := 411) bdMo_swap_23 okMo_refuse lk10_80 (And.intro (by decide) (by decide)) (by decide) rfl rfl rfl (Nat.le_of_ble_eq_true rfl) (Nat.le_of_ble_eq_true rfl) (Nat.le_refl 411) (Nat.le_refl 411) zob_393 (cMo_refuse (by decide) (by decide)) ?_
    rintro rr h' ⟨rfl, rfl⟩ -
    refine zb_iret bkMo_swap_26 bdMo_swap_26 rfl (x := (-1)) (h' := zN (hRef sg (-1))) (Ps := []) rfl trivial rfl ?_
    exact Or.inl ⟨rfl, rfl, by intro q; first | exact hv.elim (fun h => absurd h.1 (by lia)) (fun ⟨_, j, j0, j1, hj⟩ => hj (q.2 j j0 j1)) | (have q1 := q.1; clear q; grind)⟩
  · skip
    refine zG_run bkMo_swap_14 (lv' := [(0, .ref 393), (1, .int f), (2, .int t)]) (st' := [.ref 393]) (h' := zN sg) (Ps := []) rfl trivial ?_
    refine zG_callv (a := 393) (c := 10) (As := []) (rest := []) (N2 := 411) bdMo_swap_15 okMo_areLetters lk10_123 (And.intro (by decide) (by decide)) (by decide) rfl rfl rfl (Nat.le_of_ble_eq_true rfl) (Nat.le_of_ble_eq_true rfl) (Nat.le_refl 411) (Nat.le_refl 411) zob_393 (cMo_areLetters (by lia) (by lia)) ?_
    rintro rr h' ⟨v2, rfl, rfl, hv⟩ -
    refine zb_ifne (tgt := 27) bkMo_swap_18 bdMo_swap_18 (by decide) (lv' := [(0, .ref 393), (1, .int f), (2, .int t)]) (st' := []) (h' := zN sg) (x := v2) (Ps := []) rfl trivial (fun c3 => ?_) (fun c3 => ?_)
    · skip
      have hc : (0 ≤ f ∧ f < t ∧ t ≤ sg 395 0) ∧ mAL sg := by
        refine ⟨by clear hv; grind, ?_⟩
        rcases hv with ⟨-, hv⟩ | ⟨hv, -⟩
        · exact hv
        · exfalso; lia
      refine zb_ifne (tgt := 41) bkMo_swap_27 bdMo_swap_31 (by decide) (lv' := [(0, .ref 393), (1, .int f), (2, .int t)]) (st' := []) (h' := zN sg) (x := sg 393 11) (Ps := [zOb (zN sg) 393 10]) rfl (zA zob_393 trivial) (fun c4 => ?_) (fun c4 => ?_)
      · skip
        refine zb_icle (tgt := 65) bkMo_swap_41 bdMo_swap_55 (by decide) (lv' := [(0, .ref 393), (1, .int f), (2, .int t)]) (st' := []) (h' := zN sg) (x := (sg 395 0) + (sg 393 11)) (y := 200) (Ps := [zOb (zN sg) 393 10 ∧ (zN sg).2.2 393 3 = true, zInL (zN sg) 395 0, zOb (zN sg) 393 10]) rfl (zA ⟨zob_393, rfl⟩ (zA (zinL_395 (i := 0) (by decide) (by decide)) (zA zob_393 trivial))) (fun c5 => ?_) (fun c5 => ?_)
        · skip
          refine zG_run bkMo_swap_65 (lv' := [(0, .ref 393), (1, .int f), (2, .int t)]) (st' := [.int 12, .ref 393]) (h' := zN sg) (Ps := []) rfl trivial ?_
          refine zG_callv (a := 393) (c := 10) (As := [.int 12]) (rest := []) (N2 := 411) bdMo_swap_68 okMo_remember lk10_127 (And.intro (by decide) (by decide)) (by decide) rfl rfl rfl (Nat.le_of_ble_eq_true rfl) (Nat.le_of_ble_eq_true rfl) (Nat.le_refl 411) (Nat.le_refl 411) zob_393 (cMo_remember (s := 12) b0 b1) ?_
          rintro rr h' ⟨sg1, rfl, rfl, hb⟩ -
          have fb := hb.1
          have ub := mRem_u b0 b1 hb
          have x0 : sg1 395 0 = sg 395 0 := fb 395 0 (by decide) (by decide) (by decide) (by decide)
          have x1 : sg1 395 1 = sg 395 1 := fb 395 1 (by decide) (by decide) (by decide) (by decide)
          have x2 : sg1 395 2 = sg 395 2 := fb 395 2 (by decide) (by decide) (by decide) (by decide)
          have xt : sg1 393 11 = sg 393 11 := fb 393 11 (by decide) (by decide) (by decide) (by decide)
          refine zG_run bkMo_swap_71 (lv' := [(0, .ref 393), (1, .int f), (2, .int t)]) (st' := [.int (sg1 393 11), .int t, .int f, .ref 393]) (h' := zN sg1) (Ps := [zOb (zN sg1) 393 10]) rfl (zA zob_393 trivial) ?_
          refine zG_callv (a := 393) (c := 10) (As := [.int f, .int t, .int (sg1 393 11)]) (rest := []) (N2 := 411) bdMo_swap_78 okMo_noteAct lk10_130 (And.intro (by decide) (by decide)) (by decide) rfl rfl rfl (Nat.le_of_ble_eq_true rfl) (Nat.le_of_ble_eq_true rfl) (Nat.le_refl 411) (Nat.le_refl 411) zob_393 (cMo_noteAct (by lia) (by lia)) ?_
          rintro rr h' ⟨rfl, rfl⟩ -
          refine zG_nm (sg := mNo sg1 f t (sg1 393 11)) (fun sg2 e2 => ?_)
          have f2 : ∀ c j, c ≠ 398 → sg2 c j = sg1 c j := fun c j h => by rw [e2]; exact mNo_f h
          have z0 : sg2 395 0 = sg 395 0 := by rw [f2 395 0 (by decide)]; assumption
          have z1 : sg2 395 1 = sg 395 1 := by rw [f2 395 1 (by decide)]; assumption
          have z2 : sg2 395 2 = sg 395 2 := by rw [f2 395 2 (by decide)]; assumption
          have zt : sg2 393 11 = sg 393 11 := by rw [f2 393 11 (by decide)]; assumption
          refine zG_run bkMo_swap_81 (lv' := [(0, .ref 393), (1, .int f), (2, .int t)]) (st' := [.int 0, .int (sg2 393 11), .int (f + 1), .ref 393]) (h' := zN sg2) (Ps := [zOb (zN sg2) 393 10]) rfl (zA zob_393 trivial) ?_
          refine zG_callv (a := 393) (c := 10) (As := [.int (f + 1), .int (sg2 393 11), .int 0]) (rest := []) (N2 := 411) bdMo_swap_90 okMo_makeRoom lk10_134 (And.intro (by decide) (by decide)) (by decide) rfl rfl rfl (Nat.le_of_ble_eq_true rfl) (Nat.le_of_ble_eq_true rfl) (Nat.le_refl 411) (Nat.le_refl 411) zob_393 (cMo_makeRoom (p := f + 1) (m := sg2 393 11) (ot := 0) (by lia) (by lia) (by lia) (by lia) (by lia) (by lia) (by lia) (by lia) (by lia) (by lia) (by lia)) ?_
          rintro rr h' ⟨sg3, rfl, rfl, hk⟩ -
          have y1 : sg3 395 1 = sg 395 1 := by rw [hk.2.2.1]; assumption
          have y2 : sg3 395 2 = sg 395 2 := by rw [hk.2.2.2.1]; assumption
          have y0 : sg3 395 0 = sg 395 0 + sg 393 11 := by rw [hk.2.1, z0, zt]
          have yt : sg3 393 11 = sg 393 11 := by rw [hk.1 393 11 (by decide)]; assumption
          refine zG_run bkMo_swap_93 (lv' := [(0, .ref 393), (1, .int f), (2, .int t)]) (st' := [.int (f + 1), .ref 393]) (h' := zN sg3) (Ps := []) rfl trivial ?_
          refine zG_callv (a := 393) (c := 10) (As := [.int (f + 1)]) (rest := []) (N2 := 411) bdMo_swap_97 okMo_comeFrom lk10_138 (And.intro (by decide) (by decide)) (by decide) rfl rfl rfl (Nat.le_of_ble_eq_true rfl) (Nat.le_of_ble_eq_true rfl) (Nat.le_refl 411) (Nat.le_refl 411) zob_393 (cMo_comeFrom (p := f + 1) (m := sg 393 11) (by lia) (by lia) (by lia) (by lia) (by lia) (by lia)) ?_
          rintro rr h' ⟨sg4, rfl, rfl, hf⟩ -
          have v0 : sg4 395 0 = sg3 395 0 := hf.2.1 0 (Or.inl (by lia))
          have v1 : sg4 395 1 = sg3 395 1 := hf.2.1 1 (Or.inl (by lia))
          have v2 : sg4 395 2 = sg3 395 2 := hf.2.1 2 (Or.inl (by lia))
          have vt : sg4 393 11 = sg 393 11 := by rw [hf.1 393 11 (by decide)]; assumption
          refine zG_run bkMo_swap_100 (lv' := [(0, .ref 393), (1, .int f), (2, .int t)]) (st' := [.int 0, .int (f + 1), .int f, .ref 393]) (h' := zN sg4) (Ps := []) rfl trivial ?_
          refine zG_callv (a := 393) (c := 10) (As := [.int f, .int (f + 1), .int 0]) (rest := []) (N2 := 411) bdMo_swap_106 okMo_takeOut lk10_148 (And.intro (by decide) (by decide)) (by decide) rfl rfl rfl (Nat.le_of_ble_eq_true rfl) (Nat.le_of_ble_eq_true rfl) (Nat.le_refl 411) (Nat.le_refl 411) zob_393 (cMo_takeOut (p := f) (q := f + 1) (ot := 0) (by lia) (by lia) (by lia) (by lia) (by lia) (by lia) (by lia) (by lia) (by lia)) ?_
          rintro rr h' ⟨sg5, rfl, rfl, hg5⟩ -
          have ut : sg5 393 11 = sg 393 11 := by rw [hg5.1 393 11 (by decide)]; assumption
          have u0 : sg5 395 0 = sg4 395 0 - 1 := by rw [hg5.2.1]; congr 1; grind
          have u1 : sg5 395 1 = sg 395 1 := by rw [hg5.2.2.1]; lia
          have u2 : sg5 395 2 = sg 395 2 := by rw [hg5.2.2.2.1]; lia
          refine zb_icle (tgt := 135) bkMo_swap_109 bdMo_swap_113 (by decide) (lv' := [(0, .ref 393), (1, .int f), (2, .int t)]) (st' := []) (h' := zN sg5) (x := t - f) (y := 1) (Ps := []) rfl trivial (fun c6 => ?_) (fun c6 => ?_)
          · skip
            refine zG_run bkMo_swap_135 (lv' := [(0, .ref 393), (1, .int f), (2, .int t)]) (st' := [.int ((zup sg5 393 11 0) 395 0), .ref 393]) (h' := zN (zup sg5 393 11 0)) (Ps := [zOb (zN sg5) 393 10, zOb (zN (zup sg5 393 11 0)) 393 10 ∧ (zN (zup sg5 393 11 0)).2.2 393 3 = true, zInL (zN (zup sg5 393 11 0)) 395 0]) rfl (zA zob_393 (zA ⟨zob_393, rfl⟩ (zA (zinL_395 (i := 0) (by decide) (by decide)) trivial))) ?_
            refine zG_callv (a := 393) (c := 10) (As := [.int ((zup sg5 393 11 0) 395 0)]) (rest := []) (N2 := 411) bdMo_swap_147 okMo_tell lk10_84 (And.intro (by decide) (by decide)) (by decide) rfl rfl rfl (Nat.le_of_ble_eq_true rfl) (Nat.le_of_ble_eq_true rfl) (Nat.le_refl 411) (Nat.le_refl 411) zob_393 cMo_tell ?_
            rintro rr h' ⟨rfl, rfl⟩ -
            refine zb_iret bkMo_swap_150 bdMo_swap_150 rfl (x := (zup sg5 393 11 0) 395 0) (h' := zN (hTell (zup sg5 393 11 0))) (Ps := []) rfl trivial rfl ?_
            rw [xt] at e2
            rw [zt] at hk
            subst e2
            exact Or.inr (Or.inr (Or.inr (⟨hc, ⟨by lia, by lia⟩, _, _, _, _, _, hb, hk, hf, hg5, Or.inr ⟨by lia, rfl⟩, by rw [zup_a (by decide)], rfl⟩)))
          · skip
            refine zG_run bkMo_swap_116 (lv' := [(0, .ref 393), (1, .int f), (2, .int t)]) (st' := [.int 0, .int ((t + (sg5 393 11)) - 1), .int (f + (sg5 393 11)), .ref 393]) (h' := zN sg5) (Ps := [zOb (zN sg5) 393 10, zOb (zN sg5) 393 10]) rfl (zA zob_393 (zA zob_393 trivial)) ?_
            refine zG_callv (a := 393) (c := 10) (As := [.int (f + (sg5 393 11)), .int ((t + (sg5 393 11)) - 1), .int 0]) (rest := []) (N2 := 411) bdMo_swap_132 okMo_takeOut lk10_148 (And.intro (by decide) (by decide)) (by decide) rfl rfl rfl (Nat.le_of_ble_eq_true rfl) (Nat.le_of_ble_eq_true rfl) (Nat.le_refl 411) (Nat.le_refl 411) zob_393 (cMo_takeOut (p := f + (sg5 393 11)) (q := (t + (sg5 393 11)) - 1) (ot := 0) (by lia) (by lia) (by lia) (by lia) (by lia) (by lia) (by lia) (by lia) (by lia)) ?_
            rintro rr h' ⟨sg6, rfl, rfl, hg6⟩ -
            refine zG_run bkMo_swap_135 (lv' := [(0, .ref 393), (1, .int f), (2, .int t)]) (st' := [.int ((zup sg6 393 11 0) 395 0), .ref 393]) (h' := zN (zup sg6 393 11 0)) (Ps := [zOb (zN sg6) 393 10, zOb (zN (zup sg6 393 11 0)) 393 10 ∧ (zN (zup sg6 393 11 0)).2.2 393 3 = true, zInL (zN (zup sg6 393 11 0)) 395 0]) rfl (zA zob_393 (zA ⟨zob_393, rfl⟩ (zA (zinL_395 (i := 0) (by decide) (by decide)) trivial))) ?_
            refine zG_callv (a := 393) (c := 10) (As := [.int ((zup sg6 393 11 0) 395 0)]) (rest := []) (N2 := 411) bdMo_swap_147 okMo_tell lk10_84 (And.intro (by decide) (by decide)) (by decide) rfl rfl rfl (Nat.le_of_ble_eq_true rfl) (Nat.le_of_ble_eq_true rfl) (Nat.le_refl 411) (Nat.le_refl 411) zob_393 cMo_tell ?_
            rintro rr h' ⟨rfl, rfl⟩ -
            refine zb_iret bkMo_swap_150 bdMo_swap_150 rfl (x := (zup sg6 393 11 0) 395 0) (h' := zN (hTell (zup sg6 393 11 0))) (Ps := []) rfl trivial rfl ?_
            rw [xt] at e2
            rw [zt] at hk
            rw [ut] at hg6
            subst e2
            exact Or.inr (Or.inr (Or.inr (⟨hc, ⟨by lia, by lia⟩, _, _, _, _, _, hb, hk, hf, hg5, Or.inl ⟨by lia, hg6⟩, by rw [zup_a (by decide)], rfl⟩)))
        · skip
          refine zG_run bkMo_swap_58 (lv' := [(0, .ref 393), (1, .int f), (2, .int t)]) (st' := [.int (-5), .ref 393]) (h' := zN sg) (Ps := []) rfl trivial ?_
          refine zG_callv (a := 393) (c := 10) (As := [.int (-5)]) (rest := []) (N2 := 411) bdMo_swap_61 okMo_refuse lk10_80 (And.intro (by decide) (by decide)) (by decide) rfl rfl rfl (Nat.le_of_ble_eq_true rfl) (Nat.le_of_ble_eq_true rfl) (Nat.le_refl 411) (Nat.le_refl 411) zob_393 (cMo_refuse (by decide) (by decide)) ?_
          rintro rr h' ⟨rfl, rfl⟩ -
          refine zb_iret bkMo_swap_64 bdMo_swap_64 rfl (x := (-5)) (h' := zN (hRef sg (-5))) (Ps := []) rfl trivial rfl ?_
          exact Or.inr (Or.inr (Or.inl ⟨rfl, rfl, by refine ⟨hc, ?_⟩; lia⟩))
      · skip
        refine zG_run bkMo_swap_34 (lv' := [(0, .ref 393), (1, .int f), (2, .int t)]) (st' := [.int (-4), .ref 393]) (h' := zN sg) (Ps := []) rfl trivial ?_
        refine zG_callv (a := 393) (c := 10) (As := [.int (-4)]) (rest := []) (N2 := 411) bdMo_swap_37 okMo_refuse lk10_80 (And.intro (by decide) (by decide)) (by decide) rfl rfl rfl (Nat.le_of_ble_eq_true rfl) (Nat.le_of_ble_eq_true rfl) (Nat.le_refl 411) (Nat.le_refl 411) zob_393 (cMo_refuse (by decide) (by decide)) ?_
        rintro rr h' ⟨rfl, rfl⟩ -
        refine zb_iret bkMo_swap_40 bdMo_swap_40 rfl (x := (-4)) (h' := zN (hRef sg (-4))) (Ps := []) rfl trivial rfl ?_
        exact Or.inr (Or.inl ⟨rfl, rfl, by refine ⟨hc, ?_⟩; lia⟩)
    · skip
      refine zG_run bkMo_swap_21 (lv' := [(0, .ref 393), (1, .int f), (2, .int t)]) (st' := [.int (-1), .ref 393]) (h' := zN sg) (Ps := []) rfl trivial ?_
      refine zG_callv (a := 393) (c := 10) (As := [.int (-1)]) (rest := []) (N2 := 411) bdMo_swap_23 okMo_refuse lk10_80 (And.intro (by decide) (by decide)) (by decide) rfl rfl rfl (Nat.le_of_ble_eq_true rfl) (Nat.le_of_ble_eq_true rfl) (Nat.le_refl 411) (Nat.le_refl 411) zob_393 (cMo_refuse (by decide) (by decide)) ?_
      rintro rr h' ⟨rfl, rfl⟩ -
      refine zb_iret bkMo_swap_26 bdMo_swap_26 rfl (x := (-1)) (h' := zN (hRef sg (-1))) (Ps := []) rfl trivial rfl ?_
      exact Or.inl ⟨rfl, rfl, by intro q; first | exact hv.elim (fun h => absurd h.1 (by lia)) (fun ⟨_, j, j0, j1, hj⟩ => hj (q.2 j j0 j1)) | (have q1 := q.1; clear q; grind)⟩
theorem tMo_swap {sg : zSig} {f t : Int32} {Q : Option Value → zHp → Prop} (g : zG mMo_swap 411 Q 5 [(0, .ref 393), (1, .int f), (2, .int t)] [] (zN (zup sg 393 0 0))) : zG mMo_swap 411 Q 0 [(0, .ref 393), (1, .int f), (2, .int t)] [] (zN sg) :=
  zG_run bkMo_swap_0 (lv' := [(0, .ref 393), (1, .int f), (2, .int t)]) (st' := []) (h' := zN (zup sg 393 0 0)) (Ps := [zOb (zN sg) 393 10]) rfl (zA zob_393 trivial) g
