/-! the reference: runs of like style: printed by wip/whole/p36.py -/
/-- nothing but the reference's own scratch has changed -/
def mQ (sg sg' : zSig) : Prop := ∀ c j, c ≠ 406 → c ≠ 407 → c ≠ 408 → c ≠ 409 → c ≠ 410 → (c ≠ 393 ∨ (j ≠ 16 ∧ j ≠ 17 ∧ j ≠ 18 ∧ j ≠ 25 ∧ j ≠ 27 ∧ j ≠ 29)) → sg' c j = sg c j
theorem mQ_refl {sg : zSig} : mQ sg sg := fun _ _ _ _ _ _ _ _ => rfl
theorem mQ_trans {sg sg1 sg2 : zSig} (h : mQ sg sg1) (h' : mQ sg1 sg2) : mQ sg sg2 := fun c j a1 a2 a3 a4 a5 a6 => (h' c j a1 a2 a3 a4 a5 a6).trans (h c j a1 a2 a3 a4 a5 a6)
theorem mFr_Q {sg sg' : zSig} (h : mFr sg sg') : mQ sg sg' := fun c j _ _ _ _ _ a6 => h c j (a6.imp id (fun q => ⟨q.1, q.2.1, q.2.2.1⟩))
theorem mQ_row {sg sg' : zSig} (h : mQ sg sg') : sg' 395 = sg 395 := funext (fun j => h 395 j (by decide) (by decide) (by decide) (by decide) (by decide) (Or.inl (by decide)))
theorem mQ_c {sg sg' : zSig} (h : mQ sg sg') {c : Nat} (j : Int32) (h1 : c < 393 ∨ (394 ≤ c ∧ c ≤ 405) ∨ 411 ≤ c) : sg' c j = sg c j := h c j (by omega) (by omega) (by omega) (by omega) (by omega) (Or.inl (by omega))
theorem mS_row {sg sg' : zSig} (h : sg' 395 = sg 395) (but i : Int32) : mS sg' but i = mS sg but i := by
  have e1 : mRw sg' i = mRw sg i := by unfold mRw; rw [h]
  have e2 : ∀ l k t, mS1 sg' but i l k t = mS1 sg but i l k t := by intro l k t; unfold mS1; rw [h]
  have e3 : mS2 sg' but i = mS2 sg but i := by
    funext l t
    unfold mS2
    rw [h, show mS1 sg' but i l = mS1 sg but i l from funext (fun k => funext (fun t => e2 l k t))]
  unfold mS
  rw [e1, e3]
theorem mSy_row {sg sg' : zSig} (h : sg' 395 = sg 395) (but : Int32) : mSy sg' but = mSy sg but := by
  funext i; unfold mSy; rw [mS_row h]
/-- r runs of S over n letters, beginning at A 0, A 1 .. -/
def rOf (S A : Int32 → Int32) (n r : Int32) : Prop := r = zit (rN S) 0 n ∧ (0 ≤ r ∧ r ≤ n ∧ (r = 0 → n = 0) ∧ (0 < r → A 0 = 0)) ∧ A r = n ∧ ∀ q, 0 ≤ q → q < r → (0 ≤ A q ∧ A q < n ∧ bg S (A q) ≠ 0 ∧ zit (rN S) 0 (A q) = q) ∧ A q < A (q + 1) ∧ A (q + 1) ≤ n ∧ (∀ j, A q < j → j < A (q + 1) → bg S j = 0) ∧ (A (q + 1) = n ∨ bg S (A (q + 1)) ≠ 0)
def iOf (S A : Int32 → Int32) (i r : Int32) : Prop := r = zit (rN S) 0 i ∧ (0 ≤ r ∧ r ≤ i) ∧ (r = 0 → i = 0) ∧ (∀ q, 0 ≤ q → q < r → (0 ≤ A q ∧ A q < i ∧ bg S (A q) ≠ 0 ∧ zit (rN S) 0 (A q) = q)) ∧ (∀ q, 0 ≤ q → q < r - 1 → A q < A (q + 1) ∧ ∀ j, A q < j → j < A (q + 1) → bg S j = 0) ∧ (0 < r → ∀ j, A (r - 1) < j → j < i → bg S j = 0) ∧ (0 < r → A 0 = 0)
theorem iOf_0 {S A : Int32 → Int32} : iOf S A 0 0 := ⟨rfl, by decide, fun _ => rfl, fun q q0 q1 => by exfalso; lia, fun q q0 q1 => by exfalso; lia, fun h => by exfalso; lia, fun h => by exfalso; lia⟩
theorem bg_eq {S : Int32 → Int32} {i last : Int32} (i0 : 0 ≤ i) (hl : (i = 0 ∧ last = -1) ∨ (0 < i ∧ last = S (i - 1))) (h0 : S 0 ≠ -1) : (S i ≠ last ↔ bg S i ≠ 0) := by
  unfold bg
  rcases hl with ⟨h1, h2⟩ | ⟨h1, h2⟩
  · subst h1 h2
    rw [if_pos (Or.inl rfl)]
    exact ⟨fun _ => by decide, fun _ => h0⟩
  · rw [h2]
    by_cases h : S i = S (i - 1)
    · rw [if_neg (fun q => q.elim (fun a => by lia) (fun a => a h))]; exact ⟨fun q => absurd h q, fun q => absurd rfl q⟩
    · rw [if_pos (Or.inr h)]; exact ⟨fun _ => by decide, fun _ => h⟩
theorem iOf_y {S A A' : Int32 → Int32} {i r n : Int32} (i0 : 0 ≤ i) (i1 : i < n) (n1 : n ≤ 200) (h : iOf S A i r) (hb : bg S i ≠ 0) (e1 : A' r = i) (e2 : ∀ q, q ≠ r → A' q = A q) : iOf S A' (i + 1) (r + 1) := by
  obtain ⟨h1, h2, h3, h4, h5, h6, h7⟩ := h
  refine ⟨?_, by lia, fun q => by lia, fun q q0 q1 => ?_, fun q q0 q1 => ?_, fun _ j j0 j1 => ?_, fun _ => ?_⟩
  · rw [zit_s _ _ i0 i1, ← h1]; unfold rN; rw [if_neg hb]
  · by_cases hq : q = r
    · rw [hq, e1]; exact ⟨i0, by lia, hb, h1.symm⟩
    · rw [e2 q hq]; have := h4 q q0 (by lia); exact ⟨this.1, by lia, this.2.2⟩
  · have q2 : q ≠ r := by lia
    by_cases hq : q + 1 = r
    · have q3 : q = r - 1 := by lia
      rw [hq, e1, e2 q q2]
      refine ⟨(h4 q q0 (by lia)).2.1, fun j j0 j1 => h6 (by lia) j (by rw [← q3]; exact j0) j1⟩
    · rw [e2 _ hq, e2 q q2]; exact h5 q q0 (by lia)
  · rw [show r + 1 - 1 = r by grind, e1] at j0; exfalso; lia
  · by_cases hr : r = 0
    · rw [← hr, e1]; rw [h3 hr, hr]
    · rw [e2 0 (fun q => hr q.symm)]; exact h7 (by lia)
theorem iOf_n {S A : Int32 → Int32} {i r n : Int32} (i0 : 0 ≤ i) (i1 : i < n) (n1 : n ≤ 200) (h : iOf S A i r) (hb : ¬ bg S i ≠ 0) : iOf S A (i + 1) r := by
  obtain ⟨h1, h2, h3, h4, h5, h6, h7⟩ := h
  have hz : bg S i = 0 := Decidable.not_not.mp hb
  refine ⟨?_, by lia, fun q => ?_, fun q q0 q1 => ?_, h5, fun r0 j j0 j1 => ?_, h7⟩
  · rw [zit_s _ _ i0 i1, ← h1]; unfold rN; rw [if_pos hz]
  · exfalso
    have := h3 q
    unfold bg at hz
    rw [if_pos (Or.inl this)] at hz
    exact absurd hz (by decide)
  · have := h4 q q0 q1; exact ⟨this.1, by lia, this.2.2⟩
  · by_cases hj : j = i
    · rw [hj]; exact hz
    · exact h6 r0 j j0 (by lia)
theorem iOf_end {S A A' : Int32 → Int32} {n r : Int32} (n0 : 0 ≤ n) (n1 : n ≤ 200) (h : iOf S A n r) (e1 : A' r = n) (e2 : ∀ q, q ≠ r → A' q = A q) : rOf S A' n r := by
  obtain ⟨h1, h2, h3, h4, h5, h6, h7⟩ := h
  refine ⟨h1, ⟨h2.1, h2.2, h3, fun r0 => by rw [e2 0 (by lia)]; exact h7 r0⟩, e1, fun q q0 q1 => ?_⟩
  rw [e2 q (by lia)]
  have a4 := h4 q q0 q1
  refine ⟨a4, ?_⟩
  by_cases hq : q + 1 = r
  · have q3 : q = r - 1 := by lia
    rw [hq, e1]
    exact ⟨a4.2.1, Int32.le_refl n, fun j j0 j1 => h6 (by lia) j (by rw [← q3]; exact j0) j1, Or.inl rfl⟩
  · rw [e2 _ hq]
    have b4 := h4 (q + 1) (by lia) (by lia)
    have b5 := h5 q q0 (by lia)
    exact ⟨b5.1, by lia, b5.2, Or.inr b4.2.2.1⟩
theorem bkMo_layRuns_0 : zBk mMo_layRuns 0 [(1, 0, 1, 0, 0), (0, 0, 0, 0, 0), (6, 10, 29, 0, 29), (0, 0, 0, 0, -1), (2, 2, 0, 0, 0), (0, 0, 0, 0, 0), (2, 3, 0, 0, 0)] = some 9 := by decide +kernel
theorem bkMo_layRuns_9 : zBk mMo_layRuns 9 [(1, 3, 0, 0, 0), (1, 0, 1, 0, 0), (5, 10, 3, 2, 3), (0, 0, 0, 0, 0), (7, 0, 0, 0, 0)] = some 16 := by decide +kernel
theorem bkMo_layRuns_62 : zBk mMo_layRuns 62 [(1, 0, 1, 0, 0), (5, 10, 28, 16, 28), (1, 0, 1, 0, 0), (5, 10, 29, 0, 29), (1, 0, 1, 0, 0), (5, 10, 3, 2, 3), (0, 0, 0, 0, 0), (7, 0, 0, 0, 0), (8, 0, 0, 0, 0)] = some 77 := by decide +kernel
theorem bkMo_layRuns_19 : zBk mMo_layRuns 19 [(1, 0, 1, 0, 0), (1, 3, 0, 0, 0), (1, 1, 0, 0, 0)] = some 22 := by decide +kernel
theorem bkMo_layRuns_25 : zBk mMo_layRuns 25 [(2, 4, 0, 0, 0), (1, 4, 0, 0, 0), (1, 2, 0, 0, 0)] = some 30 := by decide +kernel
theorem bkMo_layRuns_53 : zBk mMo_layRuns 53 [(1, 4, 0, 0, 0), (2, 2, 0, 0, 0), (3, 3, 0, 0, 1), (22, 9, 0, 0, 0)] = some 9 := by decide +kernel
theorem bkMo_layRuns_33 : zBk mMo_layRuns 33 [(1, 0, 1, 0, 0), (5, 10, 28, 16, 28), (1, 0, 1, 0, 0), (5, 10, 29, 0, 29), (1, 3, 0, 0, 0), (8, 0, 0, 0, 0), (1, 0, 1, 0, 0), (18, 0, 0, 0, 0), (5, 10, 29, 0, 29), (0, 0, 0, 0, 1), (4, 0, 0, 0, 0), (6, 10, 29, 0, 29)] = some 53 := by decide +kernel
theorem bdMo_layRuns_16 : decode mMo_layRuns.2.2.1 16 = .ok (.if_icmp .ge 46, 3) := by decide +kernel
theorem bdMo_layRuns_22 : decode mMo_layRuns.2.2.1 22 = .ok (.invokevirtual 265, 3) := by decide +kernel
theorem bdMo_layRuns_30 : decode mMo_layRuns.2.2.1 30 = .ok (.if_icmp .eq 23, 3) := by decide +kernel
theorem bdMo_layRuns_77 : decode mMo_layRuns.2.2.1 77 = .ok (.return_, 1) := by decide +kernel
theorem lMo_layRuns {sg : zSig} {but : Int32} (n0 : 0 ≤ sg 395 0) (n2 : sg 395 0 ≤ 200) (g0 : 0 ≤ sg 395 1) (g1 : sg 395 1 ≤ 16) (hS : 0 < sg 395 0 → mSy sg but 0 ≠ -1) {Q : Option Value → zHp → Prop} (hq : ∀ rr h', (∃ sg', rr = none ∧ h' = zN sg' ∧ mQ sg sg' ∧ rOf (mSy sg but) (sg' 409) (sg 395 0) (sg' 393 29)) → Q rr h') : zG mMo_layRuns 411 Q 0 [(0, .ref 393), (1, .int but)] [] (zN sg) := by
  refine zG_run bkMo_layRuns_0 (lv' := [(3, .int 0), (2, .int (-1)), (0, .ref 393), (1, .int but)]) (st' := []) (h' := zN (zup sg 393 29 0)) (Ps := [zOb (zN sg) 393 10]) rfl (zA zob_393 trivial) ?_
  refine zG_pick (lv' := [(0, .ref 393), (1, .int but), (2, .int (-1)), (3, .int 0)]) [2, 3, 1, 0] rfl ?_
  refine zlp3 (fun (last : Int32) (i : Int32) (sg1 : zSig) => zG mMo_layRuns 411 Q 9 [(0, .ref 393), (1, .int but), (2, .int last), (3, .int i)] [] (zN sg1)) (fun (last : Int32) (i : Int32) (sg1 : zSig) => (0 ≤ i) ∧ (i ≤ sg 395 0) ∧ (mQ sg sg1) ∧ ((i = 0 ∧ last = -1) ∨ (0 < i ∧ last = mSy sg but (i - 1))) ∧ (iOf (mSy sg but) (sg1 409) i (sg1 393 29))) (fun (last : Int32) (i : Int32) (sg1 : zSig) => zmu (sg 395 0) i) ?_ (-1) 0 (zup sg 393 29 0) ?_
  · intro last i sg1 hI ih
    obtain ⟨i0, i1, kf, kl, kz⟩ := hI
    have kr := mQ_row kf
    have ke : ∀ j, sg1 395 j = sg 395 j := fun j => congrFun kr j
    have ke0 := ke 0
    have ke1 := ke 1
    have r01 := kz.2.1
    refine zb_icge (tgt := 62) bkMo_layRuns_9 bdMo_layRuns_16 (by decide) (lv' := [(0, .ref 393), (1, .int but), (2, .int last), (3, .int i)]) (st' := []) (h' := zN sg1) (x := i) (y := sg1 395 0) (Ps := [zOb (zN sg1) 393 10 ∧ (zN sg1).2.2 393 3 = true, zInL (zN sg1) 395 0]) rfl (zA ⟨zob_393, rfl⟩ (zA (zinL_395 (i := 0) (by decide) (by decide)) trivial)) (fun c1 => ?_) (fun c1 => ?_)
    · skip
      refine zb_vret bkMo_layRuns_62 bdMo_layRuns_77 rfl (h' := zN (zup sg1 409 (sg1 393 29) (sg1 395 0))) (Ps := [zOb (zN sg1) 393 10 ∧ (zN sg1).2.2 393 28 = true, zOb (zN sg1) 393 10, zOb (zN sg1) 393 10 ∧ (zN sg1).2.2 393 3 = true, zInL (zN sg1) 395 0, zIn (zN sg1) 409 0 (sg1 393 29)]) rfl (zA ⟨zob_393, rfl⟩ (zA zob_393 (zA ⟨zob_393, rfl⟩ (zA (zinL_395 (i := 0) (by decide) (by decide)) (zA (zin_409 (i := sg1 393 29) (by lia) (by lia)) trivial))))) rfl ?_
      refine hq _ _ ?_
      have ei : i = sg 395 0 := by lia
      rw [ei] at kz
      refine ⟨_, rfl, rfl, fun c j a1 a2 a3 a4 a5 a6 => ?_, ?_⟩
      · rw [zup_a a4]; exact kf c j a1 a2 a3 a4 a5 a6
      · rw [zup_a (by decide)]
        refine iOf_end n0 n2 kz ?_ (fun q hq => ?_)
        · rw [zup_s]; exact ke0
        · rw [zup_i hq]
    · skip
      refine zG_run bkMo_layRuns_19 (lv' := [(0, .ref 393), (1, .int but), (2, .int last), (3, .int i)]) (st' := [.int but, .int i, .ref 393]) (h' := zN sg1) (Ps := []) rfl trivial ?_
      refine zG_callv (a := 393) (c := 10) (As := [.int i, .int but]) (rest := []) (N2 := 411) bdMo_layRuns_22 okMo_styleOf lk10_265 (And.intro (by decide) (by decide)) (by decide) rfl rfl rfl (Nat.le_of_ble_eq_true rfl) (Nat.le_of_ble_eq_true rfl) (Nat.le_refl 411) (Nat.le_refl 411) zob_393 (cMo_styleOf (i := i) (but := but) (by lia) (by lia) (by lia) (by lia)) ?_
      rintro rr h' ⟨sg2x, rfl, rfl, hfr, hmt⟩ -
      have e29 : sg2x 393 29 = sg1 393 29 := hfr 393 29 (by decide)
      have hbi := bg_eq (S := mSy sg but) (i := i) i0 kl (hS (by lia))
      have esy : mSy sg1 but i = mSy sg but i := by rw [mSy_row kr]
      refine zb_iceq (tgt := 53) bkMo_layRuns_25 bdMo_layRuns_30 (by decide) (lv' := [(4, .int (mSy sg1 but i)), (0, .ref 393), (1, .int but), (2, .int last), (3, .int i)]) (st' := []) (h' := zN sg2x) (x := mSy sg1 but i) (y := last) (Ps := []) rfl trivial (fun c2 => ?_) (fun c2 => ?_)
      · skip
        have hb : ¬ bg (mSy sg but) i ≠ 0 := fun q => hbi.mpr q (by rw [← esy]; assumption)
        refine zG_run bkMo_layRuns_53 (lv' := [(3, .int (i + 1)), (2, .int (mSy sg1 but i)), (4, .int (mSy sg1 but i)), (0, .ref 393), (1, .int but)]) (st' := []) (h' := zN sg2x) (Ps := []) rfl trivial ?_
        refine zG_pick (lv' := [(0, .ref 393), (1, .int but), (2, .int (mSy sg1 but i)), (3, .int (i + 1))]) [3, 4, 1, 0] rfl ?_
        refine ih (mSy sg1 but i) (i + 1) sg2x ?_ ?_
        · refine ⟨?_, ?_, ?_, ?_, ?_⟩
          · lia
          · lia
          · exact mQ_trans kf (mFr_Q hfr)
          · refine Or.inr ⟨by lia, ?_⟩
            rw [show i + 1 - 1 = i by grind, mSy_row kr]
          · rw [hfr 393 29 (by decide), show sg2x 409 = sg1 409 from funext (fun q => hfr 409 q (Or.inl (by decide)))]
            exact iOf_n i0 (by lia) n2 kz hb
        · exact zmu_up (by lia)
      · skip
        have hb : bg (mSy sg but) i ≠ 0 := hbi.mp (by rw [← esy]; assumption)
        refine zG_run bkMo_layRuns_33 (lv' := [(4, .int (mSy sg1 but i)), (0, .ref 393), (1, .int but), (2, .int last), (3, .int i)]) (st' := []) (h' := zN (zup (zup sg2x 409 (sg2x 393 29) i) 393 29 (((zup sg2x 409 (sg2x 393 29) i) 393 29) + 1))) (Ps := [zOb (zN sg2x) 393 10 ∧ (zN sg2x).2.2 393 28 = true, zOb (zN sg2x) 393 10, zIn (zN sg2x) 409 0 (sg2x 393 29), zOb (zN (zup sg2x 409 (sg2x 393 29) i)) 393 10, zOb (zN (zup sg2x 409 (sg2x 393 29) i)) 393 10]) rfl (zA ⟨zob_393, rfl⟩ (zA zob_393 (zA (zin_409 (i := sg2x 393 29) (by lia) (by lia)) (zA zob_393 (zA zob_393 trivial))))) ?_
        refine zG_run bkMo_layRuns_53 (lv' := [(3, .int (i + 1)), (2, .int (mSy sg1 but i)), (4, .int (mSy sg1 but i)), (0, .ref 393), (1, .int but)]) (st' := []) (h' := zN (zup (zup sg2x 409 (sg2x 393 29) i) 393 29 (((zup sg2x 409 (sg2x 393 29) i) 393 29) + 1))) (Ps := []) rfl trivial ?_
        refine zG_pick (lv' := [(0, .ref 393), (1, .int but), (2, .int (mSy sg1 but i)), (3, .int (i + 1))]) [3, 4, 1, 0] rfl ?_
        refine ih (mSy sg1 but i) (i + 1) (zup (zup sg2x 409 (sg2x 393 29) i) 393 29 (((zup sg2x 409 (sg2x 393 29) i) 393 29) + 1)) ?_ ?_
        · refine ⟨?_, ?_, ?_, ?_, ?_⟩
          · lia
          · lia
          · refine mQ_trans kf (mQ_trans (mFr_Q hfr) (fun c j a1 a2 a3 a4 a5 a6 => ?_))
            rw [zup_e, if_neg (by rintro ⟨q1, q2⟩; exact a6.elim (fun g => g q1) (fun g => g.2.2.2.2.2 q2)), zup_a a4]
          · refine Or.inr ⟨by lia, ?_⟩
            rw [show i + 1 - 1 = i by grind, mSy_row kr]
          · have er : sg2x 393 29 = sg1 393 29 := hfr 393 29 (by decide)
            rw [zup_s]; simp only [zup_a (show (393 : Nat) ≠ 409 by decide), er]
            refine iOf_y i0 (by lia) n2 kz hb ?_ (fun q hq => ?_)
            · rw [zup_a (by decide), zup_s]
            · rw [zup_a (by decide), zup_i hq]; exact hfr 409 q (Or.inl (by decide))
        · exact zmu_up (by lia)
  · refine ⟨?_, ?_, ?_, ?_, ?_⟩
    · lia
    · lia
    · intro c j a1 a2 a3 a4 a5 a6; rw [zup_e, if_neg (by rintro ⟨q1, q2⟩; exact a6.elim (fun g => g q1) (fun g => g.2.2.2.2.2 q2))]
    · exact Or.inl ⟨rfl, rfl⟩
    · rw [zup_s]; exact iOf_0
theorem cMo_layRuns {sg : zSig} {but : Int32} (n0 : 0 ≤ sg 395 0) (n2 : sg 395 0 ≤ 200) (g0 : 0 ≤ sg 395 1) (g1 : sg 395 1 ≤ 16) (hS : 0 < sg 395 0 → mSy sg but 0 ≠ -1) : zG mMo_layRuns 411 (fun rr h' => ∃ sg', rr = none ∧ h' = zN sg' ∧ mQ sg sg' ∧ rOf (mSy sg but) (sg' 409) (sg 395 0) (sg' 393 29)) 0 [(0, .ref 393), (1, .int but)] [] (zN sg) := lMo_layRuns n0 n2 g0 g1 hS (fun _ _ q => q)
def mRun (sg : zSig) (q w v : Int32) : Prop := (∃ f, (0 ≤ f ∧ f < sg 395 0 ∧ bg (mSy sg (-1)) f ≠ 0 ∧ zit (rN (mSy sg (-1))) 0 f = q) ∧ (w = 0 → v = f) ∧ (w = 1 → ∃ e, (f < e ∧ e ≤ sg 395 0 ∧ (∀ j, f < j → j < e → bg (mSy sg (-1)) j = 0) ∧ (e = sg 395 0 ∨ bg (mSy sg (-1)) e ≠ 0)) ∧ v = e - f) ∧ (w = 2 → v = (mS sg (-1) f).1) ∧ (w = 3 → v = (mS sg (-1) f).2.1) ∧ (w = 4 → v = (mS sg (-1) f).2.2) ∧ 0 ≤ w ∧ w ≤ 4) ∨ (v = -1 ∧ (¬ (0 ≤ w ∧ w ≤ 4) ∨ ¬ (0 ≤ q ∧ q < zit (rN (mSy sg (-1))) 0 (sg 395 0))))
theorem bkMo_run_5 : zBk mMo_run 5 [(1, 0, 1, 0, 0), (0, 0, 0, 0, -1)] = some 7 := by decide +kernel
theorem bkMo_run_10 : zBk mMo_run 10 [(1, 1, 0, 0, 0), (14, 0, 0, 0, 0), (15, 0, 0, 0, 0), (1, 0, 1, 0, 0), (5, 10, 29, 0, 29), (14, 0, 0, 0, 0), (15, 0, 0, 0, 1), (16, 0, 0, 0, 0)] = some 20 := by decide +kernel
theorem bkMo_run_23 : zBk mMo_run 23 [] = some 23 := by decide +kernel
theorem bkMo_run_38 : zBk mMo_run 38 [(0, 0, 0, 0, -1)] = some 39 := by decide +kernel
theorem bkMo_run_26 : zBk mMo_run 26 [(1, 2, 0, 0, 0), (14, 0, 0, 0, 0), (15, 0, 0, 0, 0), (15, 0, 0, 0, 4)] = some 32 := by decide +kernel
theorem bkMo_run_35 : zBk mMo_run 35 [] = some 35 := by decide +kernel
theorem bkMo_run_40 : zBk mMo_run 40 [(1, 0, 1, 0, 0), (1, 0, 1, 0, 0), (5, 10, 28, 16, 28), (1, 1, 0, 0, 0), (7, 0, 0, 0, 0), (0, 0, 0, 0, -1)] = some 48 := by decide +kernel
theorem bkMo_run_51 : zBk mMo_run 51 [(1, 2, 0, 0, 0)] = some 52 := by decide +kernel
theorem bkMo_run_64 : zBk mMo_run 64 [(1, 2, 0, 0, 0), (0, 0, 0, 0, 1)] = some 66 := by decide +kernel
theorem bkMo_run_87 : zBk mMo_run 87 [(1, 2, 0, 0, 0), (0, 0, 0, 0, 2)] = some 89 := by decide +kernel
theorem bkMo_run_99 : zBk mMo_run 99 [(1, 2, 0, 0, 0), (0, 0, 0, 0, 3)] = some 101 := by decide +kernel
theorem bkMo_run_111 : zBk mMo_run 111 [(1, 0, 1, 0, 0), (5, 10, 18, 0, 18)] = some 115 := by decide +kernel
theorem bkMo_run_104 : zBk mMo_run 104 [(1, 0, 1, 0, 0), (5, 10, 17, 0, 17), (22, 115, 0, 0, 0)] = some 115 := by decide +kernel
theorem bkMo_run_92 : zBk mMo_run 92 [(1, 0, 1, 0, 0), (5, 10, 16, 0, 16), (22, 115, 0, 0, 0)] = some 115 := by decide +kernel
theorem bkMo_run_69 : zBk mMo_run 69 [(1, 0, 1, 0, 0), (5, 10, 28, 16, 28), (1, 1, 0, 0, 0), (0, 0, 0, 0, 1), (4, 0, 0, 0, 0), (7, 0, 0, 0, 0), (1, 0, 1, 0, 0), (5, 10, 28, 16, 28), (1, 1, 0, 0, 0), (7, 0, 0, 0, 0), (4, 1, 0, 0, 0), (22, 115, 0, 0, 0)] = some 115 := by decide +kernel
theorem bkMo_run_55 : zBk mMo_run 55 [(1, 0, 1, 0, 0), (5, 10, 28, 16, 28), (1, 1, 0, 0, 0), (7, 0, 0, 0, 0), (22, 115, 0, 0, 0)] = some 115 := by decide +kernel
theorem bkMo_run_0 : zBk mMo_run 0 [(1, 0, 1, 0, 0), (0, 0, 0, 0, 0), (6, 10, 0, 0, 0)] = some 5 := by decide +kernel
theorem bdMo_run_7 : decode mMo_run.2.2.1 7 = .ok (.invokevirtual 272, 3) := by decide +kernel
theorem bdMo_run_20 : decode mMo_run.2.2.1 20 = .ok (.invokestatic 87, 3) := by decide +kernel
theorem bdMo_run_23 : decode mMo_run.2.2.1 23 = .ok (.ifCond .eq 15, 3) := by decide +kernel
theorem bdMo_run_32 : decode mMo_run.2.2.1 32 = .ok (.invokestatic 87, 3) := by decide +kernel
theorem bdMo_run_35 : decode mMo_run.2.2.1 35 = .ok (.ifCond .ne 5, 3) := by decide +kernel
theorem bdMo_run_39 : decode mMo_run.2.2.1 39 = .ok (.ireturn, 1) := by decide +kernel
theorem bdMo_run_48 : decode mMo_run.2.2.1 48 = .ok (.invokevirtual 196, 3) := by decide +kernel
theorem bdMo_run_52 : decode mMo_run.2.2.1 52 = .ok (.ifCond .ne 12, 3) := by decide +kernel
theorem bdMo_run_66 : decode mMo_run.2.2.1 66 = .ok (.if_icmp .ne 21, 3) := by decide +kernel
theorem bdMo_run_89 : decode mMo_run.2.2.1 89 = .ok (.if_icmp .ne 10, 3) := by decide +kernel
theorem bdMo_run_101 : decode mMo_run.2.2.1 101 = .ok (.if_icmp .ne 10, 3) := by decide +kernel
theorem bdMo_run_115 : decode mMo_run.2.2.1 115 = .ok (.ireturn, 1) := by decide +kernel
theorem bMo_run {sg : zSig} {q w : Int32} (n0 : 0 ≤ sg 395 0) (n2 : sg 395 0 ≤ 200) (g0 : 0 ≤ sg 395 1) (g1 : sg 395 1 ≤ 16) (hS : 0 < sg 395 0 → mSy sg (-1) 0 ≠ -1) : zG mMo_run 411 (fun rr h' => ∃ v sg', rr = some (.int v) ∧ h' = zN sg' ∧ mQ sg sg' ∧ mRun sg q w v) 5 [(0, .ref 393), (1, .int q), (2, .int w)] [] (zN sg) := by
  refine zG_run bkMo_run_5 (lv' := [(0, .ref 393), (1, .int q), (2, .int w)]) (st' := [.int (-1), .ref 393]) (h' := zN sg) (Ps := []) rfl trivial ?_
  refine zG_callv (a := 393) (c := 10) (As := [.int (-1)]) (rest := []) (N2 := 411) bdMo_run_7 okMo_layRuns lk10_272 (And.intro (by decide) (by decide)) (by decide) rfl rfl rfl (Nat.le_of_ble_eq_true rfl) (Nat.le_of_ble_eq_true rfl) (Nat.le_refl 411) (Nat.le_refl 411) zob_393 (cMo_layRuns (but := (-1)) (by lia) (by lia) (by lia) (by lia) hS) ?_
  rintro rr h' ⟨sg2, rfl, rfl, hf2, hr2⟩ -
  have kr2 := mQ_row hf2
  have r02 := hr2.2.1
  refine zG_run bkMo_run_10 (lv' := [(0, .ref 393), (1, .int q), (2, .int w)]) (st' := [.long (((sg2 393 29).toInt64) - ((1 : Int32).toInt64)), .long ((0 : Int32).toInt64), .long q.toInt64]) (h' := zN sg2) (Ps := [zOb (zN sg2) 393 10]) rfl (zA zob_393 trivial) ?_
  refine zG_calls (As := [.long q.toInt64, .long ((0 : Int32).toInt64), .long (((sg2 393 29).toInt64) - ((1 : Int32).toInt64))]) (rest := []) (N2 := 411) bdMo_run_20 okMo_in lk10_87 (And.intro (by decide) (by decide)) rfl rfl (Nat.le_of_ble_eq_true rfl) (Nat.le_of_ble_eq_true rfl) (Nat.le_refl 411) (Nat.le_refl 411) cMo_inB ?_
  rintro rr h' ⟨rfl, rfl⟩ -
  refine zb_ifeq (tgt := 38) bkMo_run_23 bdMo_run_23 (by decide) (lv' := [(0, .ref 393), (1, .int q), (2, .int w)]) (st' := []) (h' := zN sg2) (x := if 0 ≤ q ∧ q < (sg2 393 29) then 1 else 0) (Ps := []) rfl trivial (fun c1 => ?_) (fun c1 => ?_)
  · skip
    refine zb_iret bkMo_run_38 bdMo_run_39 rfl (x := (-1)) (h' := zN sg2) (Ps := []) rfl trivial rfl ?_
    refine ⟨_, _, rfl, rfl, hf2, Or.inr ⟨rfl, ?_⟩⟩
    rw [← hr2.1]; clear hr2; grind
  · skip
    refine zG_run bkMo_run_26 (lv' := [(0, .ref 393), (1, .int q), (2, .int w)]) (st' := [.long ((4 : Int32).toInt64), .long ((0 : Int32).toInt64), .long w.toInt64]) (h' := zN sg2) (Ps := []) rfl trivial ?_
    refine zG_calls (As := [.long w.toInt64, .long ((0 : Int32).toInt64), .long ((4 : Int32).toInt64)]) (rest := []) (N2 := 411) bdMo_run_32 okMo_in lk10_87 (And.intro (by decide) (by decide)) rfl rfl (Nat.le_of_ble_eq_true rfl) (Nat.le_of_ble_eq_true rfl) (Nat.le_refl 411) (Nat.le_refl 411) cMo_inA ?_
    rintro rr h' ⟨rfl, rfl⟩ -
    refine zb_ifne (tgt := 40) bkMo_run_35 bdMo_run_35 (by decide) (lv' := [(0, .ref 393), (1, .int q), (2, .int w)]) (st' := []) (h' := zN sg2) (x := if 0 ≤ w ∧ w ≤ 4 then 1 else 0) (Ps := []) rfl trivial (fun c2 => ?_) (fun c2 => ?_)
    · skip
      have hw : 0 ≤ w ∧ w ≤ 4 := by clear hr2; grind
      have hqr : 0 ≤ q ∧ q < sg2 393 29 := by clear hr2; grind
      have hA := hr2.2.2.2 q hqr.1 hqr.2
      have hA0 := hA.1.1
      have hA1 := hA.1.2.1
      have k1 : sg2 395 1 = sg 395 1 := congrFun kr2 1
      refine zG_run bkMo_run_40 (lv' := [(0, .ref 393), (1, .int q), (2, .int w)]) (st' := [.int (-1), .int (sg2 409 q), .ref 393]) (h' := zN sg2) (Ps := [zOb (zN sg2) 393 10 ∧ (zN sg2).2.2 393 28 = true, zInL (zN sg2) 409 q]) rfl (zA ⟨zob_393, rfl⟩ (zA (zinL_409 (i := q) (by lia) (by lia)) trivial)) ?_
      refine zG_callv (a := 393) (c := 10) (As := [.int (sg2 409 q), .int (-1)]) (rest := []) (N2 := 411) bdMo_run_48 okMo_takeStyle lk10_196 (And.intro (by decide) (by decide)) (by decide) rfl rfl rfl (Nat.le_of_ble_eq_true rfl) (Nat.le_of_ble_eq_true rfl) (Nat.le_refl 411) (Nat.le_refl 411) zob_393 (cMo_takeStyle (i := sg2 409 q) (but := (-1)) (by lia) (by lia) (by lia) (by lia)) ?_
      rintro rr h' ⟨sg3, rfl, rfl, hf3, ht3⟩ -
      have e9 : ∀ q, sg3 409 q = sg2 409 q := fun q => hf3 409 q (Or.inl (by decide))
      have et : mT sg3 = mS sg (-1) (sg2 409 q) := by rw [ht3, mS_row kr2]
      refine zb_ifne (tgt := 64) bkMo_run_51 bdMo_run_52 (by decide) (lv' := [(0, .ref 393), (1, .int q), (2, .int w)]) (st' := []) (h' := zN sg3) (x := w) (Ps := []) rfl trivial (fun c3 => ?_) (fun c3 => ?_)
      · skip
        refine zb_icne (tgt := 87) bkMo_run_64 bdMo_run_66 (by decide) (lv' := [(0, .ref 393), (1, .int q), (2, .int w)]) (st' := []) (h' := zN sg3) (x := w) (y := 1) (Ps := []) rfl trivial (fun c4 => ?_) (fun c4 => ?_)
        · skip
          refine zb_icne (tgt := 99) bkMo_run_87 bdMo_run_89 (by decide) (lv' := [(0, .ref 393), (1, .int q), (2, .int w)]) (st' := []) (h' := zN sg3) (x := w) (y := 2) (Ps := []) rfl trivial (fun c5 => ?_) (fun c5 => ?_)
          · skip
            refine zb_icne (tgt := 111) bkMo_run_99 bdMo_run_101 (by decide) (lv' := [(0, .ref 393), (1, .int q), (2, .int w)]) (st' := []) (h' := zN sg3) (x := w) (y := 3) (Ps := []) rfl trivial (fun c6 => ?_) (fun c6 => ?_)
            · skip
              refine zb_iret bkMo_run_111 bdMo_run_115 rfl (x := sg3 393 18) (h' := zN sg3) (Ps := [zOb (zN sg3) 393 10]) rfl (zA zob_393 trivial) rfl ?_
              refine ⟨_, _, rfl, rfl, mQ_trans hf2 (mFr_Q hf3), Or.inl ⟨sg2 409 q, hA.1, fun hw => ?_, fun hw => ?_, fun hw => ?_, fun hw => ?_, fun hw => ?_, hw⟩⟩
              · first | (exfalso; lia; done) | exact e9 q
              · first | (exfalso; lia; done) | (refine ⟨sg2 409 (q + 1), hA.2, ?_⟩; rw [e9, e9])
              · first | (exfalso; lia; done) | (rw [← et]; rfl)
              · first | (exfalso; lia; done) | (rw [← et]; rfl)
              · first | (exfalso; lia; done) | (rw [← et]; rfl)
            · skip
              refine zb_iret bkMo_run_104 bdMo_run_115 rfl (x := sg3 393 17) (h' := zN sg3) (Ps := [zOb (zN sg3) 393 10]) rfl (zA zob_393 trivial) rfl ?_
              refine ⟨_, _, rfl, rfl, mQ_trans hf2 (mFr_Q hf3), Or.inl ⟨sg2 409 q, hA.1, fun hw => ?_, fun hw => ?_, fun hw => ?_, fun hw => ?_, fun hw => ?_, hw⟩⟩
              · first | (exfalso; lia; done) | exact e9 q
              · first | (exfalso; lia; done) | (refine ⟨sg2 409 (q + 1), hA.2, ?_⟩; rw [e9, e9])
              · first | (exfalso; lia; done) | (rw [← et]; rfl)
              · first | (exfalso; lia; done) | (rw [← et]; rfl)
              · first | (exfalso; lia; done) | (rw [← et]; rfl)
          · skip
            refine zb_iret bkMo_run_92 bdMo_run_115 rfl (x := sg3 393 16) (h' := zN sg3) (Ps := [zOb (zN sg3) 393 10]) rfl (zA zob_393 trivial) rfl ?_
            refine ⟨_, _, rfl, rfl, mQ_trans hf2 (mFr_Q hf3), Or.inl ⟨sg2 409 q, hA.1, fun hw => ?_, fun hw => ?_, fun hw => ?_, fun hw => ?_, fun hw => ?_, hw⟩⟩
            · first | (exfalso; lia; done) | exact e9 q
            · first | (exfalso; lia; done) | (refine ⟨sg2 409 (q + 1), hA.2, ?_⟩; rw [e9, e9])
            · first | (exfalso; lia; done) | (rw [← et]; rfl)
            · first | (exfalso; lia; done) | (rw [← et]; rfl)
            · first | (exfalso; lia; done) | (rw [← et]; rfl)
        · skip
          refine zb_iret bkMo_run_69 bdMo_run_115 rfl (x := (sg3 409 (q + 1)) - (sg3 409 q)) (h' := zN sg3) (Ps := [zOb (zN sg3) 393 10 ∧ (zN sg3).2.2 393 28 = true, zInL (zN sg3) 409 (q + 1), zOb (zN sg3) 393 10 ∧ (zN sg3).2.2 393 28 = true, zInL (zN sg3) 409 q]) rfl (zA ⟨zob_393, rfl⟩ (zA (zinL_409 (i := q + 1) (by lia) (by lia)) (zA ⟨zob_393, rfl⟩ (zA (zinL_409 (i := q) (by lia) (by lia)) trivial)))) rfl ?_
          refine ⟨_, _, rfl, rfl, mQ_trans hf2 (mFr_Q hf3), Or.inl ⟨sg2 409 q, hA.1, fun hw => ?_, fun hw => ?_, fun hw => ?_, fun hw => ?_, fun hw => ?_, hw⟩⟩
          · first | (exfalso; lia; done) | exact e9 q
          · first | (exfalso; lia; done) | (refine ⟨sg2 409 (q + 1), hA.2, ?_⟩; rw [e9, e9])
          · first | (exfalso; lia; done) | (rw [← et]; rfl)
          · first | (exfalso; lia; done) | (rw [← et]; rfl)
          · first | (exfalso; lia; done) | (rw [← et]; rfl)
      · skip
        refine zb_iret bkMo_run_55 bdMo_run_115 rfl (x := sg3 409 q) (h' := zN sg3) (Ps := [zOb (zN sg3) 393 10 ∧ (zN sg3).2.2 393 28 = true, zInL (zN sg3) 409 q]) rfl (zA ⟨zob_393, rfl⟩ (zA (zinL_409 (i := q) (by lia) (by lia)) trivial)) rfl ?_
        refine ⟨_, _, rfl, rfl, mQ_trans hf2 (mFr_Q hf3), Or.inl ⟨sg2 409 q, hA.1, fun hw => ?_, fun hw => ?_, fun hw => ?_, fun hw => ?_, fun hw => ?_, hw⟩⟩
        · first | (exfalso; lia; done) | exact e9 q
        · first | (exfalso; lia; done) | (refine ⟨sg2 409 (q + 1), hA.2, ?_⟩; rw [e9, e9])
        · first | (exfalso; lia; done) | (rw [← et]; rfl)
        · first | (exfalso; lia; done) | (rw [← et]; rfl)
        · first | (exfalso; lia; done) | (rw [← et]; rfl)
    · skip
      refine zb_iret bkMo_run_38 bdMo_run_39 rfl (x := (-1)) (h' := zN sg2) (Ps := []) rfl trivial rfl ?_
      refine ⟨_, _, rfl, rfl, hf2, Or.inr ⟨rfl, ?_⟩⟩
      rw [← hr2.1]; clear hr2; grind
theorem tMo_run {sg : zSig} {q w : Int32} {Q : Option Value → zHp → Prop} (g : zG mMo_run 411 Q 5 [(0, .ref 393), (1, .int q), (2, .int w)] [] (zN (zup sg 393 0 0))) : zG mMo_run 411 Q 0 [(0, .ref 393), (1, .int q), (2, .int w)] [] (zN sg) :=
  zG_run bkMo_run_0 (lv' := [(0, .ref 393), (1, .int q), (2, .int w)]) (st' := []) (h' := zN (zup sg 393 0 0)) (Ps := [zOb (zN sg) 393 10]) rfl (zA zob_393 trivial) g
