/-! the reference: styles: printed by wip/whole/p35.py -/
abbrev z3 : Type := Int32 × Int32 × Int32
def mLk (on off its gr : Int32) (t : z3) : z3 := ((t.1 ||| on) &&& (off ^^^ (-1)), if its = -1 then t.2.1 else its, fMax 0 (fMin 9 (t.2.2 + gr)))
def mT (sg : zSig) : z3 := (sg 393 16, sg 393 17, sg 393 18)
def mFr (sg sg' : zSig) : Prop := ∀ c j, (c ≠ 393 ∨ (j ≠ 16 ∧ j ≠ 17 ∧ j ≠ 18)) → sg' c j = sg c j
theorem mFr_refl {sg : zSig} : mFr sg sg := fun _ _ _ => rfl
theorem mFr_trans {sg sg1 sg2 : zSig} (h : mFr sg sg1) (h' : mFr sg1 sg2) : mFr sg sg2 := fun c j q => (h' c j q).trans (h c j q)
theorem mFr_up {sg : zSig} {a b c : Int32} : mFr sg (zup (zup (zup sg 393 16 a) 393 17 b) 393 18 c) := fun x j h => by
  rw [zup_e, if_neg (by rintro ⟨q1, q2⟩; exact h.elim (fun g => g q1) (fun g => g.2.2 q2)), zup_e, if_neg (by rintro ⟨q1, q2⟩; exact h.elim (fun g => g q1) (fun g => g.2.1 q2)), zup_e, if_neg (by rintro ⟨q1, q2⟩; exact h.elim (fun g => g q1) (fun g => g.1 q2))]
theorem mT_up {sg : zSig} {a b c : Int32} : mT (zup (zup (zup sg 393 16 a) 393 17 b) 393 18 c) = (a, b, c) := by
  unfold mT; rw [zup_s, zup_i (by decide), zup_i (by decide), zup_s, zup_i (by decide), zup_s]
def mRw (sg : zSig) (i : Int32) : z3 := (sg 395 (3 + 4 * i + 1), sg 395 (3 + 4 * i + 2), sg 395 (3 + 4 * i + 3))
theorem bkMo_takePaint_0 : zBk mMo_takePaint 0 [(1, 1, 0, 0, 0)] = some 1 := by decide +kernel
theorem bkMo_takePaint_4 : zBk mMo_takePaint 4 [(2, 2, 0, 0, 0), (1, 0, 1, 0, 0), (1, 0, 1, 0, 0), (5, 10, 3, 2, 3), (1, 2, 0, 0, 0), (0, 0, 0, 0, 1), (4, 0, 0, 0, 0), (7, 0, 0, 0, 0), (6, 10, 16, 0, 16), (1, 0, 1, 0, 0), (1, 0, 1, 0, 0), (5, 10, 3, 2, 3), (1, 2, 0, 0, 0), (0, 0, 0, 0, 2), (4, 0, 0, 0, 0), (7, 0, 0, 0, 0), (6, 10, 17, 0, 17), (1, 0, 1, 0, 0), (1, 0, 1, 0, 0), (5, 10, 3, 2, 3), (1, 2, 0, 0, 0), (0, 0, 0, 0, 3), (4, 0, 0, 0, 0), (7, 0, 0, 0, 0), (6, 10, 18, 0, 18)] = some 41 := by decide +kernel
theorem bdMo_takePaint_1 : decode mMo_takePaint.2.2.1 1 = .ok (.invokestatic 141, 3) := by decide +kernel
theorem bdMo_takePaint_41 : decode mMo_takePaint.2.2.1 41 = .ok (.return_, 1) := by decide +kernel
theorem cMo_takePaint {sg : zSig} {i : Int32} (i0 : 0 ≤ i) (i1 : i < 200) : zG mMo_takePaint 411 (fun rr h' => ∃ sg', rr = none ∧ h' = zN sg' ∧ mFr sg sg' ∧ mT sg' = mRw sg i) 0 [(0, .ref 393), (1, .int i)] [] (zN sg) := by
  refine zG_run bkMo_takePaint_0 (lv' := [(0, .ref 393), (1, .int i)]) (st' := [.int i]) (h' := zN sg) (Ps := []) rfl trivial ?_
  refine zG_calls (As := [.int i]) (rest := []) (N2 := 411) bdMo_takePaint_1 okMo_letterAt lk10_141 (And.intro (by decide) (by decide)) rfl rfl (Nat.le_of_ble_eq_true rfl) (Nat.le_of_ble_eq_true rfl) (Nat.le_refl 411) (Nat.le_refl 411) cMo_letterAt ?_
  rintro rr h' ⟨rfl, rfl⟩ -
  refine zb_vret bkMo_takePaint_4 bdMo_takePaint_41 rfl (h' := zN (zup (zup (zup sg 393 16 (sg 395 ((3 + 4 * i) + 1))) 393 17 ((zup sg 393 16 (sg 395 ((3 + 4 * i) + 1))) 395 ((3 + 4 * i) + 2))) 393 18 ((zup (zup sg 393 16 (sg 395 ((3 + 4 * i) + 1))) 393 17 ((zup sg 393 16 (sg 395 ((3 + 4 * i) + 1))) 395 ((3 + 4 * i) + 2))) 395 ((3 + 4 * i) + 3)))) (Ps := [zOb (zN sg) 393 10 ∧ (zN sg).2.2 393 3 = true, zInL (zN sg) 395 ((3 + 4 * i) + 1), zOb (zN sg) 393 10, zOb (zN (zup sg 393 16 (sg 395 ((3 + 4 * i) + 1)))) 393 10 ∧ (zN (zup sg 393 16 (sg 395 ((3 + 4 * i) + 1)))).2.2 393 3 = true, zInL (zN (zup sg 393 16 (sg 395 ((3 + 4 * i) + 1)))) 395 ((3 + 4 * i) + 2), zOb (zN (zup sg 393 16 (sg 395 ((3 + 4 * i) + 1)))) 393 10, zOb (zN (zup (zup sg 393 16 (sg 395 ((3 + 4 * i) + 1))) 393 17 ((zup sg 393 16 (sg 395 ((3 + 4 * i) + 1))) 395 ((3 + 4 * i) + 2)))) 393 10 ∧ (zN (zup (zup sg 393 16 (sg 395 ((3 + 4 * i) + 1))) 393 17 ((zup sg 393 16 (sg 395 ((3 + 4 * i) + 1))) 395 ((3 + 4 * i) + 2)))).2.2 393 3 = true, zInL (zN (zup (zup sg 393 16 (sg 395 ((3 + 4 * i) + 1))) 393 17 ((zup sg 393 16 (sg 395 ((3 + 4 * i) + 1))) 395 ((3 + 4 * i) + 2)))) 395 ((3 + 4 * i) + 3), zOb (zN (zup (zup sg 393 16 (sg 395 ((3 + 4 * i) + 1))) 393 17 ((zup sg 393 16 (sg 395 ((3 + 4 * i) + 1))) 395 ((3 + 4 * i) + 2)))) 393 10]) rfl (zA ⟨zob_393, rfl⟩ (zA (zinL_395 (i := (3 + 4 * i) + 1) (by lia) (by lia)) (zA zob_393 (zA ⟨zob_393, rfl⟩ (zA (zinL_395 (i := (3 + 4 * i) + 2) (by lia) (by lia)) (zA zob_393 (zA ⟨zob_393, rfl⟩ (zA (zinL_395 (i := (3 + 4 * i) + 3) (by lia) (by lia)) (zA zob_393 trivial))))))))) rfl ?_
  refine ⟨_, rfl, rfl, mFr_up, ?_⟩
  rw [mT_up]; unfold mRw; rw [zup_a (by decide), zup_a (by decide), zup_a (by decide)]
theorem bkMo_look_0 : zBk mMo_look 0 [(1, 0, 1, 0, 0), (1, 0, 1, 0, 0), (5, 10, 16, 0, 16), (1, 1, 0, 0, 0), (4, 4, 0, 0, 0), (1, 2, 0, 0, 0), (0, 0, 0, 0, -1), (4, 5, 0, 0, 0), (4, 3, 0, 0, 0), (6, 10, 16, 0, 16), (1, 0, 1, 0, 0), (1, 3, 0, 0, 0), (0, 0, 0, 0, -1)] = some 17 := by decide +kernel
theorem bkMo_look_27 : zBk mMo_look 27 [(1, 3, 0, 0, 0), (6, 10, 17, 0, 17), (1, 0, 1, 0, 0), (18, 0, 0, 0, 0), (5, 10, 18, 0, 18), (1, 4, 0, 0, 0), (4, 0, 0, 0, 0), (6, 10, 18, 0, 18), (1, 0, 1, 0, 0), (1, 0, 1, 0, 0), (5, 10, 18, 0, 18)] = some 47 := by decide +kernel
theorem bkMo_look_54 : zBk mMo_look 54 [(1, 0, 1, 0, 0), (5, 10, 18, 0, 18), (0, 0, 0, 0, 9)] = some 60 := by decide +kernel
theorem bkMo_look_68 : zBk mMo_look 68 [(1, 0, 1, 0, 0), (5, 10, 18, 0, 18), (6, 10, 18, 0, 18)] = some 75 := by decide +kernel
theorem bkMo_look_63 : zBk mMo_look 63 [(0, 0, 0, 0, 9), (22, 72, 0, 0, 0), (6, 10, 18, 0, 18)] = some 75 := by decide +kernel
theorem bkMo_look_50 : zBk mMo_look 50 [(0, 0, 0, 0, 0), (22, 72, 0, 0, 0), (6, 10, 18, 0, 18)] = some 75 := by decide +kernel
theorem bkMo_look_20 : zBk mMo_look 20 [(1, 0, 1, 0, 0), (5, 10, 17, 0, 17), (22, 28, 0, 0, 0), (6, 10, 17, 0, 17), (1, 0, 1, 0, 0), (18, 0, 0, 0, 0), (5, 10, 18, 0, 18), (1, 4, 0, 0, 0), (4, 0, 0, 0, 0), (6, 10, 18, 0, 18), (1, 0, 1, 0, 0), (1, 0, 1, 0, 0), (5, 10, 18, 0, 18)] = some 47 := by decide +kernel
theorem bdMo_look_17 : decode mMo_look.2.2.1 17 = .ok (.if_icmp .ne 10, 3) := by decide +kernel
theorem bdMo_look_47 : decode mMo_look.2.2.1 47 = .ok (.ifCond .ge 7, 3) := by decide +kernel
theorem bdMo_look_60 : decode mMo_look.2.2.1 60 = .ok (.if_icmp .le 8, 3) := by decide +kernel
theorem bdMo_look_75 : decode mMo_look.2.2.1 75 = .ok (.return_, 1) := by decide +kernel
theorem cMo_look {sg : zSig} {n f c g : Int32}  : zG mMo_look 411 (fun rr h' => ∃ sg', rr = none ∧ h' = zN sg' ∧ mFr sg sg' ∧ mT sg' = mLk n f c g (mT sg)) 0 [(0, .ref 393), (1, .int n), (2, .int f), (3, .int c), (4, .int g)] [] (zN sg) := by
  refine zb_icne (tgt := 27) bkMo_look_0 bdMo_look_17 (by decide) (lv' := [(0, .ref 393), (1, .int n), (2, .int f), (3, .int c), (4, .int g)]) (st' := [.ref 393]) (h' := zN (zup sg 393 16 (((sg 393 16) ||| n) &&& (f ^^^ (-1))))) (x := c) (y := (-1)) (Ps := [zOb (zN sg) 393 10, zOb (zN sg) 393 10]) rfl (zA zob_393 (zA zob_393 trivial)) (fun c1 => ?_) (fun c1 => ?_)
  · skip
    refine zb_ifge (tgt := 54) bkMo_look_27 bdMo_look_47 (by decide) (lv' := [(0, .ref 393), (1, .int n), (2, .int f), (3, .int c), (4, .int g)]) (st' := [.ref 393]) (h' := zN (zup (zup (zup sg 393 16 (((sg 393 16) ||| n) &&& (f ^^^ (-1)))) 393 17 c) 393 18 (((zup (zup sg 393 16 (((sg 393 16) ||| n) &&& (f ^^^ (-1)))) 393 17 c) 393 18) + g))) (x := (zup (zup (zup sg 393 16 (((sg 393 16) ||| n) &&& (f ^^^ (-1)))) 393 17 c) 393 18 (((zup (zup sg 393 16 (((sg 393 16) ||| n) &&& (f ^^^ (-1)))) 393 17 c) 393 18) + g)) 393 18) (Ps := [zOb (zN (zup sg 393 16 (((sg 393 16) ||| n) &&& (f ^^^ (-1))))) 393 10, zOb (zN (zup (zup sg 393 16 (((sg 393 16) ||| n) &&& (f ^^^ (-1)))) 393 17 c)) 393 10, zOb (zN (zup (zup sg 393 16 (((sg 393 16) ||| n) &&& (f ^^^ (-1)))) 393 17 c)) 393 10, zOb (zN (zup (zup (zup sg 393 16 (((sg 393 16) ||| n) &&& (f ^^^ (-1)))) 393 17 c) 393 18 (((zup (zup sg 393 16 (((sg 393 16) ||| n) &&& (f ^^^ (-1)))) 393 17 c) 393 18) + g))) 393 10]) rfl (zA zob_393 (zA zob_393 (zA zob_393 (zA zob_393 trivial)))) (fun c2 => ?_) (fun c2 => ?_)
    · skip
      refine zb_icle (tgt := 68) bkMo_look_54 bdMo_look_60 (by decide) (lv' := [(0, .ref 393), (1, .int n), (2, .int f), (3, .int c), (4, .int g)]) (st' := [.ref 393]) (h' := zN (zup (zup (zup sg 393 16 (((sg 393 16) ||| n) &&& (f ^^^ (-1)))) 393 17 c) 393 18 (((zup (zup sg 393 16 (((sg 393 16) ||| n) &&& (f ^^^ (-1)))) 393 17 c) 393 18) + g))) (x := (zup (zup (zup sg 393 16 (((sg 393 16) ||| n) &&& (f ^^^ (-1)))) 393 17 c) 393 18 (((zup (zup sg 393 16 (((sg 393 16) ||| n) &&& (f ^^^ (-1)))) 393 17 c) 393 18) + g)) 393 18) (y := 9) (Ps := [zOb (zN (zup (zup (zup sg 393 16 (((sg 393 16) ||| n) &&& (f ^^^ (-1)))) 393 17 c) 393 18 (((zup (zup sg 393 16 (((sg 393 16) ||| n) &&& (f ^^^ (-1)))) 393 17 c) 393 18) + g))) 393 10]) rfl (zA zob_393 trivial) (fun c3 => ?_) (fun c3 => ?_)
      · skip
        refine zb_vret bkMo_look_68 bdMo_look_75 rfl (h' := zN (zup (zup (zup (zup sg 393 16 (((sg 393 16) ||| n) &&& (f ^^^ (-1)))) 393 17 c) 393 18 (((zup (zup sg 393 16 (((sg 393 16) ||| n) &&& (f ^^^ (-1)))) 393 17 c) 393 18) + g)) 393 18 ((zup (zup (zup sg 393 16 (((sg 393 16) ||| n) &&& (f ^^^ (-1)))) 393 17 c) 393 18 (((zup (zup sg 393 16 (((sg 393 16) ||| n) &&& (f ^^^ (-1)))) 393 17 c) 393 18) + g)) 393 18))) (Ps := [zOb (zN (zup (zup (zup sg 393 16 (((sg 393 16) ||| n) &&& (f ^^^ (-1)))) 393 17 c) 393 18 (((zup (zup sg 393 16 (((sg 393 16) ||| n) &&& (f ^^^ (-1)))) 393 17 c) 393 18) + g))) 393 10, zOb (zN (zup (zup (zup sg 393 16 (((sg 393 16) ||| n) &&& (f ^^^ (-1)))) 393 17 c) 393 18 (((zup (zup sg 393 16 (((sg 393 16) ||| n) &&& (f ^^^ (-1)))) 393 17 c) 393 18) + g))) 393 10]) rfl (zA zob_393 (zA zob_393 trivial)) rfl ?_
        refine ⟨_, rfl, rfl, fun x j h => ?_, ?_⟩
        · have h16 : ¬ (x = 393 ∧ j = 16) := by rintro ⟨q1, q2⟩; exact h.elim (fun g => g q1) (fun g => g.1 q2)
          have h17 : ¬ (x = 393 ∧ j = 17) := by rintro ⟨q1, q2⟩; exact h.elim (fun g => g q1) (fun g => g.2.1 q2)
          have h18 : ¬ (x = 393 ∧ j = 18) := by rintro ⟨q1, q2⟩; exact h.elim (fun g => g q1) (fun g => g.2.2 q2)
          rw [zup_e, if_neg h18, zup_e, if_neg h18, zup_e, if_neg h17, zup_e, if_neg h16]
        · simp only [zup_e, and_true, true_and, if_true] at *
          unfold mT mLk fMax fMin
          simp only [zup_e, and_true, true_and, if_true]
          refine Prod.ext ?_ (Prod.ext ?_ ?_)
          · simp
          · simp; try grind
          · simp; try grind
      · skip
        refine zb_vret bkMo_look_63 bdMo_look_75 rfl (h' := zN (zup (zup (zup (zup sg 393 16 (((sg 393 16) ||| n) &&& (f ^^^ (-1)))) 393 17 c) 393 18 (((zup (zup sg 393 16 (((sg 393 16) ||| n) &&& (f ^^^ (-1)))) 393 17 c) 393 18) + g)) 393 18 9)) (Ps := [zOb (zN (zup (zup (zup sg 393 16 (((sg 393 16) ||| n) &&& (f ^^^ (-1)))) 393 17 c) 393 18 (((zup (zup sg 393 16 (((sg 393 16) ||| n) &&& (f ^^^ (-1)))) 393 17 c) 393 18) + g))) 393 10]) rfl (zA zob_393 trivial) rfl ?_
        refine ⟨_, rfl, rfl, fun x j h => ?_, ?_⟩
        · have h16 : ¬ (x = 393 ∧ j = 16) := by rintro ⟨q1, q2⟩; exact h.elim (fun g => g q1) (fun g => g.1 q2)
          have h17 : ¬ (x = 393 ∧ j = 17) := by rintro ⟨q1, q2⟩; exact h.elim (fun g => g q1) (fun g => g.2.1 q2)
          have h18 : ¬ (x = 393 ∧ j = 18) := by rintro ⟨q1, q2⟩; exact h.elim (fun g => g q1) (fun g => g.2.2 q2)
          rw [zup_e, if_neg h18, zup_e, if_neg h18, zup_e, if_neg h17, zup_e, if_neg h16]
        · simp only [zup_e, and_true, true_and, if_true] at *
          unfold mT mLk fMax fMin
          simp only [zup_e, and_true, true_and, if_true]
          refine Prod.ext ?_ (Prod.ext ?_ ?_)
          · simp
          · simp; try grind
          · simp; try grind
    · skip
      refine zb_vret bkMo_look_50 bdMo_look_75 rfl (h' := zN (zup (zup (zup (zup sg 393 16 (((sg 393 16) ||| n) &&& (f ^^^ (-1)))) 393 17 c) 393 18 (((zup (zup sg 393 16 (((sg 393 16) ||| n) &&& (f ^^^ (-1)))) 393 17 c) 393 18) + g)) 393 18 0)) (Ps := [zOb (zN (zup (zup (zup sg 393 16 (((sg 393 16) ||| n) &&& (f ^^^ (-1)))) 393 17 c) 393 18 (((zup (zup sg 393 16 (((sg 393 16) ||| n) &&& (f ^^^ (-1)))) 393 17 c) 393 18) + g))) 393 10]) rfl (zA zob_393 trivial) rfl ?_
      refine ⟨_, rfl, rfl, fun x j h => ?_, ?_⟩
      · have h16 : ¬ (x = 393 ∧ j = 16) := by rintro ⟨q1, q2⟩; exact h.elim (fun g => g q1) (fun g => g.1 q2)
        have h17 : ¬ (x = 393 ∧ j = 17) := by rintro ⟨q1, q2⟩; exact h.elim (fun g => g q1) (fun g => g.2.1 q2)
        have h18 : ¬ (x = 393 ∧ j = 18) := by rintro ⟨q1, q2⟩; exact h.elim (fun g => g q1) (fun g => g.2.2 q2)
        rw [zup_e, if_neg h18, zup_e, if_neg h18, zup_e, if_neg h17, zup_e, if_neg h16]
      · simp only [zup_e, and_true, true_and, if_true] at *
        unfold mT mLk fMax fMin
        simp only [zup_e, and_true, true_and, if_true]
        refine Prod.ext ?_ (Prod.ext ?_ ?_)
        · simp
        · simp; try grind
        · simp; try grind
  · skip
    refine zb_ifge (tgt := 54) bkMo_look_20 bdMo_look_47 (by decide) (lv' := [(0, .ref 393), (1, .int n), (2, .int f), (3, .int c), (4, .int g)]) (st' := [.ref 393]) (h' := zN (zup (zup (zup sg 393 16 (((sg 393 16) ||| n) &&& (f ^^^ (-1)))) 393 17 ((zup sg 393 16 (((sg 393 16) ||| n) &&& (f ^^^ (-1)))) 393 17)) 393 18 (((zup (zup sg 393 16 (((sg 393 16) ||| n) &&& (f ^^^ (-1)))) 393 17 ((zup sg 393 16 (((sg 393 16) ||| n) &&& (f ^^^ (-1)))) 393 17)) 393 18) + g))) (x := (zup (zup (zup sg 393 16 (((sg 393 16) ||| n) &&& (f ^^^ (-1)))) 393 17 ((zup sg 393 16 (((sg 393 16) ||| n) &&& (f ^^^ (-1)))) 393 17)) 393 18 (((zup (zup sg 393 16 (((sg 393 16) ||| n) &&& (f ^^^ (-1)))) 393 17 ((zup sg 393 16 (((sg 393 16) ||| n) &&& (f ^^^ (-1)))) 393 17)) 393 18) + g)) 393 18) (Ps := [zOb (zN (zup sg 393 16 (((sg 393 16) ||| n) &&& (f ^^^ (-1))))) 393 10, zOb (zN (zup sg 393 16 (((sg 393 16) ||| n) &&& (f ^^^ (-1))))) 393 10, zOb (zN (zup (zup sg 393 16 (((sg 393 16) ||| n) &&& (f ^^^ (-1)))) 393 17 ((zup sg 393 16 (((sg 393 16) ||| n) &&& (f ^^^ (-1)))) 393 17))) 393 10, zOb (zN (zup (zup sg 393 16 (((sg 393 16) ||| n) &&& (f ^^^ (-1)))) 393 17 ((zup sg 393 16 (((sg 393 16) ||| n) &&& (f ^^^ (-1)))) 393 17))) 393 10, zOb (zN (zup (zup (zup sg 393 16 (((sg 393 16) ||| n) &&& (f ^^^ (-1)))) 393 17 ((zup sg 393 16 (((sg 393 16) ||| n) &&& (f ^^^ (-1)))) 393 17)) 393 18 (((zup (zup sg 393 16 (((sg 393 16) ||| n) &&& (f ^^^ (-1)))) 393 17 ((zup sg 393 16 (((sg 393 16) ||| n) &&& (f ^^^ (-1)))) 393 17)) 393 18) + g))) 393 10]) rfl (zA zob_393 (zA zob_393 (zA zob_393 (zA zob_393 (zA zob_393 trivial))))) (fun c4 => ?_) (fun c4 => ?_)
    · skip
      refine zb_icle (tgt := 68) bkMo_look_54 bdMo_look_60 (by decide) (lv' := [(0, .ref 393), (1, .int n), (2, .int f), (3, .int c), (4, .int g)]) (st' := [.ref 393]) (h' := zN (zup (zup (zup sg 393 16 (((sg 393 16) ||| n) &&& (f ^^^ (-1)))) 393 17 ((zup sg 393 16 (((sg 393 16) ||| n) &&& (f ^^^ (-1)))) 393 17)) 393 18 (((zup (zup sg 393 16 (((sg 393 16) ||| n) &&& (f ^^^ (-1)))) 393 17 ((zup sg 393 16 (((sg 393 16) ||| n) &&& (f ^^^ (-1)))) 393 17)) 393 18) + g))) (x := (zup (zup (zup sg 393 16 (((sg 393 16) ||| n) &&& (f ^^^ (-1)))) 393 17 ((zup sg 393 16 (((sg 393 16) ||| n) &&& (f ^^^ (-1)))) 393 17)) 393 18 (((zup (zup sg 393 16 (((sg 393 16) ||| n) &&& (f ^^^ (-1)))) 393 17 ((zup sg 393 16 (((sg 393 16) ||| n) &&& (f ^^^ (-1)))) 393 17)) 393 18) + g)) 393 18) (y := 9) (Ps := [zOb (zN (zup (zup (zup sg 393 16 (((sg 393 16) ||| n) &&& (f ^^^ (-1)))) 393 17 ((zup sg 393 16 (((sg 393 16) ||| n) &&& (f ^^^ (-1)))) 393 17)) 393 18 (((zup (zup sg 393 16 (((sg 393 16) ||| n) &&& (f ^^^ (-1)))) 393 17 ((zup sg 393 16 (((sg 393 16) ||| n) &&& (f ^^^ (-1)))) 393 17)) 393 18) + g))) 393 10]) rfl (zA zob_393 trivial) (fun c5 => ?_) (fun c5 => ?_)
      · skip
        refine zb_vret bkMo_look_68 bdMo_look_75 rfl (h' := zN (zup (zup (zup (zup sg 393 16 (((sg 393 16) ||| n) &&& (f ^^^ (-1)))) 393 17 ((zup sg 393 16 (((sg 393 16) ||| n) &&& (f ^^^ (-1)))) 393 17)) 393 18 (((zup (zup sg 393 16 (((sg 393 16) ||| n) &&& (f ^^^ (-1)))) 393 17 ((zup sg 393 16 (((sg 393 16) ||| n) &&& (f ^^^ (-1)))) 393 17)) 393 18) + g)) 393 18 ((zup (zup (zup sg 393 16 (((sg 393 16) ||| n) &&& (f ^^^ (-1)))) 393 17 ((zup sg 393 16 (((sg 393 16) ||| n) &&& (f ^^^ (-1)))) 393 17)) 393 18 (((zup (zup sg 393 16 (((sg 393 16) ||| n) &&& (f ^^^ (-1)))) 393 17 ((zup sg 393 16 (((sg 393 16) ||| n) &&& (f ^^^ (-1)))) 393 17)) 393 18) + g)) 393 18))) (Ps := [zOb (zN (zup (zup (zup sg 393 16 (((sg 393 16) ||| n) &&& (f ^^^ (-1)))) 393 17 ((zup sg 393 16 (((sg 393 16) ||| n) &&& (f ^^^ (-1)))) 393 17)) 393 18 (((zup (zup sg 393 16 (((sg 393 16) ||| n) &&& (f ^^^ (-1)))) 393 17 ((zup sg 393 16 (((sg 393 16) ||| n) &&& (f ^^^ (-1)))) 393 17)) 393 18) + g))) 393 10, zOb (zN (zup (zup (zup sg 393 16 (((sg 393 16) ||| n) &&& (f ^^^ (-1)))) 393 17 ((zup sg 393 16 (((sg 393 16) ||| n) &&& (f ^^^ (-1)))) 393 17)) 393 18 (((zup (zup sg 393 16 (((sg 393 16) ||| n) &&& (f ^^^ (-1)))) 393 17 ((zup sg 393 16 (((sg 393 16) ||| n) &&& (f ^^^ (-1)))) 393 17)) 393 18) + g))) 393 10]) rfl (zA zob_393 (zA zob_393 trivial)) rfl ?_
        refine ⟨_, rfl, rfl, fun x j h => ?_, ?_⟩
        · have h16 : ¬ (x = 393 ∧ j = 16) := by rintro ⟨q1, q2⟩; exact h.elim (fun g => g q1) (fun g => g.1 q2)
          have h17 : ¬ (x = 393 ∧ j = 17) := by rintro ⟨q1, q2⟩; exact h.elim (fun g => g q1) (fun g => g.2.1 q2)
          have h18 : ¬ (x = 393 ∧ j = 18) := by rintro ⟨q1, q2⟩; exact h.elim (fun g => g q1) (fun g => g.2.2 q2)
          rw [zup_e, if_neg h18, zup_e, if_neg h18, zup_e, if_neg h17, zup_e, if_neg h16]
        · simp only [zup_e, and_true, true_and, if_true] at *
          unfold mT mLk fMax fMin
          simp only [zup_e, and_true, true_and, if_true]
          refine Prod.ext ?_ (Prod.ext ?_ ?_)
          · simp
          · simp; try grind
          · simp; try grind
      · skip
        refine zb_vret bkMo_look_63 bdMo_look_75 rfl (h' := zN (zup (zup (zup (zup sg 393 16 (((sg 393 16) ||| n) &&& (f ^^^ (-1)))) 393 17 ((zup sg 393 16 (((sg 393 16) ||| n) &&& (f ^^^ (-1)))) 393 17)) 393 18 (((zup (zup sg 393 16 (((sg 393 16) ||| n) &&& (f ^^^ (-1)))) 393 17 ((zup sg 393 16 (((sg 393 16) ||| n) &&& (f ^^^ (-1)))) 393 17)) 393 18) + g)) 393 18 9)) (Ps := [zOb (zN (zup (zup (zup sg 393 16 (((sg 393 16) ||| n) &&& (f ^^^ (-1)))) 393 17 ((zup sg 393 16 (((sg 393 16) ||| n) &&& (f ^^^ (-1)))) 393 17)) 393 18 (((zup (zup sg 393 16 (((sg 393 16) ||| n) &&& (f ^^^ (-1)))) 393 17 ((zup sg 393 16 (((sg 393 16) ||| n) &&& (f ^^^ (-1)))) 393 17)) 393 18) + g))) 393 10]) rfl (zA zob_393 trivial) rfl ?_
        refine ⟨_, rfl, rfl, fun x j h => ?_, ?_⟩
        · have h16 : ¬ (x = 393 ∧ j = 16) := by rintro ⟨q1, q2⟩; exact h.elim (fun g => g q1) (fun g => g.1 q2)
          have h17 : ¬ (x = 393 ∧ j = 17) := by rintro ⟨q1, q2⟩; exact h.elim (fun g => g q1) (fun g => g.2.1 q2)
          have h18 : ¬ (x = 393 ∧ j = 18) := by rintro ⟨q1, q2⟩; exact h.elim (fun g => g q1) (fun g => g.2.2 q2)
          rw [zup_e, if_neg h18, zup_e, if_neg h18, zup_e, if_neg h17, zup_e, if_neg h16]
        · simp only [zup_e, and_true, true_and, if_true] at *
          unfold mT mLk fMax fMin
          simp only [zup_e, and_true, true_and, if_true]
          refine Prod.ext ?_ (Prod.ext ?_ ?_)
          · simp
          · simp; try grind
          · simp; try grind
    · skip
      refine zb_vret bkMo_look_50 bdMo_look_75 rfl (h' := zN (zup (zup (zup (zup sg 393 16 (((sg 393 16) ||| n) &&& (f ^^^ (-1)))) 393 17 ((zup sg 393 16 (((sg 393 16) ||| n) &&& (f ^^^ (-1)))) 393 17)) 393 18 (((zup (zup sg 393 16 (((sg 393 16) ||| n) &&& (f ^^^ (-1)))) 393 17 ((zup sg 393 16 (((sg 393 16) ||| n) &&& (f ^^^ (-1)))) 393 17)) 393 18) + g)) 393 18 0)) (Ps := [zOb (zN (zup (zup (zup sg 393 16 (((sg 393 16) ||| n) &&& (f ^^^ (-1)))) 393 17 ((zup sg 393 16 (((sg 393 16) ||| n) &&& (f ^^^ (-1)))) 393 17)) 393 18 (((zup (zup sg 393 16 (((sg 393 16) ||| n) &&& (f ^^^ (-1)))) 393 17 ((zup sg 393 16 (((sg 393 16) ||| n) &&& (f ^^^ (-1)))) 393 17)) 393 18) + g))) 393 10]) rfl (zA zob_393 trivial) rfl ?_
      refine ⟨_, rfl, rfl, fun x j h => ?_, ?_⟩
      · have h16 : ¬ (x = 393 ∧ j = 16) := by rintro ⟨q1, q2⟩; exact h.elim (fun g => g q1) (fun g => g.1 q2)
        have h17 : ¬ (x = 393 ∧ j = 17) := by rintro ⟨q1, q2⟩; exact h.elim (fun g => g q1) (fun g => g.2.1 q2)
        have h18 : ¬ (x = 393 ∧ j = 18) := by rintro ⟨q1, q2⟩; exact h.elim (fun g => g q1) (fun g => g.2.2 q2)
        rw [zup_e, if_neg h18, zup_e, if_neg h18, zup_e, if_neg h17, zup_e, if_neg h16]
      · simp only [zup_e, and_true, true_and, if_true] at *
        unfold mT mLk fMax fMin
        simp only [zup_e, and_true, true_and, if_true]
        refine Prod.ext ?_ (Prod.ext ?_ ?_)
        · simp
        · simp; try grind
        · simp; try grind
theorem bkMo_isOver_0 : zBk mMo_isOver 0 [(1, 1, 0, 0, 0)] = some 1 := by decide +kernel
theorem bkMo_isOver_4 : zBk mMo_isOver 4 [(2, 3, 0, 0, 0), (1, 0, 1, 0, 0), (5, 10, 3, 2, 3), (1, 3, 0, 0, 0), (7, 0, 0, 0, 0), (0, 0, 0, 0, 1)] = some 12 := by decide +kernel
theorem bkMo_isOver_43 : zBk mMo_isOver 43 [(0, 0, 0, 0, 0)] = some 44 := by decide +kernel
theorem bkMo_isOver_15 : zBk mMo_isOver 15 [(1, 0, 1, 0, 0), (5, 10, 3, 2, 3), (1, 3, 0, 0, 0), (0, 0, 0, 0, 1), (4, 0, 0, 0, 0), (7, 0, 0, 0, 0), (1, 2, 0, 0, 0)] = some 24 := by decide +kernel
theorem bkMo_isOver_27 : zBk mMo_isOver 27 [(1, 2, 0, 0, 0), (1, 0, 1, 0, 0), (5, 10, 3, 2, 3), (1, 3, 0, 0, 0), (0, 0, 0, 0, 2), (4, 0, 0, 0, 0), (7, 0, 0, 0, 0)] = some 36 := by decide +kernel
theorem bkMo_isOver_39 : zBk mMo_isOver 39 [(0, 0, 0, 0, 1), (22, 44, 0, 0, 0)] = some 44 := by decide +kernel
theorem bdMo_isOver_1 : decode mMo_isOver.2.2.1 1 = .ok (.invokestatic 91, 3) := by decide +kernel
theorem bdMo_isOver_12 : decode mMo_isOver.2.2.1 12 = .ok (.if_icmp .ne 31, 3) := by decide +kernel
theorem bdMo_isOver_24 : decode mMo_isOver.2.2.1 24 = .ok (.if_icmp .gt 19, 3) := by decide +kernel
theorem bdMo_isOver_36 : decode mMo_isOver.2.2.1 36 = .ok (.if_icmp .ge 7, 3) := by decide +kernel
theorem bdMo_isOver_44 : decode mMo_isOver.2.2.1 44 = .ok (.ireturn, 1) := by decide +kernel
theorem cMo_isOver {sg : zSig} {s i : Int32} (s0 : 0 ≤ s) (s1 : s < 16) : zG mMo_isOver 411 (fun rr h' => rr = some (.int (if sg 395 (803 + 9 * s) = 1 ∧ sg 395 (803 + 9 * s + 1) ≤ i ∧ i < sg 395 (803 + 9 * s + 2) then 1 else 0)) ∧ h' = zN sg) 0 [(0, .ref 393), (1, .int s), (2, .int i)] [] (zN sg) := by
  refine zG_run bkMo_isOver_0 (lv' := [(0, .ref 393), (1, .int s), (2, .int i)]) (st' := [.int s]) (h' := zN sg) (Ps := []) rfl trivial ?_
  refine zG_calls (As := [.int s]) (rest := []) (N2 := 411) bdMo_isOver_1 okMo_spanAt lk10_91 (And.intro (by decide) (by decide)) rfl rfl (Nat.le_of_ble_eq_true rfl) (Nat.le_of_ble_eq_true rfl) (Nat.le_refl 411) (Nat.le_refl 411) cMo_spanAt ?_
  rintro rr h' ⟨rfl, rfl⟩ -
  refine zb_icne (tgt := 43) bkMo_isOver_4 bdMo_isOver_12 (by decide) (lv' := [(3, .int (803 + 9 * s)), (0, .ref 393), (1, .int s), (2, .int i)]) (st' := []) (h' := zN sg) (x := sg 395 (803 + 9 * s)) (y := 1) (Ps := [zOb (zN sg) 393 10 ∧ (zN sg).2.2 393 3 = true, zInL (zN sg) 395 (803 + 9 * s)]) rfl (zA ⟨zob_393, rfl⟩ (zA (zinL_395 (i := 803 + 9 * s) (by lia) (by lia)) trivial)) (fun c1 => ?_) (fun c1 => ?_)
  · skip
    refine zb_zret bkMo_isOver_43 bdMo_isOver_44 rfl (x := 0) (h' := zN sg) (Ps := []) rfl trivial rfl (Or.inl rfl) ?_
    exact ⟨by grind, rfl⟩
  · skip
    refine zb_icgt (tgt := 43) bkMo_isOver_15 bdMo_isOver_24 (by decide) (lv' := [(3, .int (803 + 9 * s)), (0, .ref 393), (1, .int s), (2, .int i)]) (st' := []) (h' := zN sg) (x := sg 395 ((803 + 9 * s) + 1)) (y := i) (Ps := [zOb (zN sg) 393 10 ∧ (zN sg).2.2 393 3 = true, zInL (zN sg) 395 ((803 + 9 * s) + 1)]) rfl (zA ⟨zob_393, rfl⟩ (zA (zinL_395 (i := (803 + 9 * s) + 1) (by lia) (by lia)) trivial)) (fun c2 => ?_) (fun c2 => ?_)
    · skip
      refine zb_zret bkMo_isOver_43 bdMo_isOver_44 rfl (x := 0) (h' := zN sg) (Ps := []) rfl trivial rfl (Or.inl rfl) ?_
      exact ⟨by grind, rfl⟩
    · skip
      refine zb_icge (tgt := 43) bkMo_isOver_27 bdMo_isOver_36 (by decide) (lv' := [(3, .int (803 + 9 * s)), (0, .ref 393), (1, .int s), (2, .int i)]) (st' := []) (h' := zN sg) (x := i) (y := sg 395 ((803 + 9 * s) + 2)) (Ps := [zOb (zN sg) 393 10 ∧ (zN sg).2.2 393 3 = true, zInL (zN sg) 395 ((803 + 9 * s) + 2)]) rfl (zA ⟨zob_393, rfl⟩ (zA (zinL_395 (i := (803 + 9 * s) + 2) (by lia) (by lia)) trivial)) (fun c3 => ?_) (fun c3 => ?_)
      · skip
        refine zb_zret bkMo_isOver_43 bdMo_isOver_44 rfl (x := 0) (h' := zN sg) (Ps := []) rfl trivial rfl (Or.inl rfl) ?_
        exact ⟨by grind, rfl⟩
      · skip
        refine zb_zret bkMo_isOver_39 bdMo_isOver_44 rfl (x := 1) (h' := zN sg) (Ps := []) rfl trivial rfl (Or.inr rfl) ?_
        exact ⟨by grind, rfl⟩
def mS1 (sg : zSig) (but i lay k : Int32) (t : z3) : z3 := if k ≠ but ∧ sg 395 (803 + 9 * k + 3) = lay ∧ sg 395 (803 + 9 * k) = 1 ∧ sg 395 (803 + 9 * k + 1) ≤ i ∧ i < sg 395 (803 + 9 * k + 2) then mLk (sg 395 (803 + 9 * k + 4)) (sg 395 (803 + 9 * k + 5)) (sg 395 (803 + 9 * k + 6) - 1) (sg 395 (803 + 9 * k + 7)) t else t
def mS2 (sg : zSig) (but i lay : Int32) (t : z3) : z3 := zit (mS1 sg but i lay) t (sg 395 1)
def mS (sg : zSig) (but i : Int32) : z3 := zit (mS2 sg but i) (mRw sg i) 10
def mSy (sg : zSig) (but i : Int32) : Int32 := fOf (mS sg but i).1 (mS sg but i).2.1 (mS sg but i).2.2
theorem bkMo_takeStyle_0 : zBk mMo_takeStyle 0 [(1, 0, 1, 0, 0), (1, 1, 0, 0, 0)] = some 2 := by decide +kernel
theorem bkMo_takeStyle_5 : zBk mMo_takeStyle 5 [(0, 0, 0, 0, 0), (2, 3, 0, 0, 0)] = some 7 := by decide +kernel
theorem bkMo_takeStyle_7 : zBk mMo_takeStyle 7 [(1, 3, 0, 0, 0), (0, 0, 0, 0, 10)] = some 10 := by decide +kernel
theorem bkMo_takeStyle_119 : zBk mMo_takeStyle 119 [] = some 119 := by decide +kernel
theorem bkMo_takeStyle_13 : zBk mMo_takeStyle 13 [(0, 0, 0, 0, 0), (2, 4, 0, 0, 0)] = some 16 := by decide +kernel
theorem bkMo_takeStyle_16 : zBk mMo_takeStyle 16 [(1, 4, 0, 0, 0), (1, 0, 1, 0, 0), (5, 10, 3, 2, 3), (0, 0, 0, 0, 1), (7, 0, 0, 0, 0)] = some 24 := by decide +kernel
theorem bkMo_takeStyle_113 : zBk mMo_takeStyle 113 [(3, 3, 0, 0, 1), (22, 7, 0, 0, 0)] = some 7 := by decide +kernel
theorem bkMo_takeStyle_27 : zBk mMo_takeStyle 27 [(1, 4, 0, 0, 0)] = some 29 := by decide +kernel
theorem bkMo_takeStyle_32 : zBk mMo_takeStyle 32 [(2, 5, 0, 0, 0), (1, 4, 0, 0, 0), (1, 2, 0, 0, 0)] = some 37 := by decide +kernel
theorem bkMo_takeStyle_107 : zBk mMo_takeStyle 107 [(3, 4, 0, 0, 1), (22, 16, 0, 0, 0)] = some 16 := by decide +kernel
theorem bkMo_takeStyle_40 : zBk mMo_takeStyle 40 [(1, 0, 1, 0, 0), (5, 10, 3, 2, 3), (1, 5, 0, 0, 0), (0, 0, 0, 0, 3), (4, 0, 0, 0, 0), (7, 0, 0, 0, 0), (1, 3, 0, 0, 0)] = some 50 := by decide +kernel
theorem bkMo_takeStyle_53 : zBk mMo_takeStyle 53 [(1, 0, 1, 0, 0), (1, 4, 0, 0, 0), (1, 1, 0, 0, 0)] = some 57 := by decide +kernel
theorem bkMo_takeStyle_60 : zBk mMo_takeStyle 60 [] = some 60 := by decide +kernel
theorem bkMo_takeStyle_63 : zBk mMo_takeStyle 63 [(1, 0, 1, 0, 0), (1, 0, 1, 0, 0), (5, 10, 3, 2, 3), (1, 5, 0, 0, 0), (0, 0, 0, 0, 4), (4, 0, 0, 0, 0), (7, 0, 0, 0, 0), (1, 0, 1, 0, 0), (5, 10, 3, 2, 3), (1, 5, 0, 0, 0), (0, 0, 0, 0, 5), (4, 0, 0, 0, 0), (7, 0, 0, 0, 0), (1, 0, 1, 0, 0), (5, 10, 3, 2, 3), (1, 5, 0, 0, 0), (0, 0, 0, 0, 6), (4, 0, 0, 0, 0), (7, 0, 0, 0, 0), (0, 0, 0, 0, 1), (4, 1, 0, 0, 0), (1, 0, 1, 0, 0), (5, 10, 3, 2, 3), (1, 5, 0, 0, 0), (0, 0, 0, 0, 7), (4, 0, 0, 0, 0), (7, 0, 0, 0, 0)] = some 104 := by decide +kernel
theorem bdMo_takeStyle_2 : decode mMo_takeStyle.2.2.1 2 = .ok (.invokevirtual 186, 3) := by decide +kernel
theorem bdMo_takeStyle_10 : decode mMo_takeStyle.2.2.1 10 = .ok (.if_icmp .ge 109, 3) := by decide +kernel
theorem bdMo_takeStyle_24 : decode mMo_takeStyle.2.2.1 24 = .ok (.if_icmp .ge 89, 3) := by decide +kernel
theorem bdMo_takeStyle_29 : decode mMo_takeStyle.2.2.1 29 = .ok (.invokestatic 91, 3) := by decide +kernel
theorem bdMo_takeStyle_37 : decode mMo_takeStyle.2.2.1 37 = .ok (.if_icmp .eq 70, 3) := by decide +kernel
theorem bdMo_takeStyle_50 : decode mMo_takeStyle.2.2.1 50 = .ok (.if_icmp .ne 57, 3) := by decide +kernel
theorem bdMo_takeStyle_57 : decode mMo_takeStyle.2.2.1 57 = .ok (.invokevirtual 189, 3) := by decide +kernel
theorem bdMo_takeStyle_60 : decode mMo_takeStyle.2.2.1 60 = .ok (.ifCond .eq 47, 3) := by decide +kernel
theorem bdMo_takeStyle_104 : decode mMo_takeStyle.2.2.1 104 = .ok (.invokevirtual 192, 3) := by decide +kernel
theorem bdMo_takeStyle_119 : decode mMo_takeStyle.2.2.1 119 = .ok (.return_, 1) := by decide +kernel
theorem lMo_takeStyle {sg : zSig} {i but : Int32} (i0 : 0 ≤ i) (i1 : i < 200) (g0 : 0 ≤ sg 395 1) (g1 : sg 395 1 ≤ 16) {Q : Option Value → zHp → Prop} (hq : ∀ rr h', (∃ sg', rr = none ∧ h' = zN sg' ∧ mFr sg sg' ∧ mT sg' = mS sg but i) → Q rr h') : zG mMo_takeStyle 411 Q 0 [(0, .ref 393), (1, .int i), (2, .int but)] [] (zN sg) := by
  refine zG_run bkMo_takeStyle_0 (lv' := [(0, .ref 393), (1, .int i), (2, .int but)]) (st' := [.int i, .ref 393]) (h' := zN sg) (Ps := []) rfl trivial ?_
  refine zG_callv (a := 393) (c := 10) (As := [.int i]) (rest := []) (N2 := 411) bdMo_takeStyle_2 okMo_takePaint lk10_186 (And.intro (by decide) (by decide)) (by decide) rfl rfl rfl (Nat.le_of_ble_eq_true rfl) (Nat.le_of_ble_eq_true rfl) (Nat.le_refl 411) (Nat.le_refl 411) zob_393 (cMo_takePaint (i := i) (by lia) (by lia)) ?_
  rintro rr h' ⟨sg1, rfl, rfl, hfr, hmt⟩ -
  refine zG_run bkMo_takeStyle_5 (lv' := [(3, .int 0), (0, .ref 393), (1, .int i), (2, .int but)]) (st' := []) (h' := zN sg1) (Ps := []) rfl trivial ?_
  refine zG_pick (lv' := [(0, .ref 393), (1, .int i), (2, .int but), (3, .int 0)]) [1, 2, 3, 0] rfl ?_
  refine zlp2 (fun (lay : Int32) (sg0 : zSig) => zG mMo_takeStyle 411 Q 7 [(0, .ref 393), (1, .int i), (2, .int but), (3, .int lay)] [] (zN sg0)) (fun (lay : Int32) (sg0 : zSig) => (0 ≤ lay) ∧ (lay ≤ 10) ∧ (mFr sg sg0) ∧ (mT sg0 = zit (mS2 sg but i) (mRw sg i) lay)) (fun (lay : Int32) (sg0 : zSig) => zmu 10 lay) ?_ 0 sg1 ?_
  · intro lay sg0 ho iho
    obtain ⟨l0, l1, lf, lz⟩ := ho
    refine zb_icge (tgt := 119) bkMo_takeStyle_7 bdMo_takeStyle_10 (by decide) (lv' := [(0, .ref 393), (1, .int i), (2, .int but), (3, .int lay)]) (st' := []) (h' := zN sg0) (x := lay) (y := 10) (Ps := []) rfl trivial (fun c2 => ?_) (fun c2 => ?_)
    · skip
      refine zb_vret bkMo_takeStyle_119 bdMo_takeStyle_119 rfl (h' := zN sg0) (Ps := []) rfl trivial rfl ?_
      refine hq _ _ ?_
      refine ⟨_, rfl, rfl, lf, ?_⟩
      unfold mS; rw [show (10 : Int32) = lay by lia]; exact lz
    · skip
      refine zG_run bkMo_takeStyle_13 (lv' := [(4, .int 0), (0, .ref 393), (1, .int i), (2, .int but), (3, .int lay)]) (st' := []) (h' := zN sg0) (Ps := []) rfl trivial ?_
      refine zG_pick (lv' := [(0, .ref 393), (1, .int i), (2, .int but), (3, .int lay), (4, .int 0)]) [1, 2, 3, 4, 0] rfl ?_
      refine zlp2 (fun (k : Int32) (sg1 : zSig) => zG mMo_takeStyle 411 Q 16 [(0, .ref 393), (1, .int i), (2, .int but), (3, .int lay), (4, .int k)] [] (zN sg1)) (fun (k : Int32) (sg1 : zSig) => (0 ≤ k) ∧ (k ≤ sg 395 1) ∧ (mFr sg sg1) ∧ (mT sg1 = zit (mS1 sg but i lay) (zit (mS2 sg but i) (mRw sg i) lay) k)) (fun (k : Int32) (sg1 : zSig) => zmu (sg 395 1) k) ?_ 0 sg0 ?_
      · intro k sg1 hk ihk
        obtain ⟨k0, k1, kf, kz⟩ := hk
        have ke : ∀ j, sg1 395 j = sg 395 j := fun j => kf 395 j (Or.inl (by decide))
        have ke1 := ke 1
        refine zb_icge (tgt := 113) bkMo_takeStyle_16 bdMo_takeStyle_24 (by decide) (lv' := [(0, .ref 393), (1, .int i), (2, .int but), (3, .int lay), (4, .int k)]) (st' := []) (h' := zN sg1) (x := k) (y := sg1 395 1) (Ps := [zOb (zN sg1) 393 10 ∧ (zN sg1).2.2 393 3 = true, zInL (zN sg1) 395 1]) rfl (zA ⟨zob_393, rfl⟩ (zA (zinL_395 (i := 1) (by decide) (by decide)) trivial)) (fun c3 => ?_) (fun c3 => ?_)
        · skip
          refine zG_run bkMo_takeStyle_113 (lv' := [(3, .int (lay + 1)), (0, .ref 393), (1, .int i), (2, .int but), (4, .int k)]) (st' := []) (h' := zN sg1) (Ps := []) rfl trivial ?_
          refine zG_pick (lv' := [(0, .ref 393), (1, .int i), (2, .int but), (3, .int (lay + 1))]) [1, 2, 3, 0] rfl ?_
          refine iho (lay + 1) sg1 ?_ ?_
          · refine ⟨?_, ?_, ?_, ?_⟩
            · lia
            · lia
            · exact kf
            · rw [zit_s _ _ l0 (by lia : lay < 10)]; rw [show k = sg 395 1 by lia] at kz; exact kz
          · exact zmu_up (by lia)
        · skip
          refine zG_run bkMo_takeStyle_27 (lv' := [(0, .ref 393), (1, .int i), (2, .int but), (3, .int lay), (4, .int k)]) (st' := [.int k]) (h' := zN sg1) (Ps := []) rfl trivial ?_
          refine zG_calls (As := [.int k]) (rest := []) (N2 := 411) bdMo_takeStyle_29 okMo_spanAt lk10_91 (And.intro (by decide) (by decide)) rfl rfl (Nat.le_of_ble_eq_true rfl) (Nat.le_of_ble_eq_true rfl) (Nat.le_refl 411) (Nat.le_refl 411) cMo_spanAt ?_
          rintro rr h' ⟨rfl, rfl⟩ -
          refine zb_iceq (tgt := 107) bkMo_takeStyle_32 bdMo_takeStyle_37 (by decide) (lv' := [(5, .int (803 + 9 * k)), (0, .ref 393), (1, .int i), (2, .int but), (3, .int lay), (4, .int k)]) (st' := []) (h' := zN sg1) (x := k) (y := but) (Ps := []) rfl trivial (fun c4 => ?_) (fun c4 => ?_)
          · skip
            refine zG_run bkMo_takeStyle_107 (lv' := [(4, .int (k + 1)), (5, .int (803 + 9 * k)), (0, .ref 393), (1, .int i), (2, .int but), (3, .int lay)]) (st' := []) (h' := zN sg1) (Ps := []) rfl trivial ?_
            refine zG_pick (lv' := [(0, .ref 393), (1, .int i), (2, .int but), (3, .int lay), (4, .int (k + 1))]) [2, 3, 4, 5, 0] rfl ?_
            refine ihk (k + 1) sg1 ?_ ?_
            · refine ⟨?_, ?_, ?_, ?_⟩
              · lia
              · lia
              · exact kf
              · rw [zit_s _ _ k0 (by lia : k < sg 395 1), ← kz]; unfold mS1; rw [if_neg]; simp only [ke] at *; clear ihk iho hq kz lz; grind
            · exact zmu_up (by lia)
          · skip
            refine zb_icne (tgt := 107) bkMo_takeStyle_40 bdMo_takeStyle_50 (by decide) (lv' := [(5, .int (803 + 9 * k)), (0, .ref 393), (1, .int i), (2, .int but), (3, .int lay), (4, .int k)]) (st' := []) (h' := zN sg1) (x := sg1 395 ((803 + 9 * k) + 3)) (y := lay) (Ps := [zOb (zN sg1) 393 10 ∧ (zN sg1).2.2 393 3 = true, zInL (zN sg1) 395 ((803 + 9 * k) + 3)]) rfl (zA ⟨zob_393, rfl⟩ (zA (zinL_395 (i := (803 + 9 * k) + 3) (by lia) (by lia)) trivial)) (fun c5 => ?_) (fun c5 => ?_)
            · skip
              refine zG_run bkMo_takeStyle_107 (lv' := [(4, .int (k + 1)), (5, .int (803 + 9 * k)), (0, .ref 393), (1, .int i), (2, .int but), (3, .int lay)]) (st' := []) (h' := zN sg1) (Ps := []) rfl trivial ?_
              refine zG_pick (lv' := [(0, .ref 393), (1, .int i), (2, .int but), (3, .int lay), (4, .int (k + 1))]) [2, 3, 4, 5, 0] rfl ?_
              refine ihk (k + 1) sg1 ?_ ?_
              · refine ⟨?_, ?_, ?_, ?_⟩
                · lia
                · lia
                · exact kf
                · rw [zit_s _ _ k0 (by lia : k < sg 395 1), ← kz]; unfold mS1; rw [if_neg]; simp only [ke] at *; clear ihk iho hq kz lz; grind
              · exact zmu_up (by lia)
            · skip
              refine zG_run bkMo_takeStyle_53 (lv' := [(5, .int (803 + 9 * k)), (0, .ref 393), (1, .int i), (2, .int but), (3, .int lay), (4, .int k)]) (st' := [.int i, .int k, .ref 393]) (h' := zN sg1) (Ps := []) rfl trivial ?_
              refine zG_callv (a := 393) (c := 10) (As := [.int k, .int i]) (rest := []) (N2 := 411) bdMo_takeStyle_57 okMo_isOver lk10_189 (And.intro (by decide) (by decide)) (by decide) rfl rfl rfl (Nat.le_of_ble_eq_true rfl) (Nat.le_of_ble_eq_true rfl) (Nat.le_refl 411) (Nat.le_refl 411) zob_393 (cMo_isOver (by lia) (by lia)) ?_
              rintro rr h' ⟨rfl, rfl⟩ -
              refine zb_ifeq (tgt := 107) bkMo_takeStyle_60 bdMo_takeStyle_60 (by decide) (lv' := [(5, .int (803 + 9 * k)), (0, .ref 393), (1, .int i), (2, .int but), (3, .int lay), (4, .int k)]) (st' := []) (h' := zN sg1) (x := if sg1 395 (803 + 9 * k) = 1 ∧ sg1 395 (803 + 9 * k + 1) ≤ i ∧ i < sg1 395 (803 + 9 * k + 2) then 1 else 0) (Ps := []) rfl trivial (fun c6 => ?_) (fun c6 => ?_)
              · skip
                refine zG_run bkMo_takeStyle_107 (lv' := [(4, .int (k + 1)), (5, .int (803 + 9 * k)), (0, .ref 393), (1, .int i), (2, .int but), (3, .int lay)]) (st' := []) (h' := zN sg1) (Ps := []) rfl trivial ?_
                refine zG_pick (lv' := [(0, .ref 393), (1, .int i), (2, .int but), (3, .int lay), (4, .int (k + 1))]) [2, 3, 4, 5, 0] rfl ?_
                refine ihk (k + 1) sg1 ?_ ?_
                · refine ⟨?_, ?_, ?_, ?_⟩
                  · lia
                  · lia
                  · exact kf
                  · rw [zit_s _ _ k0 (by lia : k < sg 395 1), ← kz]; unfold mS1; rw [if_neg]; simp only [ke] at *; clear ihk iho hq kz lz; grind
                · exact zmu_up (by lia)
              · skip
                refine zG_run bkMo_takeStyle_63 (lv' := [(5, .int (803 + 9 * k)), (0, .ref 393), (1, .int i), (2, .int but), (3, .int lay), (4, .int k)]) (st' := [.int (sg1 395 ((803 + 9 * k) + 7)), .int ((sg1 395 ((803 + 9 * k) + 6)) - 1), .int (sg1 395 ((803 + 9 * k) + 5)), .int (sg1 395 ((803 + 9 * k) + 4)), .ref 393]) (h' := zN sg1) (Ps := [zOb (zN sg1) 393 10 ∧ (zN sg1).2.2 393 3 = true, zInL (zN sg1) 395 ((803 + 9 * k) + 4), zOb (zN sg1) 393 10 ∧ (zN sg1).2.2 393 3 = true, zInL (zN sg1) 395 ((803 + 9 * k) + 5), zOb (zN sg1) 393 10 ∧ (zN sg1).2.2 393 3 = true, zInL (zN sg1) 395 ((803 + 9 * k) + 6), zOb (zN sg1) 393 10 ∧ (zN sg1).2.2 393 3 = true, zInL (zN sg1) 395 ((803 + 9 * k) + 7)]) rfl (zA ⟨zob_393, rfl⟩ (zA (zinL_395 (i := (803 + 9 * k) + 4) (by lia) (by lia)) (zA ⟨zob_393, rfl⟩ (zA (zinL_395 (i := (803 + 9 * k) + 5) (by lia) (by lia)) (zA ⟨zob_393, rfl⟩ (zA (zinL_395 (i := (803 + 9 * k) + 6) (by lia) (by lia)) (zA ⟨zob_393, rfl⟩ (zA (zinL_395 (i := (803 + 9 * k) + 7) (by lia) (by lia)) trivial)))))))) ?_
                refine zG_callv (a := 393) (c := 10) (As := [.int (sg1 395 ((803 + 9 * k) + 4)), .int (sg1 395 ((803 + 9 * k) + 5)), .int ((sg1 395 ((803 + 9 * k) + 6)) - 1), .int (sg1 395 ((803 + 9 * k) + 7))]) (rest := []) (N2 := 411) bdMo_takeStyle_104 okMo_look lk10_192 (And.intro (by decide) (by decide)) (by decide) rfl rfl rfl (Nat.le_of_ble_eq_true rfl) (Nat.le_of_ble_eq_true rfl) (Nat.le_refl 411) (Nat.le_refl 411) zob_393 (cMo_look (n := sg1 395 ((803 + 9 * k) + 4)) (f := sg1 395 ((803 + 9 * k) + 5)) (c := (sg1 395 ((803 + 9 * k) + 6)) - 1) (g := sg1 395 ((803 + 9 * k) + 7))) ?_
                rintro rr h' ⟨sg7, rfl, rfl, hfr, hmt⟩ -
                refine zG_run bkMo_takeStyle_107 (lv' := [(4, .int (k + 1)), (5, .int (803 + 9 * k)), (0, .ref 393), (1, .int i), (2, .int but), (3, .int lay)]) (st' := []) (h' := zN sg7) (Ps := []) rfl trivial ?_
                refine zG_pick (lv' := [(0, .ref 393), (1, .int i), (2, .int but), (3, .int lay), (4, .int (k + 1))]) [2, 3, 4, 5, 0] rfl ?_
                refine ihk (k + 1) sg7 ?_ ?_
                · refine ⟨?_, ?_, ?_, ?_⟩
                  · lia
                  · lia
                  · exact mFr_trans kf hfr
                  · rw [zit_s _ _ k0 (by lia : k < sg 395 1), ← kz, hmt]; unfold mS1; simp only [ke] at *; rw [if_pos]; clear ihk iho hq kz lz hmt; grind
                · exact zmu_up (by lia)
      · refine ⟨?_, ?_, ?_, ?_⟩
        · lia
        · lia
        · exact lf
        · rw [zit_0]; exact lz
  · refine ⟨?_, ?_, ?_, ?_⟩
    · lia
    · lia
    · exact hfr
    · rw [zit_0]; exact hmt
theorem cMo_takeStyle {sg : zSig} {i but : Int32} (i0 : 0 ≤ i) (i1 : i < 200) (g0 : 0 ≤ sg 395 1) (g1 : sg 395 1 ≤ 16) : zG mMo_takeStyle 411 (fun rr h' => ∃ sg', rr = none ∧ h' = zN sg' ∧ mFr sg sg' ∧ mT sg' = mS sg but i) 0 [(0, .ref 393), (1, .int i), (2, .int but)] [] (zN sg) := lMo_takeStyle i0 i1 g0 g1 (fun _ _ q => q)
theorem bkMo_styleOf_0 : zBk mMo_styleOf 0 [(1, 0, 1, 0, 0), (1, 1, 0, 0, 0), (1, 2, 0, 0, 0)] = some 3 := by decide +kernel
theorem bkMo_styleOf_6 : zBk mMo_styleOf 6 [(0, 0, 0, 0, 100), (1, 0, 1, 0, 0), (5, 10, 16, 0, 16), (4, 2, 0, 0, 0), (0, 0, 0, 0, 10), (1, 0, 1, 0, 0), (5, 10, 17, 0, 17), (4, 2, 0, 0, 0), (4, 0, 0, 0, 0), (1, 0, 1, 0, 0), (5, 10, 18, 0, 18), (4, 0, 0, 0, 0)] = some 26 := by decide +kernel
theorem bdMo_styleOf_3 : decode mMo_styleOf.2.2.1 3 = .ok (.invokevirtual 196, 3) := by decide +kernel
theorem bdMo_styleOf_26 : decode mMo_styleOf.2.2.1 26 = .ok (.ireturn, 1) := by decide +kernel
theorem cMo_styleOf {sg : zSig} {i but : Int32} (i0 : 0 ≤ i) (i1 : i < 200) (g0 : 0 ≤ sg 395 1) (g1 : sg 395 1 ≤ 16) : zG mMo_styleOf 411 (fun rr h' => ∃ sg', rr = some (.int (mSy sg but i)) ∧ h' = zN sg' ∧ mFr sg sg' ∧ mT sg' = mS sg but i) 0 [(0, .ref 393), (1, .int i), (2, .int but)] [] (zN sg) := by
  refine zG_run bkMo_styleOf_0 (lv' := [(0, .ref 393), (1, .int i), (2, .int but)]) (st' := [.int but, .int i, .ref 393]) (h' := zN sg) (Ps := []) rfl trivial ?_
  refine zG_callv (a := 393) (c := 10) (As := [.int i, .int but]) (rest := []) (N2 := 411) bdMo_styleOf_3 okMo_takeStyle lk10_196 (And.intro (by decide) (by decide)) (by decide) rfl rfl rfl (Nat.le_of_ble_eq_true rfl) (Nat.le_of_ble_eq_true rfl) (Nat.le_refl 411) (Nat.le_refl 411) zob_393 (cMo_takeStyle (i := i) (but := but) (by lia) (by lia) (by lia) (by lia)) ?_
  rintro rr h' ⟨sg1, rfl, rfl, hfr, hmt⟩ -
  refine zb_iret bkMo_styleOf_6 bdMo_styleOf_26 rfl (x := ((100 * (sg1 393 16)) + (10 * (sg1 393 17))) + (sg1 393 18)) (h' := zN sg1) (Ps := [zOb (zN sg1) 393 10, zOb (zN sg1) 393 10, zOb (zN sg1) 393 10]) rfl (zA zob_393 (zA zob_393 (zA zob_393 trivial))) rfl ?_
  refine ⟨_, ?_, rfl, hfr, hmt⟩
  unfold mSy fOf; rw [← hmt]; rfl
def hLp (sg : zSig) (i : Int32) : zSig := zup (zup (zup sg 395 (3 + 4 * i + 1) (sg 393 16)) 395 (3 + 4 * i + 2) (sg 393 17)) 395 (3 + 4 * i + 3) (sg 393 18)
def vLp (sg : zSig) (i : Int32) : Int32 := if mRw sg i = mT sg then 0 else 1
theorem bkMo_layPaint_0 : zBk mMo_layPaint 0 [(1, 1, 0, 0, 0)] = some 1 := by decide +kernel
theorem bkMo_layPaint_4 : zBk mMo_layPaint 4 [(2, 2, 0, 0, 0), (1, 0, 1, 0, 0), (5, 10, 3, 2, 3), (1, 2, 0, 0, 0), (0, 0, 0, 0, 1), (4, 0, 0, 0, 0), (7, 0, 0, 0, 0), (1, 0, 1, 0, 0), (5, 10, 16, 0, 16)] = some 17 := by decide +kernel
theorem bkMo_layPaint_50 : zBk mMo_layPaint 50 [(0, 0, 0, 0, 1), (22, 55, 0, 0, 0), (2, 3, 0, 0, 0), (1, 0, 1, 0, 0), (5, 10, 3, 2, 3), (1, 2, 0, 0, 0), (0, 0, 0, 0, 1), (4, 0, 0, 0, 0), (1, 0, 1, 0, 0), (5, 10, 16, 0, 16), (8, 0, 0, 0, 0), (1, 0, 1, 0, 0), (5, 10, 3, 2, 3), (1, 2, 0, 0, 0), (0, 0, 0, 0, 2), (4, 0, 0, 0, 0), (1, 0, 1, 0, 0), (5, 10, 17, 0, 17), (8, 0, 0, 0, 0), (1, 0, 1, 0, 0), (5, 10, 3, 2, 3), (1, 2, 0, 0, 0), (0, 0, 0, 0, 3), (4, 0, 0, 0, 0), (1, 0, 1, 0, 0), (5, 10, 18, 0, 18), (8, 0, 0, 0, 0), (1, 3, 0, 0, 0)] = some 93 := by decide +kernel
theorem bkMo_layPaint_96 : zBk mMo_layPaint 96 [(0, 0, 0, 0, 1), (22, 101, 0, 0, 0)] = some 101 := by decide +kernel
theorem bkMo_layPaint_20 : zBk mMo_layPaint 20 [(1, 0, 1, 0, 0), (5, 10, 3, 2, 3), (1, 2, 0, 0, 0), (0, 0, 0, 0, 2), (4, 0, 0, 0, 0), (7, 0, 0, 0, 0), (1, 0, 1, 0, 0), (5, 10, 17, 0, 17)] = some 32 := by decide +kernel
theorem bkMo_layPaint_35 : zBk mMo_layPaint 35 [(1, 0, 1, 0, 0), (5, 10, 3, 2, 3), (1, 2, 0, 0, 0), (0, 0, 0, 0, 3), (4, 0, 0, 0, 0), (7, 0, 0, 0, 0), (1, 0, 1, 0, 0), (5, 10, 18, 0, 18)] = some 47 := by decide +kernel
theorem bkMo_layPaint_54 : zBk mMo_layPaint 54 [(0, 0, 0, 0, 0), (2, 3, 0, 0, 0), (1, 0, 1, 0, 0), (5, 10, 3, 2, 3), (1, 2, 0, 0, 0), (0, 0, 0, 0, 1), (4, 0, 0, 0, 0), (1, 0, 1, 0, 0), (5, 10, 16, 0, 16), (8, 0, 0, 0, 0), (1, 0, 1, 0, 0), (5, 10, 3, 2, 3), (1, 2, 0, 0, 0), (0, 0, 0, 0, 2), (4, 0, 0, 0, 0), (1, 0, 1, 0, 0), (5, 10, 17, 0, 17), (8, 0, 0, 0, 0), (1, 0, 1, 0, 0), (5, 10, 3, 2, 3), (1, 2, 0, 0, 0), (0, 0, 0, 0, 3), (4, 0, 0, 0, 0), (1, 0, 1, 0, 0), (5, 10, 18, 0, 18), (8, 0, 0, 0, 0), (1, 3, 0, 0, 0)] = some 93 := by decide +kernel
theorem bkMo_layPaint_100 : zBk mMo_layPaint 100 [(0, 0, 0, 0, 0)] = some 101 := by decide +kernel
theorem bdMo_layPaint_1 : decode mMo_layPaint.2.2.1 1 = .ok (.invokestatic 141, 3) := by decide +kernel
theorem bdMo_layPaint_17 : decode mMo_layPaint.2.2.1 17 = .ok (.if_icmp .ne 33, 3) := by decide +kernel
theorem bdMo_layPaint_32 : decode mMo_layPaint.2.2.1 32 = .ok (.if_icmp .ne 18, 3) := by decide +kernel
theorem bdMo_layPaint_47 : decode mMo_layPaint.2.2.1 47 = .ok (.if_icmp .eq 7, 3) := by decide +kernel
theorem bdMo_layPaint_93 : decode mMo_layPaint.2.2.1 93 = .ok (.ifCond .eq 7, 3) := by decide +kernel
theorem bdMo_layPaint_101 : decode mMo_layPaint.2.2.1 101 = .ok (.ireturn, 1) := by decide +kernel
theorem cMo_layPaint {sg : zSig} {i : Int32} (i0 : 0 ≤ i) (i1 : i < 200) : zG mMo_layPaint 411 (fun rr h' => rr = some (.int (vLp sg i)) ∧ h' = zN (hLp sg i)) 0 [(0, .ref 393), (1, .int i)] [] (zN sg) := by
  refine zG_run bkMo_layPaint_0 (lv' := [(0, .ref 393), (1, .int i)]) (st' := [.int i]) (h' := zN sg) (Ps := []) rfl trivial ?_
  refine zG_calls (As := [.int i]) (rest := []) (N2 := 411) bdMo_layPaint_1 okMo_letterAt lk10_141 (And.intro (by decide) (by decide)) rfl rfl (Nat.le_of_ble_eq_true rfl) (Nat.le_of_ble_eq_true rfl) (Nat.le_refl 411) (Nat.le_refl 411) cMo_letterAt ?_
  rintro rr h' ⟨rfl, rfl⟩ -
  refine zb_icne (tgt := 50) bkMo_layPaint_4 bdMo_layPaint_17 (by decide) (lv' := [(2, .int (3 + 4 * i)), (0, .ref 393), (1, .int i)]) (st' := []) (h' := zN sg) (x := sg 395 ((3 + 4 * i) + 1)) (y := sg 393 16) (Ps := [zOb (zN sg) 393 10 ∧ (zN sg).2.2 393 3 = true, zInL (zN sg) 395 ((3 + 4 * i) + 1), zOb (zN sg) 393 10]) rfl (zA ⟨zob_393, rfl⟩ (zA (zinL_395 (i := (3 + 4 * i) + 1) (by lia) (by lia)) (zA zob_393 trivial))) (fun c1 => ?_) (fun c1 => ?_)
  · skip
    refine zb_ifeq (tgt := 100) bkMo_layPaint_50 bdMo_layPaint_93 (by decide) (lv' := [(3, .int 1), (2, .int (3 + 4 * i)), (0, .ref 393), (1, .int i)]) (st' := []) (h' := zN (zup (zup (zup sg 395 ((3 + 4 * i) + 1) (sg 393 16)) 395 ((3 + 4 * i) + 2) ((zup sg 395 ((3 + 4 * i) + 1) (sg 393 16)) 393 17)) 395 ((3 + 4 * i) + 3) ((zup (zup sg 395 ((3 + 4 * i) + 1) (sg 393 16)) 395 ((3 + 4 * i) + 2) ((zup sg 395 ((3 + 4 * i) + 1) (sg 393 16)) 393 17)) 393 18))) (x := 1) (Ps := [zOb (zN sg) 393 10 ∧ (zN sg).2.2 393 3 = true, zOb (zN sg) 393 10, zIn (zN sg) 395 0 ((3 + 4 * i) + 1), zOb (zN (zup sg 395 ((3 + 4 * i) + 1) (sg 393 16))) 393 10 ∧ (zN (zup sg 395 ((3 + 4 * i) + 1) (sg 393 16))).2.2 393 3 = true, zOb (zN (zup sg 395 ((3 + 4 * i) + 1) (sg 393 16))) 393 10, zIn (zN (zup sg 395 ((3 + 4 * i) + 1) (sg 393 16))) 395 0 ((3 + 4 * i) + 2), zOb (zN (zup (zup sg 395 ((3 + 4 * i) + 1) (sg 393 16)) 395 ((3 + 4 * i) + 2) ((zup sg 395 ((3 + 4 * i) + 1) (sg 393 16)) 393 17))) 393 10 ∧ (zN (zup (zup sg 395 ((3 + 4 * i) + 1) (sg 393 16)) 395 ((3 + 4 * i) + 2) ((zup sg 395 ((3 + 4 * i) + 1) (sg 393 16)) 393 17))).2.2 393 3 = true, zOb (zN (zup (zup sg 395 ((3 + 4 * i) + 1) (sg 393 16)) 395 ((3 + 4 * i) + 2) ((zup sg 395 ((3 + 4 * i) + 1) (sg 393 16)) 393 17))) 393 10, zIn (zN (zup (zup sg 395 ((3 + 4 * i) + 1) (sg 393 16)) 395 ((3 + 4 * i) + 2) ((zup sg 395 ((3 + 4 * i) + 1) (sg 393 16)) 393 17))) 395 0 ((3 + 4 * i) + 3)]) rfl (zA ⟨zob_393, rfl⟩ (zA zob_393 (zA (zin_395 (i := (3 + 4 * i) + 1) (by lia) (by lia)) (zA ⟨zob_393, rfl⟩ (zA zob_393 (zA (zin_395 (i := (3 + 4 * i) + 2) (by lia) (by lia)) (zA ⟨zob_393, rfl⟩ (zA zob_393 (zA (zin_395 (i := (3 + 4 * i) + 3) (by lia) (by lia)) trivial))))))))) (fun c2 => ?_) (fun c2 => ?_)
    · exact absurd c2 (by decide)
    · skip
      refine zb_iret bkMo_layPaint_96 bdMo_layPaint_101 rfl (x := 1) (h' := zN (zup (zup (zup sg 395 ((3 + 4 * i) + 1) (sg 393 16)) 395 ((3 + 4 * i) + 2) ((zup sg 395 ((3 + 4 * i) + 1) (sg 393 16)) 393 17)) 395 ((3 + 4 * i) + 3) ((zup (zup sg 395 ((3 + 4 * i) + 1) (sg 393 16)) 395 ((3 + 4 * i) + 2) ((zup sg 395 ((3 + 4 * i) + 1) (sg 393 16)) 393 17)) 393 18))) (Ps := []) rfl trivial rfl ?_
      refine ⟨?_, ?_⟩
      · unfold vLp mRw mT; simp only [Prod.mk.injEq]; grind
      · unfold hLp; simp only [zup_a (show (393 : Nat) ≠ 395 by decide)]
  · skip
    refine zb_icne (tgt := 50) bkMo_layPaint_20 bdMo_layPaint_32 (by decide) (lv' := [(2, .int (3 + 4 * i)), (0, .ref 393), (1, .int i)]) (st' := []) (h' := zN sg) (x := sg 395 ((3 + 4 * i) + 2)) (y := sg 393 17) (Ps := [zOb (zN sg) 393 10 ∧ (zN sg).2.2 393 3 = true, zInL (zN sg) 395 ((3 + 4 * i) + 2), zOb (zN sg) 393 10]) rfl (zA ⟨zob_393, rfl⟩ (zA (zinL_395 (i := (3 + 4 * i) + 2) (by lia) (by lia)) (zA zob_393 trivial))) (fun c3 => ?_) (fun c3 => ?_)
    · skip
      refine zb_ifeq (tgt := 100) bkMo_layPaint_50 bdMo_layPaint_93 (by decide) (lv' := [(3, .int 1), (2, .int (3 + 4 * i)), (0, .ref 393), (1, .int i)]) (st' := []) (h' := zN (zup (zup (zup sg 395 ((3 + 4 * i) + 1) (sg 393 16)) 395 ((3 + 4 * i) + 2) ((zup sg 395 ((3 + 4 * i) + 1) (sg 393 16)) 393 17)) 395 ((3 + 4 * i) + 3) ((zup (zup sg 395 ((3 + 4 * i) + 1) (sg 393 16)) 395 ((3 + 4 * i) + 2) ((zup sg 395 ((3 + 4 * i) + 1) (sg 393 16)) 393 17)) 393 18))) (x := 1) (Ps := [zOb (zN sg) 393 10 ∧ (zN sg).2.2 393 3 = true, zOb (zN sg) 393 10, zIn (zN sg) 395 0 ((3 + 4 * i) + 1), zOb (zN (zup sg 395 ((3 + 4 * i) + 1) (sg 393 16))) 393 10 ∧ (zN (zup sg 395 ((3 + 4 * i) + 1) (sg 393 16))).2.2 393 3 = true, zOb (zN (zup sg 395 ((3 + 4 * i) + 1) (sg 393 16))) 393 10, zIn (zN (zup sg 395 ((3 + 4 * i) + 1) (sg 393 16))) 395 0 ((3 + 4 * i) + 2), zOb (zN (zup (zup sg 395 ((3 + 4 * i) + 1) (sg 393 16)) 395 ((3 + 4 * i) + 2) ((zup sg 395 ((3 + 4 * i) + 1) (sg 393 16)) 393 17))) 393 10 ∧ (zN (zup (zup sg 395 ((3 + 4 * i) + 1) (sg 393 16)) 395 ((3 + 4 * i) + 2) ((zup sg 395 ((3 + 4 * i) + 1) (sg 393 16)) 393 17))).2.2 393 3 = true, zOb (zN (zup (zup sg 395 ((3 + 4 * i) + 1) (sg 393 16)) 395 ((3 + 4 * i) + 2) ((zup sg 395 ((3 + 4 * i) + 1) (sg 393 16)) 393 17))) 393 10, zIn (zN (zup (zup sg 395 ((3 + 4 * i) + 1) (sg 393 16)) 395 ((3 + 4 * i) + 2) ((zup sg 395 ((3 + 4 * i) + 1) (sg 393 16)) 393 17))) 395 0 ((3 + 4 * i) + 3)]) rfl (zA ⟨zob_393, rfl⟩ (zA zob_393 (zA (zin_395 (i := (3 + 4 * i) + 1) (by lia) (by lia)) (zA ⟨zob_393, rfl⟩ (zA zob_393 (zA (zin_395 (i := (3 + 4 * i) + 2) (by lia) (by lia)) (zA ⟨zob_393, rfl⟩ (zA zob_393 (zA (zin_395 (i := (3 + 4 * i) + 3) (by lia) (by lia)) trivial))))))))) (fun c4 => ?_) (fun c4 => ?_)
      · exact absurd c4 (by decide)
      · skip
        refine zb_iret bkMo_layPaint_96 bdMo_layPaint_101 rfl (x := 1) (h' := zN (zup (zup (zup sg 395 ((3 + 4 * i) + 1) (sg 393 16)) 395 ((3 + 4 * i) + 2) ((zup sg 395 ((3 + 4 * i) + 1) (sg 393 16)) 393 17)) 395 ((3 + 4 * i) + 3) ((zup (zup sg 395 ((3 + 4 * i) + 1) (sg 393 16)) 395 ((3 + 4 * i) + 2) ((zup sg 395 ((3 + 4 * i) + 1) (sg 393 16)) 393 17)) 393 18))) (Ps := []) rfl trivial rfl ?_
        refine ⟨?_, ?_⟩
        · unfold vLp mRw mT; simp only [Prod.mk.injEq]; grind
        · unfold hLp; simp only [zup_a (show (393 : Nat) ≠ 395 by decide)]
    · skip
      refine zb_iceq (tgt := 54) bkMo_layPaint_35 bdMo_layPaint_47 (by decide) (lv' := [(2, .int (3 + 4 * i)), (0, .ref 393), (1, .int i)]) (st' := []) (h' := zN sg) (x := sg 395 ((3 + 4 * i) + 3)) (y := sg 393 18) (Ps := [zOb (zN sg) 393 10 ∧ (zN sg).2.2 393 3 = true, zInL (zN sg) 395 ((3 + 4 * i) + 3), zOb (zN sg) 393 10]) rfl (zA ⟨zob_393, rfl⟩ (zA (zinL_395 (i := (3 + 4 * i) + 3) (by lia) (by lia)) (zA zob_393 trivial))) (fun c5 => ?_) (fun c5 => ?_)
      · skip
        refine zb_ifeq (tgt := 100) bkMo_layPaint_54 bdMo_layPaint_93 (by decide) (lv' := [(3, .int 0), (2, .int (3 + 4 * i)), (0, .ref 393), (1, .int i)]) (st' := []) (h' := zN (zup (zup (zup sg 395 ((3 + 4 * i) + 1) (sg 393 16)) 395 ((3 + 4 * i) + 2) ((zup sg 395 ((3 + 4 * i) + 1) (sg 393 16)) 393 17)) 395 ((3 + 4 * i) + 3) ((zup (zup sg 395 ((3 + 4 * i) + 1) (sg 393 16)) 395 ((3 + 4 * i) + 2) ((zup sg 395 ((3 + 4 * i) + 1) (sg 393 16)) 393 17)) 393 18))) (x := 0) (Ps := [zOb (zN sg) 393 10 ∧ (zN sg).2.2 393 3 = true, zOb (zN sg) 393 10, zIn (zN sg) 395 0 ((3 + 4 * i) + 1), zOb (zN (zup sg 395 ((3 + 4 * i) + 1) (sg 393 16))) 393 10 ∧ (zN (zup sg 395 ((3 + 4 * i) + 1) (sg 393 16))).2.2 393 3 = true, zOb (zN (zup sg 395 ((3 + 4 * i) + 1) (sg 393 16))) 393 10, zIn (zN (zup sg 395 ((3 + 4 * i) + 1) (sg 393 16))) 395 0 ((3 + 4 * i) + 2), zOb (zN (zup (zup sg 395 ((3 + 4 * i) + 1) (sg 393 16)) 395 ((3 + 4 * i) + 2) ((zup sg 395 ((3 + 4 * i) + 1) (sg 393 16)) 393 17))) 393 10 ∧ (zN (zup (zup sg 395 ((3 + 4 * i) + 1) (sg 393 16)) 395 ((3 + 4 * i) + 2) ((zup sg 395 ((3 + 4 * i) + 1) (sg 393 16)) 393 17))).2.2 393 3 = true, zOb (zN (zup (zup sg 395 ((3 + 4 * i) + 1) (sg 393 16)) 395 ((3 + 4 * i) + 2) ((zup sg 395 ((3 + 4 * i) + 1) (sg 393 16)) 393 17))) 393 10, zIn (zN (zup (zup sg 395 ((3 + 4 * i) + 1) (sg 393 16)) 395 ((3 + 4 * i) + 2) ((zup sg 395 ((3 + 4 * i) + 1) (sg 393 16)) 393 17))) 395 0 ((3 + 4 * i) + 3)]) rfl (zA ⟨zob_393, rfl⟩ (zA zob_393 (zA (zin_395 (i := (3 + 4 * i) + 1) (by lia) (by lia)) (zA ⟨zob_393, rfl⟩ (zA zob_393 (zA (zin_395 (i := (3 + 4 * i) + 2) (by lia) (by lia)) (zA ⟨zob_393, rfl⟩ (zA zob_393 (zA (zin_395 (i := (3 + 4 * i) + 3) (by lia) (by lia)) trivial))))))))) (fun c6 => ?_) (fun c6 => ?_)
        · skip
          refine zb_iret bkMo_layPaint_100 bdMo_layPaint_101 rfl (x := 0) (h' := zN (zup (zup (zup sg 395 ((3 + 4 * i) + 1) (sg 393 16)) 395 ((3 + 4 * i) + 2) ((zup sg 395 ((3 + 4 * i) + 1) (sg 393 16)) 393 17)) 395 ((3 + 4 * i) + 3) ((zup (zup sg 395 ((3 + 4 * i) + 1) (sg 393 16)) 395 ((3 + 4 * i) + 2) ((zup sg 395 ((3 + 4 * i) + 1) (sg 393 16)) 393 17)) 393 18))) (Ps := []) rfl trivial rfl ?_
          refine ⟨?_, ?_⟩
          · unfold vLp mRw mT; simp only [Prod.mk.injEq]; grind
          · unfold hLp; simp only [zup_a (show (393 : Nat) ≠ 395 by decide)]
        · exact absurd c6 (by decide)
      · skip
        refine zb_ifeq (tgt := 100) bkMo_layPaint_50 bdMo_layPaint_93 (by decide) (lv' := [(3, .int 1), (2, .int (3 + 4 * i)), (0, .ref 393), (1, .int i)]) (st' := []) (h' := zN (zup (zup (zup sg 395 ((3 + 4 * i) + 1) (sg 393 16)) 395 ((3 + 4 * i) + 2) ((zup sg 395 ((3 + 4 * i) + 1) (sg 393 16)) 393 17)) 395 ((3 + 4 * i) + 3) ((zup (zup sg 395 ((3 + 4 * i) + 1) (sg 393 16)) 395 ((3 + 4 * i) + 2) ((zup sg 395 ((3 + 4 * i) + 1) (sg 393 16)) 393 17)) 393 18))) (x := 1) (Ps := [zOb (zN sg) 393 10 ∧ (zN sg).2.2 393 3 = true, zOb (zN sg) 393 10, zIn (zN sg) 395 0 ((3 + 4 * i) + 1), zOb (zN (zup sg 395 ((3 + 4 * i) + 1) (sg 393 16))) 393 10 ∧ (zN (zup sg 395 ((3 + 4 * i) + 1) (sg 393 16))).2.2 393 3 = true, zOb (zN (zup sg 395 ((3 + 4 * i) + 1) (sg 393 16))) 393 10, zIn (zN (zup sg 395 ((3 + 4 * i) + 1) (sg 393 16))) 395 0 ((3 + 4 * i) + 2), zOb (zN (zup (zup sg 395 ((3 + 4 * i) + 1) (sg 393 16)) 395 ((3 + 4 * i) + 2) ((zup sg 395 ((3 + 4 * i) + 1) (sg 393 16)) 393 17))) 393 10 ∧ (zN (zup (zup sg 395 ((3 + 4 * i) + 1) (sg 393 16)) 395 ((3 + 4 * i) + 2) ((zup sg 395 ((3 + 4 * i) + 1) (sg 393 16)) 393 17))).2.2 393 3 = true, zOb (zN (zup (zup sg 395 ((3 + 4 * i) + 1) (sg 393 16)) 395 ((3 + 4 * i) + 2) ((zup sg 395 ((3 + 4 * i) + 1) (sg 393 16)) 393 17))) 393 10, zIn (zN (zup (zup sg 395 ((3 + 4 * i) + 1) (sg 393 16)) 395 ((3 + 4 * i) + 2) ((zup sg 395 ((3 + 4 * i) + 1) (sg 393 16)) 393 17))) 395 0 ((3 + 4 * i) + 3)]) rfl (zA ⟨zob_393, rfl⟩ (zA zob_393 (zA (zin_395 (i := (3 + 4 * i) + 1) (by lia) (by lia)) (zA ⟨zob_393, rfl⟩ (zA zob_393 (zA (zin_395 (i := (3 + 4 * i) + 2) (by lia) (by lia)) (zA ⟨zob_393, rfl⟩ (zA zob_393 (zA (zin_395 (i := (3 + 4 * i) + 3) (by lia) (by lia)) trivial))))))))) (fun c7 => ?_) (fun c7 => ?_)
        · exact absurd c7 (by decide)
        · skip
          refine zb_iret bkMo_layPaint_96 bdMo_layPaint_101 rfl (x := 1) (h' := zN (zup (zup (zup sg 395 ((3 + 4 * i) + 1) (sg 393 16)) 395 ((3 + 4 * i) + 2) ((zup sg 395 ((3 + 4 * i) + 1) (sg 393 16)) 393 17)) 395 ((3 + 4 * i) + 3) ((zup (zup sg 395 ((3 + 4 * i) + 1) (sg 393 16)) 395 ((3 + 4 * i) + 2) ((zup sg 395 ((3 + 4 * i) + 1) (sg 393 16)) 393 17)) 393 18))) (Ps := []) rfl trivial rfl ?_
          refine ⟨?_, ?_⟩
          · unfold vLp mRw mT; simp only [Prod.mk.injEq]; grind
          · unfold hLp; simp only [zup_a (show (393 : Nat) ≠ 395 by decide)]
/-- the paints of f .. t less 1 become F -/
def mPn (sg sg' : zSig) (f t : Int32) (F : Int32 → z3) : Prop := (∀ c j, c ≠ 395 → (c ≠ 393 ∨ (j ≠ 16 ∧ j ≠ 17 ∧ j ≠ 18)) → sg' c j = sg c j) ∧ (∀ j, (∀ i x, f ≤ i → i < t → 1 ≤ x → x ≤ 3 → j ≠ 3 + 4 * i + x) → sg' 395 j = sg 395 j) ∧ ∀ i, f ≤ i → i < t → mRw sg' i = F i
theorem mPn_0 {sg : zSig} {f : Int32} {F : Int32 → z3} : mPn sg sg f f F := ⟨fun _ _ _ _ => rfl, fun _ _ => rfl, fun i i0 i1 => by exfalso; lia⟩
theorem hLp_o {sg : zSig} {i j : Int32} (h1 : j ≠ 3 + 4 * i + 1) (h2 : j ≠ 3 + 4 * i + 2) (h3 : j ≠ 3 + 4 * i + 3) : hLp sg i 395 j = sg 395 j := by
  unfold hLp; rw [zup_i h3, zup_i h2, zup_i h1]
theorem hLp_f {sg : zSig} {i j : Int32} {c : Nat} (h : c ≠ 395) : hLp sg i c j = sg c j := by
  unfold hLp; rw [zup_a h, zup_a h, zup_a h]
theorem hLp_r {sg : zSig} {i : Int32} : mRw (hLp sg i) i = mT sg := by
  unfold mRw hLp mT
  rw [zup_s, zup_o (by decide), zup_o (by decide), zup_s, zup_o (by decide), zup_s]
theorem hLp_n {sg : zSig} {i k : Int32} (i0 : 0 ≤ i) (i1 : i < 200) (k0 : 0 ≤ k) (k1 : k < 200) (h : k ≠ i) : mRw (hLp sg i) k = mRw sg k := by
  have hn : ∀ x f, 0 ≤ x → x < 4 → 0 ≤ f → f < 4 → 3 + 4 * k + x ≠ 3 + 4 * i + f := fun x f x0 x1 f0 f1 e => h (z3e x0 x1 (by lia) (by lia) (by lia) (by lia) f f0 f1 e).1
  unfold mRw
  rw [hLp_o, hLp_o, hLp_o] <;> exact hn _ _ (by decide) (by decide) (by decide) (by decide)
theorem mRw_c {sg sg' : zSig} {i : Int32} (h : ∀ j, sg' 395 j = sg 395 j) : mRw sg' i = mRw sg i := by unfold mRw; rw [h, h, h]
theorem mPn_s {sg sg1 sg2 : zSig} {f i : Int32} {F : Int32 → z3} (f0 : 0 ≤ f) (fi : f ≤ i) (i1 : i < 200) (h : mPn sg sg1 f i F) (hf : mFr sg1 sg2) (ht : mT sg2 = F i) : mPn sg (hLp sg2 i) f (i + 1) F := by
  have he : ∀ j, sg2 395 j = sg1 395 j := fun j => hf 395 j (Or.inl (by decide))
  refine ⟨fun c j h1 h2 => ?_, fun j hj => ?_, fun k k0 k1 => ?_⟩
  · rw [hLp_f h1, hf c j h2]; exact h.1 c j h1 h2
  · rw [hLp_o (hj i 1 (by lia) (by lia) (by decide) (by decide)) (hj i 2 (by lia) (by lia) (by decide) (by decide)) (hj i 3 (by lia) (by lia) (by decide) (by decide)), he]
    exact h.2.1 j (fun k x k0 k1 x0 x1 => hj k x k0 (by lia) x0 x1)
  · by_cases hk : k = i
    · rw [hk, hLp_r]; exact ht
    · rw [hLp_n (by lia) (by lia) (by lia) (by lia) hk, mRw_c he]; exact h.2.2 k k0 (by lia)
theorem mPn_un {sg sg1 : zSig} {f i k : Int32} {F : Int32 → z3} (h : mPn sg sg1 f i F) (f0 : 0 ≤ f) (i1 : i ≤ 200) (hk0 : 0 ≤ k) (hk1 : k < 200) (hk : k < f ∨ i ≤ k) : mRw sg1 k = mRw sg k := by
  have hn : ∀ x, 1 ≤ x → x ≤ 3 → sg1 395 (3 + 4 * k + x) = sg 395 (3 + 4 * k + x) := fun x x0 x1 => h.2.1 _ (fun a y a0 a1 y0 y1 e => by
    have := (z3e (by lia) (by lia) (by lia) (by lia) (by lia) (by lia) y (by lia) (by lia) e).1
    lia)
  unfold mRw
  rw [hn 1 (by decide) (by decide), hn 2 (by decide) (by decide), hn 3 (by decide) (by decide)]
theorem mPn_hi {sg sg1 : zSig} {f i j : Int32} {F : Int32 → z3} (h : mPn sg sg1 f i F) (f0 : 0 ≤ f) (i1 : i ≤ 200) (hj : j < 3 ∨ 803 ≤ j) : sg1 395 j = sg 395 j := h.2.1 j (fun a y a0 a1 y0 y1 e => by lia)
def nPm (sg : zSig) (f on of co gr i a : Int32) : Int32 := if f ≤ i then a + (if mRw sg i = mLk on of co gr (mRw sg i) then 0 else 1) else a
theorem nPm_0 {sg : zSig} {f on of co gr : Int32} (f0 : 0 ≤ f) : zit (nPm sg f on of co gr) 0 f = 0 := zit_id f0 (fun i x _ h => by unfold nPm; rw [if_neg (by lia)])
theorem bkMo_paint_5 : zBk mMo_paint 5 [(1, 0, 1, 0, 0), (1, 1, 0, 0, 0), (1, 2, 0, 0, 0)] = some 8 := by decide +kernel
theorem bkMo_paint_11 : zBk mMo_paint 11 [] = some 11 := by decide +kernel
theorem bkMo_paint_27 : zBk mMo_paint 27 [(1, 0, 1, 0, 0), (0, 0, 0, 0, -1)] = some 29 := by decide +kernel
theorem bkMo_paint_32 : zBk mMo_paint 32 [] = some 32 := by decide +kernel
theorem bkMo_paint_14 : zBk mMo_paint 14 [(1, 3, 0, 0, 0), (1, 4, 0, 0, 0), (1, 5, 0, 0, 0), (1, 6, 0, 0, 0)] = some 21 := by decide +kernel
theorem bkMo_paint_24 : zBk mMo_paint 24 [] = some 24 := by decide +kernel
theorem bkMo_paint_33 : zBk mMo_paint 33 [(1, 0, 1, 0, 0), (0, 0, 0, 0, 7)] = some 36 := by decide +kernel
theorem bkMo_paint_39 : zBk mMo_paint 39 [(0, 0, 0, 0, 0), (2, 7, 0, 0, 0), (1, 1, 0, 0, 0), (2, 8, 0, 0, 0)] = some 45 := by decide +kernel
theorem bkMo_paint_45 : zBk mMo_paint 45 [(1, 8, 0, 0, 0), (1, 2, 0, 0, 0)] = some 48 := by decide +kernel
theorem bkMo_paint_85 : zBk mMo_paint 85 [(1, 0, 1, 0, 0), (1, 7, 0, 0, 0)] = some 88 := by decide +kernel
theorem bkMo_paint_91 : zBk mMo_paint 91 [] = some 91 := by decide +kernel
theorem bkMo_paint_51 : zBk mMo_paint 51 [(1, 0, 1, 0, 0), (1, 8, 0, 0, 0)] = some 54 := by decide +kernel
theorem bkMo_paint_57 : zBk mMo_paint 57 [(1, 0, 1, 0, 0), (1, 3, 0, 0, 0), (1, 4, 0, 0, 0), (1, 5, 0, 0, 0), (1, 6, 0, 0, 0)] = some 65 := by decide +kernel
theorem bkMo_paint_68 : zBk mMo_paint 68 [(1, 7, 0, 0, 0), (1, 0, 1, 0, 0), (1, 8, 0, 0, 0)] = some 73 := by decide +kernel
theorem bkMo_paint_76 : zBk mMo_paint 76 [(4, 0, 0, 0, 0), (2, 7, 0, 0, 0), (3, 8, 0, 0, 1), (22, 45, 0, 0, 0)] = some 45 := by decide +kernel
theorem bkMo_paint_0 : zBk mMo_paint 0 [(1, 0, 1, 0, 0), (0, 0, 0, 0, 0), (6, 10, 0, 0, 0)] = some 5 := by decide +kernel
theorem bdMo_paint_8 : decode mMo_paint.2.2.1 8 = .ok (.invokevirtual 144, 3) := by decide +kernel
theorem bdMo_paint_11 : decode mMo_paint.2.2.1 11 = .ok (.ifCond .eq 16, 3) := by decide +kernel
theorem bdMo_paint_21 : decode mMo_paint.2.2.1 21 = .ok (.invokestatic 169, 3) := by decide +kernel
theorem bdMo_paint_24 : decode mMo_paint.2.2.1 24 = .ok (.ifCond .ne 9, 3) := by decide +kernel
theorem bdMo_paint_29 : decode mMo_paint.2.2.1 29 = .ok (.invokevirtual 80, 3) := by decide +kernel
theorem bdMo_paint_32 : decode mMo_paint.2.2.1 32 = .ok (.ireturn, 1) := by decide +kernel
theorem bdMo_paint_36 : decode mMo_paint.2.2.1 36 = .ok (.invokevirtual 127, 3) := by decide +kernel
theorem bdMo_paint_48 : decode mMo_paint.2.2.1 48 = .ok (.if_icmp .ge 37, 3) := by decide +kernel
theorem bdMo_paint_54 : decode mMo_paint.2.2.1 54 = .ok (.invokevirtual 186, 3) := by decide +kernel
theorem bdMo_paint_65 : decode mMo_paint.2.2.1 65 = .ok (.invokevirtual 192, 3) := by decide +kernel
theorem bdMo_paint_73 : decode mMo_paint.2.2.1 73 = .ok (.invokevirtual 200, 3) := by decide +kernel
theorem bdMo_paint_88 : decode mMo_paint.2.2.1 88 = .ok (.invokevirtual 84, 3) := by decide +kernel
theorem bdMo_paint_91 : decode mMo_paint.2.2.1 91 = .ok (.ireturn, 1) := by decide +kernel
theorem lMo_paint {sg : zSig} {f t on of co gr : Int32} (n0 : 0 ≤ sg 395 0) (n2 : sg 395 0 ≤ 200) (g0 : 0 ≤ sg 395 1) (g1 : sg 395 1 ≤ 16) (a0 : 0 ≤ sg 395 2) (a1 : sg 395 2 ≤ 12) (b0 : 0 ≤ sg 393 6) (b1 : sg 393 6 ≤ 8) {Q : Option Value → zHp → Prop} (hq : ∀ rr h', ((rr = some (.int (-1)) ∧ h' = zN (hRef sg (-1)) ∧ (¬ ((0 ≤ f ∧ f < t ∧ t ≤ sg 395 0) ∧ (0 ≤ on ∧ on ≤ 15) ∧ (0 ≤ of ∧ of ≤ 15) ∧ (-1 ≤ co ∧ co ≤ 7) ∧ -3 ≤ gr ∧ gr ≤ 3))) ∨ (((0 ≤ f ∧ f < t ∧ t ≤ sg 395 0) ∧ (0 ≤ on ∧ on ≤ 15) ∧ (0 ≤ of ∧ of ≤ 15) ∧ (-1 ≤ co ∧ co ≤ 7) ∧ -3 ≤ gr ∧ gr ≤ 3) ∧ ∃ sg1 sg2, mRem sg sg1 7 ∧ mPn sg1 sg2 f t (fun i => mLk on of co gr (mRw sg1 i)) ∧ rr = some (.int (zit (nPm sg1 f on of co gr) 0 t)) ∧ h' = zN (hTell sg2))) → Q rr h') : zG mMo_paint 411 Q 5 [(0, .ref 393), (1, .int f), (2, .int t), (3, .int on), (4, .int of), (5, .int co), (6, .int gr)] [] (zN sg) := by
  refine zG_run bkMo_paint_5 (lv' := [(0, .ref 393), (1, .int f), (2, .int t), (3, .int on), (4, .int of), (5, .int co), (6, .int gr)]) (st' := [.int t, .int f, .ref 393]) (h' := zN sg) (Ps := []) rfl trivial ?_
  refine zG_callv (a := 393) (c := 10) (As := [.int f, .int t]) (rest := []) (N2 := 411) bdMo_paint_8 okMo_isRange lk10_144 (And.intro (by decide) (by decide)) (by decide) rfl rfl rfl (Nat.le_of_ble_eq_true rfl) (Nat.le_of_ble_eq_true rfl) (Nat.le_refl 411) (Nat.le_refl 411) zob_393 cMo_isRange ?_
  rintro rr h' ⟨rfl, rfl⟩ -
  refine zb_ifeq (tgt := 27) bkMo_paint_11 bdMo_paint_11 (by decide) (lv' := [(0, .ref 393), (1, .int f), (2, .int t), (3, .int on), (4, .int of), (5, .int co), (6, .int gr)]) (st' := []) (h' := zN sg) (x := if 0 ≤ f ∧ f < t ∧ t ≤ sg 395 0 then 1 else 0) (Ps := []) rfl trivial (fun c1 => ?_) (fun c1 => ?_)
  · skip
    refine zG_run bkMo_paint_27 (lv' := [(0, .ref 393), (1, .int f), (2, .int t), (3, .int on), (4, .int of), (5, .int co), (6, .int gr)]) (st' := [.int (-1), .ref 393]) (h' := zN sg) (Ps := []) rfl trivial ?_
    refine zG_callv (a := 393) (c := 10) (As := [.int (-1)]) (rest := []) (N2 := 411) bdMo_paint_29 okMo_refuse lk10_80 (And.intro (by decide) (by decide)) (by decide) rfl rfl rfl (Nat.le_of_ble_eq_true rfl) (Nat.le_of_ble_eq_true rfl) (Nat.le_refl 411) (Nat.le_refl 411) zob_393 (cMo_refuse (by decide) (by decide)) ?_
    rintro rr h' ⟨rfl, rfl⟩ -
    refine zb_iret bkMo_paint_32 bdMo_paint_32 rfl (x := (-1)) (h' := zN (hRef sg (-1))) (Ps := []) rfl trivial rfl ?_
    refine hq _ _ ?_
    exact Or.inl ⟨rfl, rfl, by grind⟩
  · skip
    refine zG_run bkMo_paint_14 (lv' := [(0, .ref 393), (1, .int f), (2, .int t), (3, .int on), (4, .int of), (5, .int co), (6, .int gr)]) (st' := [.int gr, .int co, .int of, .int on]) (h' := zN sg) (Ps := []) rfl trivial ?_
    refine zG_calls (As := [.int on, .int of, .int co, .int gr]) (rest := []) (N2 := 411) bdMo_paint_21 okMo_isLook lk10_169 (And.intro (by decide) (by decide)) rfl rfl (Nat.le_of_ble_eq_true rfl) (Nat.le_of_ble_eq_true rfl) (Nat.le_refl 411) (Nat.le_refl 411) cMo_isLook ?_
    rintro rr h' ⟨rfl, rfl⟩ -
    refine zb_ifne (tgt := 33) bkMo_paint_24 bdMo_paint_24 (by decide) (lv' := [(0, .ref 393), (1, .int f), (2, .int t), (3, .int on), (4, .int of), (5, .int co), (6, .int gr)]) (st' := []) (h' := zN sg) (x := if (0 ≤ on ∧ on ≤ 15) ∧ (0 ≤ of ∧ of ≤ 15) ∧ (-1 ≤ co ∧ co ≤ 7) ∧ -3 ≤ gr ∧ gr ≤ 3 then 1 else 0) (Ps := []) rfl trivial (fun c2 => ?_) (fun c2 => ?_)
    · skip
      have hc : (0 ≤ f ∧ f < t ∧ t ≤ sg 395 0) ∧ (0 ≤ on ∧ on ≤ 15) ∧ (0 ≤ of ∧ of ≤ 15) ∧ (-1 ≤ co ∧ co ≤ 7) ∧ -3 ≤ gr ∧ gr ≤ 3 := by grind (splits := 40)
      refine zG_run bkMo_paint_33 (lv' := [(0, .ref 393), (1, .int f), (2, .int t), (3, .int on), (4, .int of), (5, .int co), (6, .int gr)]) (st' := [.int 7, .ref 393]) (h' := zN sg) (Ps := []) rfl trivial ?_
      refine zG_callv (a := 393) (c := 10) (As := [.int 7]) (rest := []) (N2 := 411) bdMo_paint_36 okMo_remember lk10_127 (And.intro (by decide) (by decide)) (by decide) rfl rfl rfl (Nat.le_of_ble_eq_true rfl) (Nat.le_of_ble_eq_true rfl) (Nat.le_refl 411) (Nat.le_refl 411) zob_393 (cMo_remember (s := 7) b0 b1) ?_
      rintro rr h' ⟨sg1, rfl, rfl, hb⟩ -
      have fb := hb.1
      have ub := mRem_u b0 b1 hb
      have x0 : sg1 395 0 = sg 395 0 := fb 395 0 (by decide) (by decide) (by decide) (by decide)
      have x1 : sg1 395 1 = sg 395 1 := fb 395 1 (by decide) (by decide) (by decide) (by decide)
      have x2 : sg1 395 2 = sg 395 2 := fb 395 2 (by decide) (by decide) (by decide) (by decide)
      have xt : sg1 393 11 = sg 393 11 := fb 393 11 (by decide) (by decide) (by decide) (by decide)
      refine zG_run bkMo_paint_39 (lv' := [(8, .int f), (7, .int 0), (0, .ref 393), (1, .int f), (2, .int t), (3, .int on), (4, .int of), (5, .int co), (6, .int gr)]) (st' := []) (h' := zN sg1) (Ps := []) rfl trivial ?_
      refine zG_pick (lv' := [(0, .ref 393), (1, .int f), (2, .int t), (3, .int on), (4, .int of), (5, .int co), (6, .int gr), (7, .int 0), (8, .int f)]) [2, 3, 4, 5, 6, 7, 8, 1, 0] rfl ?_
      refine zlp3 (fun (a : Int32) (i : Int32) (sg3 : zSig) => zG mMo_paint 411 Q 45 [(0, .ref 393), (1, .int f), (2, .int t), (3, .int on), (4, .int of), (5, .int co), (6, .int gr), (7, .int a), (8, .int i)] [] (zN sg3)) (fun (a : Int32) (i : Int32) (sg3 : zSig) => (f ≤ i) ∧ (i ≤ t) ∧ (mPn sg1 sg3 f i (fun i => mLk on of co gr (mRw sg1 i))) ∧ (a = zit (nPm sg1 f on of co gr) 0 i)) (fun (a : Int32) (i : Int32) (sg3 : zSig) => zmu t i) ?_ 0 f sg1 ?_
      · intro a i sg3 hk ihk
        obtain ⟨i0, i1, kz, kn⟩ := hk
        refine zb_icge (tgt := 85) bkMo_paint_45 bdMo_paint_48 (by decide) (lv' := [(0, .ref 393), (1, .int f), (2, .int t), (3, .int on), (4, .int of), (5, .int co), (6, .int gr), (7, .int a), (8, .int i)]) (st' := []) (h' := zN sg3) (x := i) (y := t) (Ps := []) rfl trivial (fun c3 => ?_) (fun c3 => ?_)
        · skip
          refine zG_run bkMo_paint_85 (lv' := [(0, .ref 393), (1, .int f), (2, .int t), (3, .int on), (4, .int of), (5, .int co), (6, .int gr), (7, .int a), (8, .int i)]) (st' := [.int a, .ref 393]) (h' := zN sg3) (Ps := []) rfl trivial ?_
          refine zG_callv (a := 393) (c := 10) (As := [.int a]) (rest := []) (N2 := 411) bdMo_paint_88 okMo_tell lk10_84 (And.intro (by decide) (by decide)) (by decide) rfl rfl rfl (Nat.le_of_ble_eq_true rfl) (Nat.le_of_ble_eq_true rfl) (Nat.le_refl 411) (Nat.le_refl 411) zob_393 cMo_tell ?_
          rintro rr h' ⟨rfl, rfl⟩ -
          refine zb_iret bkMo_paint_91 bdMo_paint_91 rfl (x := a) (h' := zN (hTell sg3)) (Ps := []) rfl trivial rfl ?_
          refine hq _ _ ?_
          have ei : i = t := by lia
          rw [ei] at kz kn
          exact Or.inr ⟨hc, sg1, sg3, hb, kz, by rw [kn], rfl⟩
        · skip
          refine zG_run bkMo_paint_51 (lv' := [(0, .ref 393), (1, .int f), (2, .int t), (3, .int on), (4, .int of), (5, .int co), (6, .int gr), (7, .int a), (8, .int i)]) (st' := [.int i, .ref 393]) (h' := zN sg3) (Ps := []) rfl trivial ?_
          refine zG_callv (a := 393) (c := 10) (As := [.int i]) (rest := []) (N2 := 411) bdMo_paint_54 okMo_takePaint lk10_186 (And.intro (by decide) (by decide)) (by decide) rfl rfl rfl (Nat.le_of_ble_eq_true rfl) (Nat.le_of_ble_eq_true rfl) (Nat.le_refl 411) (Nat.le_refl 411) zob_393 (cMo_takePaint (i := i) (by lia) (by lia)) ?_
          rintro rr h' ⟨sg4, rfl, rfl, hf4, ht4⟩ -
          refine zG_run bkMo_paint_57 (lv' := [(0, .ref 393), (1, .int f), (2, .int t), (3, .int on), (4, .int of), (5, .int co), (6, .int gr), (7, .int a), (8, .int i)]) (st' := [.int gr, .int co, .int of, .int on, .ref 393]) (h' := zN sg4) (Ps := []) rfl trivial ?_
          refine zG_callv (a := 393) (c := 10) (As := [.int on, .int of, .int co, .int gr]) (rest := []) (N2 := 411) bdMo_paint_65 okMo_look lk10_192 (And.intro (by decide) (by decide)) (by decide) rfl rfl rfl (Nat.le_of_ble_eq_true rfl) (Nat.le_of_ble_eq_true rfl) (Nat.le_refl 411) (Nat.le_refl 411) zob_393 (cMo_look (n := on) (f := of) (c := co) (g := gr)) ?_
          rintro rr h' ⟨sg5, rfl, rfl, hf5, ht5⟩ -
          refine zG_run bkMo_paint_68 (lv' := [(0, .ref 393), (1, .int f), (2, .int t), (3, .int on), (4, .int of), (5, .int co), (6, .int gr), (7, .int a), (8, .int i)]) (st' := [.int i, .ref 393, .int a]) (h' := zN sg5) (Ps := []) rfl trivial ?_
          refine zG_callv (a := 393) (c := 10) (As := [.int i]) (rest := [.int a]) (N2 := 411) bdMo_paint_73 okMo_layPaint lk10_200 (And.intro (by decide) (by decide)) (by decide) rfl rfl rfl (Nat.le_of_ble_eq_true rfl) (Nat.le_of_ble_eq_true rfl) (Nat.le_refl 411) (Nat.le_refl 411) zob_393 (cMo_layPaint (i := i) (by lia) (by lia)) ?_
          rintro rr h' ⟨rfl, rfl⟩ -
          refine zG_run bkMo_paint_76 (lv' := [(8, .int (i + 1)), (7, .int (a + (vLp sg5 i))), (0, .ref 393), (1, .int f), (2, .int t), (3, .int on), (4, .int of), (5, .int co), (6, .int gr)]) (st' := []) (h' := zN (hLp sg5 i)) (Ps := []) rfl trivial ?_
          refine zG_pick (lv' := [(0, .ref 393), (1, .int f), (2, .int t), (3, .int on), (4, .int of), (5, .int co), (6, .int gr), (7, .int (a + (vLp sg5 i))), (8, .int (i + 1))]) [2, 3, 4, 5, 6, 7, 8, 1, 0] rfl ?_
          refine ihk (a + (vLp sg5 i)) (i + 1) (hLp sg5 i) ?_ ?_
          · refine ⟨?_, ?_, ?_, ?_⟩
            · lia
            · lia
            · exact mPn_s hc.1.1 i0 (by lia) kz (mFr_trans hf4 hf5) (by rw [ht5, ht4, mPn_un kz (by lia) (by lia) (by lia) (by lia) (Or.inr (Int32.le_refl i))])
            · have e5 : ∀ j, sg5 395 j = sg3 395 j := fun j => (mFr_trans hf4 hf5) 395 j (Or.inl (by decide))
              rw [zit_s _ _ (by lia) (by lia : i < t), ← kn]
              unfold nPm vLp; rw [if_pos i0, ht5, ht4, mRw_c e5, mPn_un kz (by lia) (by lia) (by lia) (by lia) (Or.inr (Int32.le_refl i))]
          · exact zmu_up (by lia)
      · refine ⟨?_, ?_, ?_, ?_⟩
        · lia
        · lia
        · exact mPn_0
        · exact (nPm_0 hc.1.1).symm
    · skip
      refine zG_run bkMo_paint_27 (lv' := [(0, .ref 393), (1, .int f), (2, .int t), (3, .int on), (4, .int of), (5, .int co), (6, .int gr)]) (st' := [.int (-1), .ref 393]) (h' := zN sg) (Ps := []) rfl trivial ?_
      refine zG_callv (a := 393) (c := 10) (As := [.int (-1)]) (rest := []) (N2 := 411) bdMo_paint_29 okMo_refuse lk10_80 (And.intro (by decide) (by decide)) (by decide) rfl rfl rfl (Nat.le_of_ble_eq_true rfl) (Nat.le_of_ble_eq_true rfl) (Nat.le_refl 411) (Nat.le_refl 411) zob_393 (cMo_refuse (by decide) (by decide)) ?_
      rintro rr h' ⟨rfl, rfl⟩ -
      refine zb_iret bkMo_paint_32 bdMo_paint_32 rfl (x := (-1)) (h' := zN (hRef sg (-1))) (Ps := []) rfl trivial rfl ?_
      refine hq _ _ ?_
      exact Or.inl ⟨rfl, rfl, by grind⟩
theorem bMo_paint {sg : zSig} {f t on of co gr : Int32} (n0 : 0 ≤ sg 395 0) (n2 : sg 395 0 ≤ 200) (g0 : 0 ≤ sg 395 1) (g1 : sg 395 1 ≤ 16) (a0 : 0 ≤ sg 395 2) (a1 : sg 395 2 ≤ 12) (b0 : 0 ≤ sg 393 6) (b1 : sg 393 6 ≤ 8) : zG mMo_paint 411 (fun rr h' => (rr = some (.int (-1)) ∧ h' = zN (hRef sg (-1)) ∧ (¬ ((0 ≤ f ∧ f < t ∧ t ≤ sg 395 0) ∧ (0 ≤ on ∧ on ≤ 15) ∧ (0 ≤ of ∧ of ≤ 15) ∧ (-1 ≤ co ∧ co ≤ 7) ∧ -3 ≤ gr ∧ gr ≤ 3))) ∨ (((0 ≤ f ∧ f < t ∧ t ≤ sg 395 0) ∧ (0 ≤ on ∧ on ≤ 15) ∧ (0 ≤ of ∧ of ≤ 15) ∧ (-1 ≤ co ∧ co ≤ 7) ∧ -3 ≤ gr ∧ gr ≤ 3) ∧ ∃ sg1 sg2, mRem sg sg1 7 ∧ mPn sg1 sg2 f t (fun i => mLk on of co gr (mRw sg1 i)) ∧ rr = some (.int (zit (nPm sg1 f on of co gr) 0 t)) ∧ h' = zN (hTell sg2))) 5 [(0, .ref 393), (1, .int f), (2, .int t), (3, .int on), (4, .int of), (5, .int co), (6, .int gr)] [] (zN sg) := lMo_paint n0 n2 g0 g1 a0 a1 b0 b1 (fun _ _ q => q)
theorem tMo_paint {sg : zSig} {f t on of co gr : Int32} {Q : Option Value → zHp → Prop} (g : zG mMo_paint 411 Q 5 [(0, .ref 393), (1, .int f), (2, .int t), (3, .int on), (4, .int of), (5, .int co), (6, .int gr)] [] (zN (zup sg 393 0 0))) : zG mMo_paint 411 Q 0 [(0, .ref 393), (1, .int f), (2, .int t), (3, .int on), (4, .int of), (5, .int co), (6, .int gr)] [] (zN sg) :=
  zG_run bkMo_paint_0 (lv' := [(0, .ref 393), (1, .int f), (2, .int t), (3, .int on), (4, .int of), (5, .int co), (6, .int gr)]) (st' := []) (h' := zN (zup sg 393 0 0)) (Ps := [zOb (zN sg) 393 10]) rfl (zA zob_393 trivial) g
theorem mS1_c {sg sg' : zSig} {but i lay k : Int32} {t : z3} (h : ∀ j, 803 ≤ j → sg' 395 j = sg 395 j) (k0 : 0 ≤ k) (k1 : k < 16) : mS1 sg' but i lay k t = mS1 sg but i lay k t := by
  have e : ∀ f, 0 ≤ f → f < 9 → sg' 395 (803 + 9 * k + f) = sg 395 (803 + 9 * k + f) := fun f f0 f1 => h _ (sp_rng k0 k1 f0 f1).1
  unfold mS1
  rw [e 1 (by decide) (by decide), e 2 (by decide) (by decide), e 3 (by decide) (by decide), e 4 (by decide) (by decide), e 5 (by decide) (by decide), e 6 (by decide) (by decide), e 7 (by decide) (by decide), h (803 + 9 * k) (by lia)]
theorem mS_c {sg sg' : zSig} {but i : Int32} (h : ∀ j, 803 ≤ j → sg' 395 j = sg 395 j) (h1 : sg' 395 1 = sg 395 1) (g0 : 0 ≤ sg 395 1) (g1 : sg 395 1 ≤ 16) (hr : mRw sg' i = mRw sg i) : mS sg' but i = mS sg but i := by
  unfold mS
  rw [hr]
  refine zit_congr (by decide) (fun lay t l0 l1 => ?_)
  unfold mS2
  rw [h1]
  exact zit_congr g0 (fun k t k0 k1 => mS1_c h k0 (by lia))
/-- all spans fall -/
def mZs (sg sg' : zSig) : Prop := (∀ c j, c ≠ 395 → sg' c j = sg c j) ∧ (∀ j, j < 803 → sg' 395 j = sg 395 j) ∧ (∀ j, 947 ≤ j → sg' 395 j = sg 395 j) ∧ ∀ k, 0 ≤ k → k < sg 395 1 → sg' 395 (803 + 9 * k) = 0
theorem bkMo_fast_5 : zBk mMo_fast 5 [(1, 0, 1, 0, 0), (0, 0, 0, 0, 8)] = some 8 := by decide +kernel
theorem bkMo_fast_11 : zBk mMo_fast 11 [(1, 0, 1, 0, 0)] = some 12 := by decide +kernel
theorem bkMo_fast_15 : zBk mMo_fast 15 [(2, 1, 0, 0, 0), (0, 0, 0, 0, 0), (2, 2, 0, 0, 0)] = some 18 := by decide +kernel
theorem bkMo_fast_18 : zBk mMo_fast 18 [(1, 2, 0, 0, 0), (1, 0, 1, 0, 0), (5, 10, 3, 2, 3), (0, 0, 0, 0, 0), (7, 0, 0, 0, 0)] = some 25 := by decide +kernel
theorem bkMo_fast_46 : zBk mMo_fast 46 [(0, 0, 0, 0, 0), (2, 2, 0, 0, 0)] = some 48 := by decide +kernel
theorem bkMo_fast_48 : zBk mMo_fast 48 [(1, 2, 0, 0, 0), (1, 0, 1, 0, 0), (5, 10, 3, 2, 3), (0, 0, 0, 0, 1), (7, 0, 0, 0, 0)] = some 55 := by decide +kernel
theorem bkMo_fast_74 : zBk mMo_fast 74 [(1, 1, 0, 0, 0)] = some 75 := by decide +kernel
theorem bkMo_fast_58 : zBk mMo_fast 58 [(1, 0, 1, 0, 0), (5, 10, 3, 2, 3), (1, 2, 0, 0, 0)] = some 63 := by decide +kernel
theorem bkMo_fast_66 : zBk mMo_fast 66 [(0, 0, 0, 0, 0), (8, 0, 0, 0, 0), (3, 2, 0, 0, 1), (22, 48, 0, 0, 0)] = some 48 := by decide +kernel
theorem bkMo_fast_28 : zBk mMo_fast 28 [(1, 0, 1, 0, 0), (1, 2, 0, 0, 0), (0, 0, 0, 0, -1)] = some 31 := by decide +kernel
theorem bkMo_fast_34 : zBk mMo_fast 34 [(1, 0, 1, 0, 0), (1, 2, 0, 0, 0)] = some 36 := by decide +kernel
theorem bkMo_fast_39 : zBk mMo_fast 39 [(20, 0, 0, 0, 0), (3, 2, 0, 0, 1), (22, 18, 0, 0, 0)] = some 18 := by decide +kernel
theorem bkMo_fast_0 : zBk mMo_fast 0 [(1, 0, 1, 0, 0), (0, 0, 0, 0, 0), (6, 10, 0, 0, 0)] = some 5 := by decide +kernel
theorem bdMo_fast_8 : decode mMo_fast.2.2.1 8 = .ok (.invokevirtual 127, 3) := by decide +kernel
theorem bdMo_fast_12 : decode mMo_fast.2.2.1 12 = .ok (.invokevirtual 173, 3) := by decide +kernel
theorem bdMo_fast_25 : decode mMo_fast.2.2.1 25 = .ok (.if_icmp .ge 21, 3) := by decide +kernel
theorem bdMo_fast_31 : decode mMo_fast.2.2.1 31 = .ok (.invokevirtual 196, 3) := by decide +kernel
theorem bdMo_fast_36 : decode mMo_fast.2.2.1 36 = .ok (.invokevirtual 200, 3) := by decide +kernel
theorem bdMo_fast_55 : decode mMo_fast.2.2.1 55 = .ok (.if_icmp .ge 19, 3) := by decide +kernel
theorem bdMo_fast_63 : decode mMo_fast.2.2.1 63 = .ok (.invokestatic 91, 3) := by decide +kernel
theorem bdMo_fast_75 : decode mMo_fast.2.2.1 75 = .ok (.ireturn, 1) := by decide +kernel
theorem lMo_fast {sg : zSig}  (n0 : 0 ≤ sg 395 0) (n2 : sg 395 0 ≤ 200) (g0 : 0 ≤ sg 395 1) (g1 : sg 395 1 ≤ 16) (a0 : 0 ≤ sg 395 2) (a1 : sg 395 2 ≤ 12) (b0 : 0 ≤ sg 393 6) (b1 : sg 393 6 ≤ 8) {Q : Option Value → zHp → Prop} (hq : ∀ rr h', (∃ sg1 sg2 sg3, mRem sg sg1 8 ∧ mPn sg1 sg2 0 (sg 395 0) (mS sg1 (-1)) ∧ mZs sg2 sg3 ∧ rr = some (.int (zit (mNs sg1) 0 (sg 395 1))) ∧ h' = zN sg3) → Q rr h') : zG mMo_fast 411 Q 5 [(0, .ref 393)] [] (zN sg) := by
  refine zG_run bkMo_fast_5 (lv' := [(0, .ref 393)]) (st' := [.int 8, .ref 393]) (h' := zN sg) (Ps := []) rfl trivial ?_
  refine zG_callv (a := 393) (c := 10) (As := [.int 8]) (rest := []) (N2 := 411) bdMo_fast_8 okMo_remember lk10_127 (And.intro (by decide) (by decide)) (by decide) rfl rfl rfl (Nat.le_of_ble_eq_true rfl) (Nat.le_of_ble_eq_true rfl) (Nat.le_refl 411) (Nat.le_refl 411) zob_393 (cMo_remember (s := 8) b0 b1) ?_
  rintro rr h' ⟨sg1, rfl, rfl, hb⟩ -
  have fb := hb.1
  have ub := mRem_u b0 b1 hb
  have x0 : sg1 395 0 = sg 395 0 := fb 395 0 (by decide) (by decide) (by decide) (by decide)
  have x1 : sg1 395 1 = sg 395 1 := fb 395 1 (by decide) (by decide) (by decide) (by decide)
  have x2 : sg1 395 2 = sg 395 2 := fb 395 2 (by decide) (by decide) (by decide) (by decide)
  have xt : sg1 393 11 = sg 393 11 := fb 393 11 (by decide) (by decide) (by decide) (by decide)
  refine zG_run bkMo_fast_11 (lv' := [(0, .ref 393)]) (st' := [.ref 393]) (h' := zN sg1) (Ps := []) rfl trivial ?_
  refine zG_callv (a := 393) (c := 10) (As := []) (rest := []) (N2 := 411) bdMo_fast_12 okMo_spans lk10_173 (And.intro (by decide) (by decide)) (by decide) rfl rfl rfl (Nat.le_of_ble_eq_true rfl) (Nat.le_of_ble_eq_true rfl) (Nat.le_refl 411) (Nat.le_refl 411) zob_393 (cMo_spans (by (try rw [zup_i (by lia)]); lia) (by (try rw [zup_i (by lia)]); lia)) ?_
  rintro rr h' ⟨rfl, rfl⟩ -
  refine zG_run bkMo_fast_15 (lv' := [(2, .int 0), (1, .int (zit (mNs sg1) 0 (sg1 395 1))), (0, .ref 393)]) (st' := []) (h' := zN sg1) (Ps := []) rfl trivial ?_
  refine zG_pick (lv' := [(0, .ref 393), (1, .int (zit (mNs sg1) 0 (sg1 395 1))), (2, .int 0)]) [2, 1, 0] rfl ?_
  refine zlp2 (fun (i : Int32) (sg3 : zSig) => zG mMo_fast 411 Q 18 [(0, .ref 393), (1, .int (zit (mNs sg1) 0 (sg1 395 1))), (2, .int i)] [] (zN sg3)) (fun (i : Int32) (sg3 : zSig) => (0 ≤ i) ∧ (i ≤ sg 395 0) ∧ (mPn sg1 sg3 0 i (mS sg1 (-1)))) (fun (i : Int32) (sg3 : zSig) => zmu (sg 395 0) i) ?_ 0 sg1 ?_
  · intro i sg3 hk ihk
    obtain ⟨i0, i1, kz⟩ := hk
    have w0 : sg3 395 0 = sg 395 0 := by rw [mPn_hi kz (by decide) (by lia) (by decide)]; exact x0
    have w1 : sg3 395 1 = sg1 395 1 := mPn_hi kz (by decide) (by lia) (by decide)
    refine zb_icge (tgt := 46) bkMo_fast_18 bdMo_fast_25 (by decide) (lv' := [(0, .ref 393), (1, .int (zit (mNs sg1) 0 (sg1 395 1))), (2, .int i)]) (st' := []) (h' := zN sg3) (x := i) (y := sg3 395 0) (Ps := [zOb (zN sg3) 393 10 ∧ (zN sg3).2.2 393 3 = true, zInL (zN sg3) 395 0]) rfl (zA ⟨zob_393, rfl⟩ (zA (zinL_395 (i := 0) (by decide) (by decide)) trivial)) (fun c1 => ?_) (fun c1 => ?_)
    · skip
      have ei : i = sg 395 0 := by lia
      rw [ei] at kz
      refine zG_run bkMo_fast_46 (lv' := [(2, .int 0), (0, .ref 393), (1, .int (zit (mNs sg1) 0 (sg1 395 1)))]) (st' := []) (h' := zN sg3) (Ps := []) rfl trivial ?_
      refine zG_pick (lv' := [(0, .ref 393), (1, .int (zit (mNs sg1) 0 (sg1 395 1))), (2, .int 0)]) [1, 2, 0] rfl ?_
      refine zlp2 (fun (k : Int32) (sg6 : zSig) => zG mMo_fast 411 Q 48 [(0, .ref 393), (1, .int (zit (mNs sg1) 0 (sg1 395 1))), (2, .int k)] [] (zN sg6)) (fun (k : Int32) (sg6 : zSig) => (0 ≤ k) ∧ (k ≤ sg 395 1) ∧ (∀ c j, c ≠ 395 → sg6 c j = sg3 c j) ∧ (∀ j, (∀ m, 0 ≤ m → m < k → j ≠ 803 + 9 * m) → sg6 395 j = sg3 395 j) ∧ (∀ m, 0 ≤ m → m < k → sg6 395 (803 + 9 * m) = 0)) (fun (k : Int32) (sg6 : zSig) => zmu (sg 395 1) k) ?_ 0 sg3 ?_
      · intro k sg6 hm ihm
        obtain ⟨k0, k1, qf, qz, qq⟩ := hm
        have w6 : sg6 395 1 = sg 395 1 := by rw [qz 1 (fun m m0 m1 => by lia), w1]; exact x1
        refine zb_icge (tgt := 74) bkMo_fast_48 bdMo_fast_55 (by decide) (lv' := [(0, .ref 393), (1, .int (zit (mNs sg1) 0 (sg1 395 1))), (2, .int k)]) (st' := []) (h' := zN sg6) (x := k) (y := sg6 395 1) (Ps := [zOb (zN sg6) 393 10 ∧ (zN sg6).2.2 393 3 = true, zInL (zN sg6) 395 1]) rfl (zA ⟨zob_393, rfl⟩ (zA (zinL_395 (i := 1) (by decide) (by decide)) trivial)) (fun c2 => ?_) (fun c2 => ?_)
        · skip
          refine zb_iret bkMo_fast_74 bdMo_fast_75 rfl (x := zit (mNs sg1) 0 (sg1 395 1)) (h' := zN sg6) (Ps := []) rfl trivial rfl ?_
          refine hq _ _ ?_
          have ek : k = sg 395 1 := by lia
          refine ⟨sg1, sg3, sg6, hb, kz, ⟨qf, fun j hj => qz j (fun m m0 m1 => by lia), fun j hj => qz j (fun m m0 m1 => by lia), fun m m0 m1 => qq m m0 (by lia)⟩, by rw [x1], rfl⟩
        · skip
          refine zG_run bkMo_fast_58 (lv' := [(0, .ref 393), (1, .int (zit (mNs sg1) 0 (sg1 395 1))), (2, .int k)]) (st' := [.int k, .ref 395]) (h' := zN sg6) (Ps := [zOb (zN sg6) 393 10 ∧ (zN sg6).2.2 393 3 = true]) rfl (zA ⟨zob_393, rfl⟩ trivial) ?_
          refine zG_calls (As := [.int k]) (rest := [.ref 395]) (N2 := 411) bdMo_fast_63 okMo_spanAt lk10_91 (And.intro (by decide) (by decide)) rfl rfl (Nat.le_of_ble_eq_true rfl) (Nat.le_of_ble_eq_true rfl) (Nat.le_refl 411) (Nat.le_refl 411) cMo_spanAt ?_
          rintro rr h' ⟨rfl, rfl⟩ -
          refine zG_run bkMo_fast_66 (lv' := [(2, .int (k + 1)), (0, .ref 393), (1, .int (zit (mNs sg1) 0 (sg1 395 1)))]) (st' := []) (h' := zN (zup sg6 395 (803 + 9 * k) 0)) (Ps := [zIn (zN sg6) 395 0 (803 + 9 * k)]) rfl (zA (zin_395 (i := 803 + 9 * k) (by lia) (by lia)) trivial) ?_
          refine zG_pick (lv' := [(0, .ref 393), (1, .int (zit (mNs sg1) 0 (sg1 395 1))), (2, .int (k + 1))]) [1, 2, 0] rfl ?_
          refine ihm (k + 1) (zup sg6 395 (803 + 9 * k) 0) ?_ ?_
          · refine ⟨?_, ?_, ?_, ?_, ?_⟩
            · lia
            · lia
            · intro c j hc; rw [zup_a hc]; exact qf c j hc
            · intro j hj; rw [zup_i (hj k k0 (by lia))]; exact qz j (fun m m0 m1 => hj m m0 (by lia))
            · intro m m0 m1; by_cases hmk : m = k
              · rw [hmk, zup_s]
              · rw [zup_i (by lia)]; exact qq m m0 (by lia)
          · exact zmu_up (by lia)
      · refine ⟨?_, ?_, ?_, ?_, ?_⟩
        · lia
        · lia
        · exact fun _ _ _ => rfl
        · exact fun _ _ => rfl
        · exact fun m m0 m1 => by exfalso; lia
    · skip
      refine zG_run bkMo_fast_28 (lv' := [(0, .ref 393), (1, .int (zit (mNs sg1) 0 (sg1 395 1))), (2, .int i)]) (st' := [.int (-1), .int i, .ref 393]) (h' := zN sg3) (Ps := []) rfl trivial ?_
      refine zG_callv (a := 393) (c := 10) (As := [.int i, .int (-1)]) (rest := []) (N2 := 411) bdMo_fast_31 okMo_takeStyle lk10_196 (And.intro (by decide) (by decide)) (by decide) rfl rfl rfl (Nat.le_of_ble_eq_true rfl) (Nat.le_of_ble_eq_true rfl) (Nat.le_refl 411) (Nat.le_refl 411) zob_393 (cMo_takeStyle (i := i) (but := (-1)) (by lia) (by lia) (by lia) (by lia)) ?_
      rintro rr h' ⟨sg4, rfl, rfl, hf4, ht4⟩ -
      refine zG_run bkMo_fast_34 (lv' := [(0, .ref 393), (1, .int (zit (mNs sg1) 0 (sg1 395 1))), (2, .int i)]) (st' := [.int i, .ref 393]) (h' := zN sg4) (Ps := []) rfl trivial ?_
      refine zG_callv (a := 393) (c := 10) (As := [.int i]) (rest := []) (N2 := 411) bdMo_fast_36 okMo_layPaint lk10_200 (And.intro (by decide) (by decide)) (by decide) rfl rfl rfl (Nat.le_of_ble_eq_true rfl) (Nat.le_of_ble_eq_true rfl) (Nat.le_refl 411) (Nat.le_refl 411) zob_393 (cMo_layPaint (i := i) (by lia) (by lia)) ?_
      rintro rr h' ⟨rfl, rfl⟩ -
      refine zG_run bkMo_fast_39 (lv' := [(2, .int (i + 1)), (0, .ref 393), (1, .int (zit (mNs sg1) 0 (sg1 395 1)))]) (st' := []) (h' := zN (hLp sg4 i)) (Ps := []) rfl trivial ?_
      refine zG_pick (lv' := [(0, .ref 393), (1, .int (zit (mNs sg1) 0 (sg1 395 1))), (2, .int (i + 1))]) [1, 2, 0] rfl ?_
      refine ihk (i + 1) (hLp sg4 i) ?_ ?_
      · refine ⟨?_, ?_, ?_⟩
        · lia
        · lia
        · exact mPn_s (by decide) i0 (by lia) kz hf4 (by rw [ht4]; exact mS_c (fun j hj => mPn_hi kz (by decide) (by lia) (Or.inr hj)) w1 (by lia) (by lia) (mPn_un kz (by decide) (by lia) i0 (by lia) (Or.inr (Int32.le_refl i))))
      · exact zmu_up (by lia)
  · refine ⟨?_, ?_, ?_⟩
    · lia
    · lia
    · exact mPn_0
theorem bMo_fast {sg : zSig}  (n0 : 0 ≤ sg 395 0) (n2 : sg 395 0 ≤ 200) (g0 : 0 ≤ sg 395 1) (g1 : sg 395 1 ≤ 16) (a0 : 0 ≤ sg 395 2) (a1 : sg 395 2 ≤ 12) (b0 : 0 ≤ sg 393 6) (b1 : sg 393 6 ≤ 8) : zG mMo_fast 411 (fun rr h' => ∃ sg1 sg2 sg3, mRem sg sg1 8 ∧ mPn sg1 sg2 0 (sg 395 0) (mS sg1 (-1)) ∧ mZs sg2 sg3 ∧ rr = some (.int (zit (mNs sg1) 0 (sg 395 1))) ∧ h' = zN sg3) 5 [(0, .ref 393)] [] (zN sg) := lMo_fast n0 n2 g0 g1 a0 a1 b0 b1 (fun _ _ q => q)
theorem tMo_fast {sg : zSig}  {Q : Option Value → zHp → Prop} (g : zG mMo_fast 411 Q 5 [(0, .ref 393)] [] (zN (zup sg 393 0 0))) : zG mMo_fast 411 Q 0 [(0, .ref 393)] [] (zN sg) :=
  zG_run bkMo_fast_0 (lv' := [(0, .ref 393)]) (st' := []) (h' := zN (zup sg 393 0 0)) (Ps := [zOb (zN sg) 393 10]) rfl (zA zob_393 trivial) g
