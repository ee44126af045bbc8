/-! the reference: spans weighed: printed by wip/whole/p38.py -/
def msk1 (sg : zSig) (i q lay k : Int32) (p : Int32 × Int32) : Int32 × Int32 := if sg 395 (803 + 9 * k + 3) = lay ∧ sg 395 (803 + 9 * k) = 1 ∧ sg 395 (803 + 9 * k + 1) ≤ i ∧ i < sg 395 (803 + 9 * k + 2) then (p.1 + 1, if p.1 = q ∧ p.2 = -1 then k else p.2) else p
def msk2 (sg : zSig) (i q lay : Int32) (p : Int32 × Int32) : Int32 × Int32 := zit (msk1 sg i q lay) p (sg 395 1)
def mSk (sg : zSig) (i q : Int32) : Int32 := (zit (msk2 sg i q) (0, -1) 10).2
theorem msk1_st {sg : zSig} {i q lay k k0 : Int32} {p : Int32 × Int32} (h0 : k0 ≠ -1) (h : p.2 = k0) : (msk1 sg i q lay k p).2 = k0 := by
  unfold msk1
  split
  · show (if p.1 = q ∧ p.2 = -1 then k else p.2) = k0
    rw [if_neg (fun q => h0 (h ▸ q.2))]; exact h
  · exact h
theorem bkMo_stack_5 : zBk mMo_stack 5 [(0, 0, 0, 0, 0), (2, 3, 0, 0, 0), (0, 0, 0, 0, 0), (2, 4, 0, 0, 0)] = some 10 := by decide +kernel
theorem bkMo_stack_10 : zBk mMo_stack 10 [(1, 4, 0, 0, 0), (0, 0, 0, 0, 10)] = some 14 := by decide +kernel
theorem bkMo_stack_89 : zBk mMo_stack 89 [(0, 0, 0, 0, -1)] = some 90 := by decide +kernel
theorem bkMo_stack_17 : zBk mMo_stack 17 [(1, 0, 1, 0, 0), (1, 1, 0, 0, 0)] = some 19 := by decide +kernel
theorem bkMo_stack_22 : zBk mMo_stack 22 [] = some 22 := by decide +kernel
theorem bkMo_stack_25 : zBk mMo_stack 25 [(0, 0, 0, 0, 0), (2, 5, 0, 0, 0)] = some 28 := by decide +kernel
theorem bkMo_stack_28 : zBk mMo_stack 28 [(1, 5, 0, 0, 0), (1, 0, 1, 0, 0), (5, 10, 3, 2, 3), (0, 0, 0, 0, 1), (7, 0, 0, 0, 0)] = some 36 := by decide +kernel
theorem bkMo_stack_83 : zBk mMo_stack 83 [(3, 4, 0, 0, 1), (22, 10, 0, 0, 0)] = some 10 := by decide +kernel
theorem bkMo_stack_39 : zBk mMo_stack 39 [(1, 0, 1, 0, 0), (5, 10, 3, 2, 3), (1, 5, 0, 0, 0)] = some 45 := by decide +kernel
theorem bkMo_stack_48 : zBk mMo_stack 48 [(0, 0, 0, 0, 3), (4, 0, 0, 0, 0), (7, 0, 0, 0, 0), (1, 4, 0, 0, 0)] = some 53 := by decide +kernel
theorem bkMo_stack_77 : zBk mMo_stack 77 [(3, 5, 0, 0, 1), (22, 28, 0, 0, 0)] = some 28 := by decide +kernel
theorem bkMo_stack_56 : zBk mMo_stack 56 [(1, 0, 1, 0, 0), (1, 5, 0, 0, 0), (1, 1, 0, 0, 0)] = some 60 := by decide +kernel
theorem bkMo_stack_63 : zBk mMo_stack 63 [] = some 63 := by decide +kernel
theorem bkMo_stack_66 : zBk mMo_stack 66 [(1, 3, 0, 0, 0), (1, 2, 0, 0, 0)] = some 68 := by decide +kernel
theorem bkMo_stack_74 : zBk mMo_stack 74 [(3, 3, 0, 0, 1), (3, 5, 0, 0, 1), (22, 28, 0, 0, 0)] = some 28 := by decide +kernel
theorem bkMo_stack_71 : zBk mMo_stack 71 [(1, 5, 0, 0, 0)] = some 73 := by decide +kernel
theorem bkMo_stack_0 : zBk mMo_stack 0 [(1, 0, 1, 0, 0), (0, 0, 0, 0, 0), (6, 10, 0, 0, 0)] = some 5 := by decide +kernel
theorem bdMo_stack_14 : decode mMo_stack.2.2.1 14 = .ok (.if_icmp .ge 75, 3) := by decide +kernel
theorem bdMo_stack_19 : decode mMo_stack.2.2.1 19 = .ok (.invokevirtual 258, 3) := by decide +kernel
theorem bdMo_stack_22 : decode mMo_stack.2.2.1 22 = .ok (.ifCond .eq 67, 3) := by decide +kernel
theorem bdMo_stack_36 : decode mMo_stack.2.2.1 36 = .ok (.if_icmp .ge 47, 3) := by decide +kernel
theorem bdMo_stack_45 : decode mMo_stack.2.2.1 45 = .ok (.invokestatic 91, 3) := by decide +kernel
theorem bdMo_stack_53 : decode mMo_stack.2.2.1 53 = .ok (.if_icmp .ne 24, 3) := by decide +kernel
theorem bdMo_stack_60 : decode mMo_stack.2.2.1 60 = .ok (.invokevirtual 189, 3) := by decide +kernel
theorem bdMo_stack_63 : decode mMo_stack.2.2.1 63 = .ok (.ifCond .eq 14, 3) := by decide +kernel
theorem bdMo_stack_68 : decode mMo_stack.2.2.1 68 = .ok (.if_icmp .ne 6, 3) := by decide +kernel
theorem bdMo_stack_73 : decode mMo_stack.2.2.1 73 = .ok (.ireturn, 1) := by decide +kernel
theorem bdMo_stack_90 : decode mMo_stack.2.2.1 90 = .ok (.ireturn, 1) := by decide +kernel
theorem lMo_stack {sg : zSig} {i q : Int32} (n0 : 0 ≤ sg 395 0) (n2 : sg 395 0 ≤ 200) (g0 : 0 ≤ sg 395 1) (g1 : sg 395 1 ≤ 16) {Q : Option Value → zHp → Prop} (hq : ∀ rr h', (∃ v, rr = some (.int v) ∧ h' = zN sg ∧ ((¬ ((0 ≤ i ∧ i < sg 395 0) ∧ 0 ≤ q) ∧ v = -1) ∨ (((0 ≤ i ∧ i < sg 395 0) ∧ 0 ≤ q) ∧ v = mSk sg i q))) → Q rr h') : zG mMo_stack 411 Q 5 [(0, .ref 393), (1, .int i), (2, .int q)] [] (zN sg) := by
  refine zG_run bkMo_stack_5 (lv' := [(4, .int 0), (3, .int 0), (0, .ref 393), (1, .int i), (2, .int q)]) (st' := []) (h' := zN sg) (Ps := []) rfl trivial ?_
  refine zG_pick (lv' := [(0, .ref 393), (1, .int i), (2, .int q), (3, .int 0), (4, .int 0)]) [2, 3, 4, 1, 0] rfl ?_
  refine zlp2 (fun (n : Int32) (lay : Int32) => zG mMo_stack 411 Q 10 [(0, .ref 393), (1, .int i), (2, .int q), (3, .int n), (4, .int lay)] [] (zN sg)) (fun (n : Int32) (lay : Int32) => (0 ≤ lay) ∧ (lay ≤ 10) ∧ (0 ≤ n ∧ n ≤ 16 * lay) ∧ ((n, (-1 : Int32)) = zit (msk2 sg i q) (0, -1) lay)) (fun (n : Int32) (lay : Int32) => zmu 10 lay) ?_ 0 0 ?_
  · intro n lay ho iho
    obtain ⟨l0, l1, ln, lz⟩ := ho
    refine zb_icge (tgt := 89) bkMo_stack_10 bdMo_stack_14 (by decide) (lv' := [(0, .ref 393), (1, .int i), (2, .int q), (3, .int n), (4, .int lay)]) (st' := []) (h' := zN sg) (x := lay) (y := 10) (Ps := []) rfl trivial (fun c1 => ?_) (fun c1 => ?_)
    · skip
      refine zb_iret bkMo_stack_89 bdMo_stack_90 rfl (x := (-1)) (h' := zN sg) (Ps := []) rfl trivial rfl ?_
      refine hq _ _ ?_
      refine ⟨_, rfl, rfl, ?_⟩
      by_cases hc : (0 ≤ i ∧ i < sg 395 0) ∧ 0 ≤ q
      · refine Or.inr ⟨hc, ?_⟩
        unfold mSk; rw [show (10 : Int32) = lay by clear iho hq; grind, ← lz]
      · exact Or.inl ⟨hc, rfl⟩
    · skip
      refine zG_run bkMo_stack_17 (lv' := [(0, .ref 393), (1, .int i), (2, .int q), (3, .int n), (4, .int lay)]) (st' := [.int i, .ref 393]) (h' := zN sg) (Ps := []) rfl trivial ?_
      refine zG_callv (a := 393) (c := 10) (As := [.int i]) (rest := []) (N2 := 411) bdMo_stack_19 okMo_isLetter lk10_258 (And.intro (by decide) (by decide)) (by decide) rfl rfl rfl (Nat.le_of_ble_eq_true rfl) (Nat.le_of_ble_eq_true rfl) (Nat.le_refl 411) (Nat.le_refl 411) zob_393 cMo_isLetter ?_
      rintro rr h' ⟨rfl, rfl⟩ -
      refine zb_ifeq (tgt := 89) bkMo_stack_22 bdMo_stack_22 (by decide) (lv' := [(0, .ref 393), (1, .int i), (2, .int q), (3, .int n), (4, .int lay)]) (st' := []) (h' := zN sg) (x := if 0 ≤ i ∧ i < sg 395 0 then 1 else 0) (Ps := []) rfl trivial (fun c2 => ?_) (fun c2 => ?_)
      · skip
        refine zb_iret bkMo_stack_89 bdMo_stack_90 rfl (x := (-1)) (h' := zN sg) (Ps := []) rfl trivial rfl ?_
        refine hq _ _ ?_
        refine ⟨_, rfl, rfl, ?_⟩
        by_cases hc : (0 ≤ i ∧ i < sg 395 0) ∧ 0 ≤ q
        · refine Or.inr ⟨hc, ?_⟩
          unfold mSk; rw [show (10 : Int32) = lay by clear iho hq; grind, ← lz]
        · exact Or.inl ⟨hc, rfl⟩
      · skip
        refine zG_run bkMo_stack_25 (lv' := [(5, .int 0), (0, .ref 393), (1, .int i), (2, .int q), (3, .int n), (4, .int lay)]) (st' := []) (h' := zN sg) (Ps := []) rfl trivial ?_
        refine zG_pick (lv' := [(0, .ref 393), (1, .int i), (2, .int q), (3, .int n), (4, .int lay), (5, .int 0)]) [1, 2, 3, 4, 5, 0] rfl ?_
        refine zlp2 (fun (n : Int32) (k : Int32) => zG mMo_stack 411 Q 28 [(0, .ref 393), (1, .int i), (2, .int q), (3, .int n), (4, .int lay), (5, .int k)] [] (zN sg)) (fun (n : Int32) (k : Int32) => (0 ≤ k) ∧ (k ≤ sg 395 1) ∧ (0 ≤ n ∧ n ≤ 16 * lay + k) ∧ ((n, (-1 : Int32)) = zit (msk1 sg i q lay) (zit (msk2 sg i q) (0, -1) lay) k)) (fun (n : Int32) (k : Int32) => zmu (sg 395 1) k) ?_ n 0 ?_
        · intro n k hk ihk
          obtain ⟨k0, k1, kn, kz⟩ := hk
          refine zb_icge (tgt := 83) bkMo_stack_28 bdMo_stack_36 (by decide) (lv' := [(0, .ref 393), (1, .int i), (2, .int q), (3, .int n), (4, .int lay), (5, .int k)]) (st' := []) (h' := zN sg) (x := k) (y := sg 395 1) (Ps := [zOb (zN sg) 393 10 ∧ (zN sg).2.2 393 3 = true, zInL (zN sg) 395 1]) rfl (zA ⟨zob_393, rfl⟩ (zA (zinL_395 (i := 1) (by decide) (by decide)) trivial)) (fun c3 => ?_) (fun c3 => ?_)
          · skip
            refine zG_run bkMo_stack_83 (lv' := [(4, .int (lay + 1)), (0, .ref 393), (1, .int i), (2, .int q), (3, .int n), (5, .int k)]) (st' := []) (h' := zN sg) (Ps := []) rfl trivial ?_
            refine zG_pick (lv' := [(0, .ref 393), (1, .int i), (2, .int q), (3, .int n), (4, .int (lay + 1))]) [1, 2, 3, 4, 0] rfl ?_
            refine iho n (lay + 1) ?_ ?_
            · refine ⟨?_, ?_, ?_, ?_⟩
              · lia
              · lia
              · lia
              · rw [zit_s _ _ l0 (by lia : lay < 10)]; rw [show k = sg 395 1 by lia] at kz; exact kz
            · exact zmu_up (by lia)
          · skip
            refine zG_run bkMo_stack_39 (lv' := [(0, .ref 393), (1, .int i), (2, .int q), (3, .int n), (4, .int lay), (5, .int k)]) (st' := [.int k, .ref 395]) (h' := zN sg) (Ps := [zOb (zN sg) 393 10 ∧ (zN sg).2.2 393 3 = true]) rfl (zA ⟨zob_393, rfl⟩ trivial) ?_
            refine zG_calls (As := [.int k]) (rest := [.ref 395]) (N2 := 411) bdMo_stack_45 okMo_spanAt lk10_91 (And.intro (by decide) (by decide)) rfl rfl (Nat.le_of_ble_eq_true rfl) (Nat.le_of_ble_eq_true rfl) (Nat.le_refl 411) (Nat.le_refl 411) cMo_spanAt ?_
            rintro rr h' ⟨rfl, rfl⟩ -
            refine zb_icne (tgt := 77) bkMo_stack_48 bdMo_stack_53 (by decide) (lv' := [(0, .ref 393), (1, .int i), (2, .int q), (3, .int n), (4, .int lay), (5, .int k)]) (st' := []) (h' := zN sg) (x := sg 395 ((803 + 9 * k) + 3)) (y := lay) (Ps := [zInL (zN sg) 395 ((803 + 9 * k) + 3)]) rfl (zA (zinL_395 (i := (803 + 9 * k) + 3) (by lia) (by lia)) trivial) (fun c4 => ?_) (fun c4 => ?_)
            · skip
              refine zG_run bkMo_stack_77 (lv' := [(5, .int (k + 1)), (0, .ref 393), (1, .int i), (2, .int q), (3, .int n), (4, .int lay)]) (st' := []) (h' := zN sg) (Ps := []) rfl trivial ?_
              refine zG_pick (lv' := [(0, .ref 393), (1, .int i), (2, .int q), (3, .int n), (4, .int lay), (5, .int (k + 1))]) [1, 2, 3, 4, 5, 0] rfl ?_
              refine ihk n (k + 1) ?_ ?_
              · refine ⟨?_, ?_, ?_, ?_⟩
                · lia
                · lia
                · lia
                · rw [zit_s _ _ k0 (by lia : k < sg 395 1), ← kz]; unfold msk1; clear ihk iho hq kz lz; grind
              · exact zmu_up (by lia)
            · skip
              refine zG_run bkMo_stack_56 (lv' := [(0, .ref 393), (1, .int i), (2, .int q), (3, .int n), (4, .int lay), (5, .int k)]) (st' := [.int i, .int k, .ref 393]) (h' := zN sg) (Ps := []) rfl trivial ?_
              refine zG_callv (a := 393) (c := 10) (As := [.int k, .int i]) (rest := []) (N2 := 411) bdMo_stack_60 okMo_isOver lk10_189 (And.intro (by decide) (by decide)) (by decide) rfl rfl rfl (Nat.le_of_ble_eq_true rfl) (Nat.le_of_ble_eq_true rfl) (Nat.le_refl 411) (Nat.le_refl 411) zob_393 (cMo_isOver (by lia) (by lia)) ?_
              rintro rr h' ⟨rfl, rfl⟩ -
              refine zb_ifeq (tgt := 77) bkMo_stack_63 bdMo_stack_63 (by decide) (lv' := [(0, .ref 393), (1, .int i), (2, .int q), (3, .int n), (4, .int lay), (5, .int k)]) (st' := []) (h' := zN sg) (x := if sg 395 (803 + 9 * k) = 1 ∧ sg 395 (803 + 9 * k + 1) ≤ i ∧ i < sg 395 (803 + 9 * k + 2) then 1 else 0) (Ps := []) rfl trivial (fun c5 => ?_) (fun c5 => ?_)
              · skip
                refine zG_run bkMo_stack_77 (lv' := [(5, .int (k + 1)), (0, .ref 393), (1, .int i), (2, .int q), (3, .int n), (4, .int lay)]) (st' := []) (h' := zN sg) (Ps := []) rfl trivial ?_
                refine zG_pick (lv' := [(0, .ref 393), (1, .int i), (2, .int q), (3, .int n), (4, .int lay), (5, .int (k + 1))]) [1, 2, 3, 4, 5, 0] rfl ?_
                refine ihk n (k + 1) ?_ ?_
                · refine ⟨?_, ?_, ?_, ?_⟩
                  · lia
                  · lia
                  · lia
                  · rw [zit_s _ _ k0 (by lia : k < sg 395 1), ← kz]; unfold msk1; clear ihk iho hq kz lz; grind
                · exact zmu_up (by lia)
              · skip
                refine zb_icne (tgt := 74) bkMo_stack_66 bdMo_stack_68 (by decide) (lv' := [(0, .ref 393), (1, .int i), (2, .int q), (3, .int n), (4, .int lay), (5, .int k)]) (st' := []) (h' := zN sg) (x := n) (y := q) (Ps := []) rfl trivial (fun c6 => ?_) (fun c6 => ?_)
                · skip
                  refine zG_run bkMo_stack_74 (lv' := [(5, .int (k + 1)), (3, .int (n + 1)), (0, .ref 393), (1, .int i), (2, .int q), (4, .int lay)]) (st' := []) (h' := zN sg) (Ps := []) rfl trivial ?_
                  refine zG_pick (lv' := [(0, .ref 393), (1, .int i), (2, .int q), (3, .int (n + 1)), (4, .int lay), (5, .int (k + 1))]) [2, 3, 4, 1, 5, 0] rfl ?_
                  refine ihk (n + 1) (k + 1) ?_ ?_
                  · refine ⟨?_, ?_, ?_, ?_⟩
                    · lia
                    · lia
                    · lia
                    · rw [zit_s _ _ k0 (by lia : k < sg 395 1), ← kz]; unfold msk1; clear ihk iho hq kz lz; grind
                  · exact zmu_up (by lia)
                · skip
                  refine zb_iret bkMo_stack_71 bdMo_stack_73 rfl (x := k) (h' := zN sg) (Ps := []) rfl trivial rfl ?_
                  refine hq _ _ ?_
                  have hl : 0 ≤ i ∧ i < sg 395 0 := by clear ihk iho hq kz lz; grind
                  refine ⟨_, rfl, rfl, Or.inr ⟨⟨hl, by lia⟩, ?_⟩⟩
                  have e1 : (zit (msk1 sg i q lay) (zit (msk2 sg i q) (0, -1) lay) (k + 1)).2 = k := by rw [zit_s _ _ k0 (by lia : k < sg 395 1), ← kz]; unfold msk1; clear ihk iho hq kz lz; grind
                  have e2 : (zit (msk2 sg i q) (0, -1) (lay + 1)).2 = k := by rw [zit_s _ _ l0 (by lia : lay < 10)]; exact zit_stable (P := fun x : Int32 × Int32 => x.2 = k) (i := k + 1) (by lia) (by lia) (fun j x _ _ h => msk1_st (by lia) h) e1
                  exact (zit_stable (P := fun x : Int32 × Int32 => x.2 = k) (i := lay + 1) (by lia) (by lia) (fun j x _ _ h => zit_stable (P := fun x : Int32 × Int32 => x.2 = k) (i := 0) (Int32.le_refl 0) (by lia) (fun j x _ _ h => msk1_st (by lia) h) h) e2).symm
        · refine ⟨?_, ?_, ?_, ?_⟩
          · lia
          · lia
          · lia
          · rw [zit_0]; exact lz
  · refine ⟨?_, ?_, ?_, ?_⟩
    · lia
    · lia
    · lia
    · rfl
theorem bMo_stack {sg : zSig} {i q : Int32} (n0 : 0 ≤ sg 395 0) (n2 : sg 395 0 ≤ 200) (g0 : 0 ≤ sg 395 1) (g1 : sg 395 1 ≤ 16) : zG mMo_stack 411 (fun rr h' => ∃ v, rr = some (.int v) ∧ h' = zN sg ∧ ((¬ ((0 ≤ i ∧ i < sg 395 0) ∧ 0 ≤ q) ∧ v = -1) ∨ (((0 ≤ i ∧ i < sg 395 0) ∧ 0 ≤ q) ∧ v = mSk sg i q))) 5 [(0, .ref 393), (1, .int i), (2, .int q)] [] (zN sg) := lMo_stack n0 n2 g0 g1 (fun _ _ q => q)
theorem tMo_stack {sg : zSig} {i q : Int32} {Q : Option Value → zHp → Prop} (g : zG mMo_stack 411 Q 5 [(0, .ref 393), (1, .int i), (2, .int q)] [] (zN (zup sg 393 0 0))) : zG mMo_stack 411 Q 0 [(0, .ref 393), (1, .int i), (2, .int q)] [] (zN sg) :=
  zG_run bkMo_stack_0 (lv' := [(0, .ref 393), (1, .int i), (2, .int q)]) (st' := []) (h' := zN (zup sg 393 0 0)) (Ps := [zOb (zN sg) 393 10]) rfl (zA zob_393 trivial) g
def mspk (sg : zSig) (k w : Int32) : Int32 := if w = 0 then (if 0 < sg 395 (803 + 9 * k + 6) then 1 else 0) else if w = 1 then (if sg 395 (803 + 9 * k + 7) = 0 then 0 else 1) else if ((sg 395 (803 + 9 * k + 4) ||| sg 395 (803 + 9 * k + 5)) >>> ((w - 2) &&& 31)) &&& 1 = 1 then 1 else 0
def mtl1 (sg : zSig) (i w lay k a : Int32) : Int32 := if sg 395 (803 + 9 * k + 3) = lay ∧ (sg 395 (803 + 9 * k) = 1 ∧ sg 395 (803 + 9 * k + 1) ≤ i ∧ i < sg 395 (803 + 9 * k + 2)) ∧ mspk sg k w ≠ 0 then k else a
def mtl2 (sg : zSig) (i w lay a : Int32) : Int32 := zit (mtl1 sg i w lay) a (sg 395 1)
def mTl (sg : zSig) (i w : Int32) : Int32 := if (0 ≤ i ∧ i < sg 395 0) ∧ 0 ≤ w ∧ w ≤ 5 then zit (mtl2 sg i w) (-1) 10 else -1
theorem bkMo_tellsOf_0 : zBk mMo_tellsOf 0 [(1, 1, 0, 0, 0)] = some 1 := by decide +kernel
theorem bkMo_tellsOf_4 : zBk mMo_tellsOf 4 [(2, 3, 0, 0, 0), (1, 2, 0, 0, 0)] = some 6 := by decide +kernel
theorem bkMo_tellsOf_29 : zBk mMo_tellsOf 29 [(1, 2, 0, 0, 0), (0, 0, 0, 0, 1)] = some 31 := by decide +kernel
theorem bkMo_tellsOf_54 : zBk mMo_tellsOf 54 [(1, 0, 1, 0, 0), (5, 10, 3, 2, 3), (1, 3, 0, 0, 0), (0, 0, 0, 0, 4), (4, 0, 0, 0, 0), (7, 0, 0, 0, 0), (1, 0, 1, 0, 0), (5, 10, 3, 2, 3), (1, 3, 0, 0, 0), (0, 0, 0, 0, 5), (4, 0, 0, 0, 0), (7, 0, 0, 0, 0), (4, 4, 0, 0, 0), (1, 2, 0, 0, 0), (0, 0, 0, 0, 2), (4, 1, 0, 0, 0), (4, 7, 0, 0, 0), (0, 0, 0, 0, 1), (4, 3, 0, 0, 0), (0, 0, 0, 0, 1)] = some 78 := by decide +kernel
theorem bkMo_tellsOf_85 : zBk mMo_tellsOf 85 [(0, 0, 0, 0, 0)] = some 86 := by decide +kernel
theorem bkMo_tellsOf_81 : zBk mMo_tellsOf 81 [(0, 0, 0, 0, 1), (22, 86, 0, 0, 0)] = some 86 := by decide +kernel
theorem bkMo_tellsOf_34 : zBk mMo_tellsOf 34 [(1, 0, 1, 0, 0), (5, 10, 3, 2, 3), (1, 3, 0, 0, 0), (0, 0, 0, 0, 7), (4, 0, 0, 0, 0), (7, 0, 0, 0, 0)] = some 43 := by decide +kernel
theorem bkMo_tellsOf_50 : zBk mMo_tellsOf 50 [(0, 0, 0, 0, 0), (22, 86, 0, 0, 0)] = some 86 := by decide +kernel
theorem bkMo_tellsOf_46 : zBk mMo_tellsOf 46 [(0, 0, 0, 0, 1), (22, 86, 0, 0, 0)] = some 86 := by decide +kernel
theorem bkMo_tellsOf_9 : zBk mMo_tellsOf 9 [(1, 0, 1, 0, 0), (5, 10, 3, 2, 3), (1, 3, 0, 0, 0), (0, 0, 0, 0, 6), (4, 0, 0, 0, 0), (7, 0, 0, 0, 0)] = some 18 := by decide +kernel
theorem bkMo_tellsOf_25 : zBk mMo_tellsOf 25 [(0, 0, 0, 0, 0), (22, 86, 0, 0, 0)] = some 86 := by decide +kernel
theorem bkMo_tellsOf_21 : zBk mMo_tellsOf 21 [(0, 0, 0, 0, 1), (22, 86, 0, 0, 0)] = some 86 := by decide +kernel
theorem bdMo_tellsOf_1 : decode mMo_tellsOf.2.2.1 1 = .ok (.invokestatic 91, 3) := by decide +kernel
theorem bdMo_tellsOf_6 : decode mMo_tellsOf.2.2.1 6 = .ok (.ifCond .ne 23, 3) := by decide +kernel
theorem bdMo_tellsOf_18 : decode mMo_tellsOf.2.2.1 18 = .ok (.ifCond .le 7, 3) := by decide +kernel
theorem bdMo_tellsOf_31 : decode mMo_tellsOf.2.2.1 31 = .ok (.if_icmp .ne 23, 3) := by decide +kernel
theorem bdMo_tellsOf_43 : decode mMo_tellsOf.2.2.1 43 = .ok (.ifCond .eq 7, 3) := by decide +kernel
theorem bdMo_tellsOf_78 : decode mMo_tellsOf.2.2.1 78 = .ok (.if_icmp .ne 7, 3) := by decide +kernel
theorem bdMo_tellsOf_86 : decode mMo_tellsOf.2.2.1 86 = .ok (.ireturn, 1) := by decide +kernel
theorem cMo_tellsOf {sg : zSig} {k w : Int32} (k0 : 0 ≤ k) (k1 : k < 16) : zG mMo_tellsOf 411 (fun rr h' => rr = some (.int (mspk sg k w)) ∧ h' = zN sg) 0 [(0, .ref 393), (1, .int k), (2, .int w)] [] (zN sg) := by
  refine zG_run bkMo_tellsOf_0 (lv' := [(0, .ref 393), (1, .int k), (2, .int w)]) (st' := [.int k]) (h' := zN sg) (Ps := []) rfl trivial ?_
  refine zG_calls (As := [.int k]) (rest := []) (N2 := 411) bdMo_tellsOf_1 okMo_spanAt lk10_91 (And.intro (by decide) (by decide)) rfl rfl (Nat.le_of_ble_eq_true rfl) (Nat.le_of_ble_eq_true rfl) (Nat.le_refl 411) (Nat.le_refl 411) cMo_spanAt ?_
  rintro rr h' ⟨rfl, rfl⟩ -
  refine zb_ifne (tgt := 29) bkMo_tellsOf_4 bdMo_tellsOf_6 (by decide) (lv' := [(3, .int (803 + 9 * k)), (0, .ref 393), (1, .int k), (2, .int w)]) (st' := []) (h' := zN sg) (x := w) (Ps := []) rfl trivial (fun c1 => ?_) (fun c1 => ?_)
  · skip
    refine zb_icne (tgt := 54) bkMo_tellsOf_29 bdMo_tellsOf_31 (by decide) (lv' := [(3, .int (803 + 9 * k)), (0, .ref 393), (1, .int k), (2, .int w)]) (st' := []) (h' := zN sg) (x := w) (y := 1) (Ps := []) rfl trivial (fun c2 => ?_) (fun c2 => ?_)
    · skip
      refine zb_icne (tgt := 85) bkMo_tellsOf_54 bdMo_tellsOf_78 (by decide) (lv' := [(3, .int (803 + 9 * k)), (0, .ref 393), (1, .int k), (2, .int w)]) (st' := []) (h' := zN sg) (x := (((sg 395 ((803 + 9 * k) + 4)) ||| (sg 395 ((803 + 9 * k) + 5))) >>> ((w - 2) &&& 31)) &&& 1) (y := 1) (Ps := [zOb (zN sg) 393 10 ∧ (zN sg).2.2 393 3 = true, zInL (zN sg) 395 ((803 + 9 * k) + 4), zOb (zN sg) 393 10 ∧ (zN sg).2.2 393 3 = true, zInL (zN sg) 395 ((803 + 9 * k) + 5)]) rfl (zA ⟨zob_393, rfl⟩ (zA (zinL_395 (i := (803 + 9 * k) + 4) (by lia) (by lia)) (zA ⟨zob_393, rfl⟩ (zA (zinL_395 (i := (803 + 9 * k) + 5) (by lia) (by lia)) trivial)))) (fun c3 => ?_) (fun c3 => ?_)
      · skip
        refine zb_zret bkMo_tellsOf_85 bdMo_tellsOf_86 rfl (x := 0) (h' := zN sg) (Ps := []) rfl trivial rfl (Or.inl rfl) ?_
        refine ⟨?_, rfl⟩
        unfold mspk; grind
      · skip
        refine zb_zret bkMo_tellsOf_81 bdMo_tellsOf_86 rfl (x := 1) (h' := zN sg) (Ps := []) rfl trivial rfl (Or.inr rfl) ?_
        refine ⟨?_, rfl⟩
        unfold mspk; grind
    · skip
      refine zb_ifeq (tgt := 50) bkMo_tellsOf_34 bdMo_tellsOf_43 (by decide) (lv' := [(3, .int (803 + 9 * k)), (0, .ref 393), (1, .int k), (2, .int w)]) (st' := []) (h' := zN sg) (x := sg 395 ((803 + 9 * k) + 7)) (Ps := [zOb (zN sg) 393 10 ∧ (zN sg).2.2 393 3 = true, zInL (zN sg) 395 ((803 + 9 * k) + 7)]) rfl (zA ⟨zob_393, rfl⟩ (zA (zinL_395 (i := (803 + 9 * k) + 7) (by lia) (by lia)) trivial)) (fun c4 => ?_) (fun c4 => ?_)
      · skip
        refine zb_zret bkMo_tellsOf_50 bdMo_tellsOf_86 rfl (x := 0) (h' := zN sg) (Ps := []) rfl trivial rfl (Or.inl rfl) ?_
        refine ⟨?_, rfl⟩
        unfold mspk; grind
      · skip
        refine zb_zret bkMo_tellsOf_46 bdMo_tellsOf_86 rfl (x := 1) (h' := zN sg) (Ps := []) rfl trivial rfl (Or.inr rfl) ?_
        refine ⟨?_, rfl⟩
        unfold mspk; grind
  · skip
    refine zb_ifle (tgt := 25) bkMo_tellsOf_9 bdMo_tellsOf_18 (by decide) (lv' := [(3, .int (803 + 9 * k)), (0, .ref 393), (1, .int k), (2, .int w)]) (st' := []) (h' := zN sg) (x := sg 395 ((803 + 9 * k) + 6)) (Ps := [zOb (zN sg) 393 10 ∧ (zN sg).2.2 393 3 = true, zInL (zN sg) 395 ((803 + 9 * k) + 6)]) rfl (zA ⟨zob_393, rfl⟩ (zA (zinL_395 (i := (803 + 9 * k) + 6) (by lia) (by lia)) trivial)) (fun c5 => ?_) (fun c5 => ?_)
    · skip
      refine zb_zret bkMo_tellsOf_25 bdMo_tellsOf_86 rfl (x := 0) (h' := zN sg) (Ps := []) rfl trivial rfl (Or.inl rfl) ?_
      refine ⟨?_, rfl⟩
      unfold mspk; grind
    · skip
      refine zb_zret bkMo_tellsOf_21 bdMo_tellsOf_86 rfl (x := 1) (h' := zN sg) (Ps := []) rfl trivial rfl (Or.inr rfl) ?_
      refine ⟨?_, rfl⟩
      unfold mspk; grind
theorem bkMo_tells_5 : zBk mMo_tells 5 [(1, 0, 1, 0, 0), (1, 1, 0, 0, 0)] = some 7 := by decide +kernel
theorem bkMo_tells_10 : zBk mMo_tells 10 [] = some 10 := by decide +kernel
theorem bkMo_tells_25 : zBk mMo_tells 25 [(0, 0, 0, 0, -1)] = some 26 := by decide +kernel
theorem bkMo_tells_13 : zBk mMo_tells 13 [(1, 2, 0, 0, 0), (14, 0, 0, 0, 0), (15, 0, 0, 0, 0), (15, 0, 0, 0, 5)] = some 19 := by decide +kernel
theorem bkMo_tells_22 : zBk mMo_tells 22 [] = some 22 := by decide +kernel
theorem bkMo_tells_27 : zBk mMo_tells 27 [(0, 0, 0, 0, -1), (2, 3, 0, 0, 0), (0, 0, 0, 0, 0), (2, 4, 0, 0, 0)] = some 32 := by decide +kernel
theorem bkMo_tells_32 : zBk mMo_tells 32 [(1, 4, 0, 0, 0), (0, 0, 0, 0, 10)] = some 36 := by decide +kernel
theorem bkMo_tells_109 : zBk mMo_tells 109 [(1, 3, 0, 0, 0)] = some 110 := by decide +kernel
theorem bkMo_tells_39 : zBk mMo_tells 39 [(0, 0, 0, 0, 0), (2, 5, 0, 0, 0)] = some 42 := by decide +kernel
theorem bkMo_tells_42 : zBk mMo_tells 42 [(1, 5, 0, 0, 0), (1, 0, 1, 0, 0), (5, 10, 3, 2, 3), (0, 0, 0, 0, 1), (7, 0, 0, 0, 0)] = some 50 := by decide +kernel
theorem bkMo_tells_103 : zBk mMo_tells 103 [(3, 4, 0, 0, 1), (22, 32, 0, 0, 0)] = some 32 := by decide +kernel
theorem bkMo_tells_53 : zBk mMo_tells 53 [(1, 0, 1, 0, 0), (5, 10, 3, 2, 3), (1, 5, 0, 0, 0)] = some 59 := by decide +kernel
theorem bkMo_tells_62 : zBk mMo_tells 62 [(0, 0, 0, 0, 3), (4, 0, 0, 0, 0), (7, 0, 0, 0, 0), (1, 4, 0, 0, 0)] = some 67 := by decide +kernel
theorem bkMo_tells_95 : zBk mMo_tells 95 [(1, 3, 0, 0, 0), (2, 3, 0, 0, 0), (3, 5, 0, 0, 1), (22, 42, 0, 0, 0)] = some 42 := by decide +kernel
theorem bkMo_tells_70 : zBk mMo_tells 70 [(1, 0, 1, 0, 0), (1, 5, 0, 0, 0), (1, 1, 0, 0, 0)] = some 74 := by decide +kernel
theorem bkMo_tells_77 : zBk mMo_tells 77 [] = some 77 := by decide +kernel
theorem bkMo_tells_80 : zBk mMo_tells 80 [(1, 0, 1, 0, 0), (1, 5, 0, 0, 0), (1, 2, 0, 0, 0)] = some 84 := by decide +kernel
theorem bkMo_tells_87 : zBk mMo_tells 87 [] = some 87 := by decide +kernel
theorem bkMo_tells_90 : zBk mMo_tells 90 [(1, 5, 0, 0, 0), (22, 96, 0, 0, 0), (2, 3, 0, 0, 0), (3, 5, 0, 0, 1), (22, 42, 0, 0, 0)] = some 42 := by decide +kernel
theorem bkMo_tells_0 : zBk mMo_tells 0 [(1, 0, 1, 0, 0), (0, 0, 0, 0, 0), (6, 10, 0, 0, 0)] = some 5 := by decide +kernel
theorem bdMo_tells_7 : decode mMo_tells.2.2.1 7 = .ok (.invokevirtual 258, 3) := by decide +kernel
theorem bdMo_tells_10 : decode mMo_tells.2.2.1 10 = .ok (.ifCond .eq 15, 3) := by decide +kernel
theorem bdMo_tells_19 : decode mMo_tells.2.2.1 19 = .ok (.invokestatic 87, 3) := by decide +kernel
theorem bdMo_tells_22 : decode mMo_tells.2.2.1 22 = .ok (.ifCond .ne 5, 3) := by decide +kernel
theorem bdMo_tells_26 : decode mMo_tells.2.2.1 26 = .ok (.ireturn, 1) := by decide +kernel
theorem bdMo_tells_36 : decode mMo_tells.2.2.1 36 = .ok (.if_icmp .ge 73, 3) := by decide +kernel
theorem bdMo_tells_50 : decode mMo_tells.2.2.1 50 = .ok (.if_icmp .ge 53, 3) := by decide +kernel
theorem bdMo_tells_59 : decode mMo_tells.2.2.1 59 = .ok (.invokestatic 91, 3) := by decide +kernel
theorem bdMo_tells_67 : decode mMo_tells.2.2.1 67 = .ok (.if_icmp .ne 28, 3) := by decide +kernel
theorem bdMo_tells_74 : decode mMo_tells.2.2.1 74 = .ok (.invokevirtual 189, 3) := by decide +kernel
theorem bdMo_tells_77 : decode mMo_tells.2.2.1 77 = .ok (.ifCond .eq 18, 3) := by decide +kernel
theorem bdMo_tells_84 : decode mMo_tells.2.2.1 84 = .ok (.invokevirtual 277, 3) := by decide +kernel
theorem bdMo_tells_87 : decode mMo_tells.2.2.1 87 = .ok (.ifCond .eq 8, 3) := by decide +kernel
theorem bdMo_tells_110 : decode mMo_tells.2.2.1 110 = .ok (.ireturn, 1) := by decide +kernel
theorem lMo_tells {sg : zSig} {i w : Int32} (n0 : 0 ≤ sg 395 0) (n2 : sg 395 0 ≤ 200) (g0 : 0 ≤ sg 395 1) (g1 : sg 395 1 ≤ 16) {Q : Option Value → zHp → Prop} (hq : ∀ rr h', (rr = some (.int (mTl sg i w)) ∧ h' = zN sg) → Q rr h') : zG mMo_tells 411 Q 5 [(0, .ref 393), (1, .int i), (2, .int w)] [] (zN sg) := by
  refine zG_run bkMo_tells_5 (lv' := [(0, .ref 393), (1, .int i), (2, .int w)]) (st' := [.int i, .ref 393]) (h' := zN sg) (Ps := []) rfl trivial ?_
  refine zG_callv (a := 393) (c := 10) (As := [.int i]) (rest := []) (N2 := 411) bdMo_tells_7 okMo_isLetter lk10_258 (And.intro (by decide) (by decide)) (by decide) rfl rfl rfl (Nat.le_of_ble_eq_true rfl) (Nat.le_of_ble_eq_true rfl) (Nat.le_refl 411) (Nat.le_refl 411) zob_393 cMo_isLetter ?_
  rintro rr h' ⟨rfl, rfl⟩ -
  refine zb_ifeq (tgt := 25) bkMo_tells_10 bdMo_tells_10 (by decide) (lv' := [(0, .ref 393), (1, .int i), (2, .int w)]) (st' := []) (h' := zN sg) (x := if 0 ≤ i ∧ i < sg 395 0 then 1 else 0) (Ps := []) rfl trivial (fun c1 => ?_) (fun c1 => ?_)
  · skip
    refine zb_iret bkMo_tells_25 bdMo_tells_26 rfl (x := (-1)) (h' := zN sg) (Ps := []) rfl trivial rfl ?_
    refine hq _ _ ?_
    refine ⟨?_, rfl⟩
    unfold mTl
    rw [if_neg (by clear hq; grind)]
  · skip
    refine zG_run bkMo_tells_13 (lv' := [(0, .ref 393), (1, .int i), (2, .int w)]) (st' := [.long ((5 : Int32).toInt64), .long ((0 : Int32).toInt64), .long w.toInt64]) (h' := zN sg) (Ps := []) rfl trivial ?_
    refine zG_calls (As := [.long w.toInt64, .long ((0 : Int32).toInt64), .long ((5 : Int32).toInt64)]) (rest := []) (N2 := 411) bdMo_tells_19 okMo_in lk10_87 (And.intro (by decide) (by decide)) rfl rfl (Nat.le_of_ble_eq_true rfl) (Nat.le_of_ble_eq_true rfl) (Nat.le_refl 411) (Nat.le_refl 411) cMo_inA ?_
    rintro rr h' ⟨rfl, rfl⟩ -
    refine zb_ifne (tgt := 27) bkMo_tells_22 bdMo_tells_22 (by decide) (lv' := [(0, .ref 393), (1, .int i), (2, .int w)]) (st' := []) (h' := zN sg) (x := if 0 ≤ w ∧ w ≤ 5 then 1 else 0) (Ps := []) rfl trivial (fun c2 => ?_) (fun c2 => ?_)
    · skip
      refine zG_run bkMo_tells_27 (lv' := [(4, .int 0), (3, .int (-1)), (0, .ref 393), (1, .int i), (2, .int w)]) (st' := []) (h' := zN sg) (Ps := []) rfl trivial ?_
      refine zG_pick (lv' := [(0, .ref 393), (1, .int i), (2, .int w), (3, .int (-1)), (4, .int 0)]) [2, 3, 4, 1, 0] rfl ?_
      refine zlp2 (fun (n : Int32) (lay : Int32) => zG mMo_tells 411 Q 32 [(0, .ref 393), (1, .int i), (2, .int w), (3, .int n), (4, .int lay)] [] (zN sg)) (fun (n : Int32) (lay : Int32) => (0 ≤ lay) ∧ (lay ≤ 10) ∧ (n = zit (mtl2 sg i w) (-1) lay)) (fun (n : Int32) (lay : Int32) => zmu 10 lay) ?_ (-1) 0 ?_
      · intro n lay ho iho
        obtain ⟨l0, l1, lz⟩ := ho
        refine zb_icge (tgt := 109) bkMo_tells_32 bdMo_tells_36 (by decide) (lv' := [(0, .ref 393), (1, .int i), (2, .int w), (3, .int n), (4, .int lay)]) (st' := []) (h' := zN sg) (x := lay) (y := 10) (Ps := []) rfl trivial (fun c3 => ?_) (fun c3 => ?_)
        · skip
          refine zb_iret bkMo_tells_109 bdMo_tells_110 rfl (x := n) (h' := zN sg) (Ps := []) rfl trivial rfl ?_
          refine hq _ _ ?_
          refine ⟨?_, rfl⟩
          unfold mTl
          rw [if_pos (by clear hq iho; grind), show (10 : Int32) = lay by lia, lz]
        · skip
          refine zG_run bkMo_tells_39 (lv' := [(5, .int 0), (0, .ref 393), (1, .int i), (2, .int w), (3, .int n), (4, .int lay)]) (st' := []) (h' := zN sg) (Ps := []) rfl trivial ?_
          refine zG_pick (lv' := [(0, .ref 393), (1, .int i), (2, .int w), (3, .int n), (4, .int lay), (5, .int 0)]) [1, 2, 3, 4, 5, 0] rfl ?_
          refine zlp2 (fun (n : Int32) (k : Int32) => zG mMo_tells 411 Q 42 [(0, .ref 393), (1, .int i), (2, .int w), (3, .int n), (4, .int lay), (5, .int k)] [] (zN sg)) (fun (n : Int32) (k : Int32) => (0 ≤ k) ∧ (k ≤ sg 395 1) ∧ (n = zit (mtl1 sg i w lay) (zit (mtl2 sg i w) (-1) lay) k)) (fun (n : Int32) (k : Int32) => zmu (sg 395 1) k) ?_ n 0 ?_
          · intro n k hk ihk
            obtain ⟨k0, k1, kz⟩ := hk
            refine zb_icge (tgt := 103) bkMo_tells_42 bdMo_tells_50 (by decide) (lv' := [(0, .ref 393), (1, .int i), (2, .int w), (3, .int n), (4, .int lay), (5, .int k)]) (st' := []) (h' := zN sg) (x := k) (y := sg 395 1) (Ps := [zOb (zN sg) 393 10 ∧ (zN sg).2.2 393 3 = true, zInL (zN sg) 395 1]) rfl (zA ⟨zob_393, rfl⟩ (zA (zinL_395 (i := 1) (by decide) (by decide)) trivial)) (fun c4 => ?_) (fun c4 => ?_)
            · skip
              refine zG_run bkMo_tells_103 (lv' := [(4, .int (lay + 1)), (0, .ref 393), (1, .int i), (2, .int w), (3, .int n), (5, .int k)]) (st' := []) (h' := zN sg) (Ps := []) rfl trivial ?_
              refine zG_pick (lv' := [(0, .ref 393), (1, .int i), (2, .int w), (3, .int n), (4, .int (lay + 1))]) [1, 2, 3, 4, 0] rfl ?_
              refine iho n (lay + 1) ?_ ?_
              · refine ⟨?_, ?_, ?_⟩
                · lia
                · lia
                · rw [zit_s _ _ l0 (by lia : lay < 10)]; rw [show k = sg 395 1 by lia] at kz; exact kz
              · exact zmu_up (by lia)
            · skip
              refine zG_run bkMo_tells_53 (lv' := [(0, .ref 393), (1, .int i), (2, .int w), (3, .int n), (4, .int lay), (5, .int k)]) (st' := [.int k, .ref 395]) (h' := zN sg) (Ps := [zOb (zN sg) 393 10 ∧ (zN sg).2.2 393 3 = true]) rfl (zA ⟨zob_393, rfl⟩ trivial) ?_
              refine zG_calls (As := [.int k]) (rest := [.ref 395]) (N2 := 411) bdMo_tells_59 okMo_spanAt lk10_91 (And.intro (by decide) (by decide)) rfl rfl (Nat.le_of_ble_eq_true rfl) (Nat.le_of_ble_eq_true rfl) (Nat.le_refl 411) (Nat.le_refl 411) cMo_spanAt ?_
              rintro rr h' ⟨rfl, rfl⟩ -
              refine zb_icne (tgt := 95) bkMo_tells_62 bdMo_tells_67 (by decide) (lv' := [(0, .ref 393), (1, .int i), (2, .int w), (3, .int n), (4, .int lay), (5, .int k)]) (st' := []) (h' := zN sg) (x := sg 395 ((803 + 9 * k) + 3)) (y := lay) (Ps := [zInL (zN sg) 395 ((803 + 9 * k) + 3)]) rfl (zA (zinL_395 (i := (803 + 9 * k) + 3) (by lia) (by lia)) trivial) (fun c5 => ?_) (fun c5 => ?_)
              · skip
                refine zG_run bkMo_tells_95 (lv' := [(5, .int (k + 1)), (3, .int n), (0, .ref 393), (1, .int i), (2, .int w), (4, .int lay)]) (st' := []) (h' := zN sg) (Ps := []) rfl trivial ?_
                refine zG_pick (lv' := [(0, .ref 393), (1, .int i), (2, .int w), (3, .int n), (4, .int lay), (5, .int (k + 1))]) [2, 3, 4, 1, 5, 0] rfl ?_
                refine ihk n (k + 1) ?_ ?_
                · refine ⟨?_, ?_, ?_⟩
                  · lia
                  · lia
                  · rw [zit_s _ _ k0 (by lia : k < sg 395 1), ← kz]; unfold mtl1; clear ihk iho hq kz lz; grind
                · exact zmu_up (by lia)
              · skip
                refine zG_run bkMo_tells_70 (lv' := [(0, .ref 393), (1, .int i), (2, .int w), (3, .int n), (4, .int lay), (5, .int k)]) (st' := [.int i, .int k, .ref 393]) (h' := zN sg) (Ps := []) rfl trivial ?_
                refine zG_callv (a := 393) (c := 10) (As := [.int k, .int i]) (rest := []) (N2 := 411) bdMo_tells_74 okMo_isOver lk10_189 (And.intro (by decide) (by decide)) (by decide) rfl rfl rfl (Nat.le_of_ble_eq_true rfl) (Nat.le_of_ble_eq_true rfl) (Nat.le_refl 411) (Nat.le_refl 411) zob_393 (cMo_isOver (by lia) (by lia)) ?_
                rintro rr h' ⟨rfl, rfl⟩ -
                refine zb_ifeq (tgt := 95) bkMo_tells_77 bdMo_tells_77 (by decide) (lv' := [(0, .ref 393), (1, .int i), (2, .int w), (3, .int n), (4, .int lay), (5, .int k)]) (st' := []) (h' := zN sg) (x := if sg 395 (803 + 9 * k) = 1 ∧ sg 395 (803 + 9 * k + 1) ≤ i ∧ i < sg 395 (803 + 9 * k + 2) then 1 else 0) (Ps := []) rfl trivial (fun c6 => ?_) (fun c6 => ?_)
                · skip
                  refine zG_run bkMo_tells_95 (lv' := [(5, .int (k + 1)), (3, .int n), (0, .ref 393), (1, .int i), (2, .int w), (4, .int lay)]) (st' := []) (h' := zN sg) (Ps := []) rfl trivial ?_
                  refine zG_pick (lv' := [(0, .ref 393), (1, .int i), (2, .int w), (3, .int n), (4, .int lay), (5, .int (k + 1))]) [2, 3, 4, 1, 5, 0] rfl ?_
                  refine ihk n (k + 1) ?_ ?_
                  · refine ⟨?_, ?_, ?_⟩
                    · lia
                    · lia
                    · rw [zit_s _ _ k0 (by lia : k < sg 395 1), ← kz]; unfold mtl1; clear ihk iho hq kz lz; grind
                  · exact zmu_up (by lia)
                · skip
                  refine zG_run bkMo_tells_80 (lv' := [(0, .ref 393), (1, .int i), (2, .int w), (3, .int n), (4, .int lay), (5, .int k)]) (st' := [.int w, .int k, .ref 393]) (h' := zN sg) (Ps := []) rfl trivial ?_
                  refine zG_callv (a := 393) (c := 10) (As := [.int k, .int w]) (rest := []) (N2 := 411) bdMo_tells_84 okMo_tellsOf lk10_277 (And.intro (by decide) (by decide)) (by decide) rfl rfl rfl (Nat.le_of_ble_eq_true rfl) (Nat.le_of_ble_eq_true rfl) (Nat.le_refl 411) (Nat.le_refl 411) zob_393 (cMo_tellsOf (by lia) (by lia)) ?_
                  rintro rr h' ⟨rfl, rfl⟩ -
                  refine zb_ifeq (tgt := 95) bkMo_tells_87 bdMo_tells_87 (by decide) (lv' := [(0, .ref 393), (1, .int i), (2, .int w), (3, .int n), (4, .int lay), (5, .int k)]) (st' := []) (h' := zN sg) (x := mspk sg k w) (Ps := []) rfl trivial (fun c7 => ?_) (fun c7 => ?_)
                  · skip
                    refine zG_run bkMo_tells_95 (lv' := [(5, .int (k + 1)), (3, .int n), (0, .ref 393), (1, .int i), (2, .int w), (4, .int lay)]) (st' := []) (h' := zN sg) (Ps := []) rfl trivial ?_
                    refine zG_pick (lv' := [(0, .ref 393), (1, .int i), (2, .int w), (3, .int n), (4, .int lay), (5, .int (k + 1))]) [2, 3, 4, 1, 5, 0] rfl ?_
                    refine ihk n (k + 1) ?_ ?_
                    · refine ⟨?_, ?_, ?_⟩
                      · lia
                      · lia
                      · rw [zit_s _ _ k0 (by lia : k < sg 395 1), ← kz]; unfold mtl1; clear ihk iho hq kz lz; grind
                    · exact zmu_up (by lia)
                  · skip
                    refine zG_run bkMo_tells_90 (lv' := [(5, .int (k + 1)), (3, .int k), (0, .ref 393), (1, .int i), (2, .int w), (4, .int lay)]) (st' := []) (h' := zN sg) (Ps := []) rfl trivial ?_
                    refine zG_pick (lv' := [(0, .ref 393), (1, .int i), (2, .int w), (3, .int k), (4, .int lay), (5, .int (k + 1))]) [2, 3, 4, 1, 5, 0] rfl ?_
                    refine ihk k (k + 1) ?_ ?_
                    · refine ⟨?_, ?_, ?_⟩
                      · lia
                      · lia
                      · rw [zit_s _ _ k0 (by lia : k < sg 395 1), ← kz]; unfold mtl1; clear ihk iho hq kz lz; grind
                    · exact zmu_up (by lia)
          · refine ⟨?_, ?_, ?_⟩
            · lia
            · lia
            · rw [zit_0]; exact lz
      · refine ⟨?_, ?_, ?_⟩
        · lia
        · lia
        · rfl
    · skip
      refine zb_iret bkMo_tells_25 bdMo_tells_26 rfl (x := (-1)) (h' := zN sg) (Ps := []) rfl trivial rfl ?_
      refine hq _ _ ?_
      refine ⟨?_, rfl⟩
      unfold mTl
      rw [if_neg (by clear hq; grind)]
theorem bMo_tells {sg : zSig} {i w : Int32} (n0 : 0 ≤ sg 395 0) (n2 : sg 395 0 ≤ 200) (g0 : 0 ≤ sg 395 1) (g1 : sg 395 1 ≤ 16) : zG mMo_tells 411 (fun rr h' => rr = some (.int (mTl sg i w)) ∧ h' = zN sg) 5 [(0, .ref 393), (1, .int i), (2, .int w)] [] (zN sg) := lMo_tells n0 n2 g0 g1 (fun _ _ q => q)
theorem tMo_tells {sg : zSig} {i w : Int32} {Q : Option Value → zHp → Prop} (g : zG mMo_tells 411 Q 5 [(0, .ref 393), (1, .int i), (2, .int w)] [] (zN (zup sg 393 0 0))) : zG mMo_tells 411 Q 0 [(0, .ref 393), (1, .int i), (2, .int w)] [] (zN sg) :=
  zG_run bkMo_tells_0 (lv' := [(0, .ref 393), (1, .int i), (2, .int w)]) (st' := []) (h' := zN (zup sg 393 0 0)) (Ps := [zOb (zN sg) 393 10]) rfl (zA zob_393 trivial) g
def mOvr (sg : zSig) (k i : Int32) : Prop := sg 395 (803 + 9 * k) = 1 ∧ sg 395 (803 + 9 * k + 1) ≤ i ∧ i < sg 395 (803 + 9 * k + 2)
def mId (sg : zSig) (k v : Int32) : Prop := (v = 1 ∧ ∀ j, 0 ≤ j → j < sg 395 0 → mOvr sg k j → mSy sg (-1) j = mSy sg k j) ∨ (v = 0 ∧ ∃ j, 0 ≤ j ∧ j < sg 395 0 ∧ mOvr sg k j ∧ mSy sg (-1) j ≠ mSy sg k j)
theorem bkMo_isIdle_0 : zBk mMo_isIdle 0 [(0, 0, 0, 0, 1), (2, 2, 0, 0, 0), (0, 0, 0, 0, 0), (2, 3, 0, 0, 0)] = some 4 := by decide +kernel
theorem bkMo_isIdle_4 : zBk mMo_isIdle 4 [(1, 3, 0, 0, 0), (1, 0, 1, 0, 0), (5, 10, 3, 2, 3), (0, 0, 0, 0, 0), (7, 0, 0, 0, 0)] = some 11 := by decide +kernel
theorem bkMo_isIdle_54 : zBk mMo_isIdle 54 [(1, 2, 0, 0, 0)] = some 55 := by decide +kernel
theorem bkMo_isIdle_14 : zBk mMo_isIdle 14 [(1, 2, 0, 0, 0)] = some 15 := by decide +kernel
theorem bkMo_isIdle_18 : zBk mMo_isIdle 18 [(1, 0, 1, 0, 0), (1, 1, 0, 0, 0), (1, 3, 0, 0, 0)] = some 21 := by decide +kernel
theorem bkMo_isIdle_24 : zBk mMo_isIdle 24 [] = some 24 := by decide +kernel
theorem bkMo_isIdle_42 : zBk mMo_isIdle 42 [(0, 0, 0, 0, 1), (22, 47, 0, 0, 0), (2, 2, 0, 0, 0), (3, 3, 0, 0, 1), (22, 4, 0, 0, 0)] = some 4 := by decide +kernel
theorem bkMo_isIdle_27 : zBk mMo_isIdle 27 [(1, 0, 1, 0, 0), (1, 3, 0, 0, 0), (0, 0, 0, 0, -1)] = some 30 := by decide +kernel
theorem bkMo_isIdle_33 : zBk mMo_isIdle 33 [(1, 0, 1, 0, 0), (1, 3, 0, 0, 0), (1, 1, 0, 0, 0)] = some 36 := by decide +kernel
theorem bkMo_isIdle_39 : zBk mMo_isIdle 39 [] = some 39 := by decide +kernel
theorem bkMo_isIdle_46 : zBk mMo_isIdle 46 [(0, 0, 0, 0, 0), (2, 2, 0, 0, 0), (3, 3, 0, 0, 1), (22, 4, 0, 0, 0)] = some 4 := by decide +kernel
theorem bdMo_isIdle_11 : decode mMo_isIdle.2.2.1 11 = .ok (.if_icmp .ge 43, 3) := by decide +kernel
theorem bdMo_isIdle_15 : decode mMo_isIdle.2.2.1 15 = .ok (.ifCond .eq 39, 3) := by decide +kernel
theorem bdMo_isIdle_21 : decode mMo_isIdle.2.2.1 21 = .ok (.invokevirtual 189, 3) := by decide +kernel
theorem bdMo_isIdle_24 : decode mMo_isIdle.2.2.1 24 = .ok (.ifCond .eq 18, 3) := by decide +kernel
theorem bdMo_isIdle_30 : decode mMo_isIdle.2.2.1 30 = .ok (.invokevirtual 265, 3) := by decide +kernel
theorem bdMo_isIdle_36 : decode mMo_isIdle.2.2.1 36 = .ok (.invokevirtual 265, 3) := by decide +kernel
theorem bdMo_isIdle_39 : decode mMo_isIdle.2.2.1 39 = .ok (.if_icmp .ne 7, 3) := by decide +kernel
theorem bdMo_isIdle_55 : decode mMo_isIdle.2.2.1 55 = .ok (.ireturn, 1) := by decide +kernel
theorem lMo_isIdle {sg : zSig} {k : Int32} (n0 : 0 ≤ sg 395 0) (n2 : sg 395 0 ≤ 200) (g0 : 0 ≤ sg 395 1) (g1 : sg 395 1 ≤ 16) (k0 : 0 ≤ k) (k1 : k < 16) {Q : Option Value → zHp → Prop} (hq : ∀ rr h', (∃ v sg', rr = some (.int v) ∧ h' = zN sg' ∧ mQ sg sg' ∧ mId sg k v) → Q rr h') : zG mMo_isIdle 411 Q 0 [(0, .ref 393), (1, .int k)] [] (zN sg) := by
  refine zG_run bkMo_isIdle_0 (lv' := [(3, .int 0), (2, .int 1), (0, .ref 393), (1, .int k)]) (st' := []) (h' := zN sg) (Ps := []) rfl trivial ?_
  refine zG_pick (lv' := [(0, .ref 393), (1, .int k), (2, .int 1), (3, .int 0)]) [2, 3, 1, 0] rfl ?_
  refine zlp3 (fun (b : Int32) (i : Int32) (sg1 : zSig) => zG mMo_isIdle 411 Q 4 [(0, .ref 393), (1, .int k), (2, .int b), (3, .int i)] [] (zN sg1)) (fun (b : Int32) (i : Int32) (sg1 : zSig) => (0 ≤ i) ∧ (i ≤ sg 395 0) ∧ (mQ sg sg1) ∧ ((b = 1 ∧ ∀ j, 0 ≤ j → j < i → mOvr sg k j → mSy sg (-1) j = mSy sg k j) ∨ (b = 0 ∧ ∃ j, 0 ≤ j ∧ j < sg 395 0 ∧ mOvr sg k j ∧ mSy sg (-1) j ≠ mSy sg k j))) (fun (b : Int32) (i : Int32) (sg1 : zSig) => zmu (sg 395 0) i) ?_ 1 0 sg ?_
  · intro b i sg1 hI ih
    obtain ⟨i0, i1, kf, kz⟩ := hI
    have kr := mQ_row kf
    have ke : ∀ j, sg1 395 j = sg 395 j := fun j => congrFun kr j
    have ke0 := ke 0
    have ke1 := ke 1
    refine zb_icge (tgt := 54) bkMo_isIdle_4 bdMo_isIdle_11 (by decide) (lv' := [(0, .ref 393), (1, .int k), (2, .int b), (3, .int i)]) (st' := []) (h' := zN sg1) (x := i) (y := sg1 395 0) (Ps := [zOb (zN sg1) 393 10 ∧ (zN sg1).2.2 393 3 = true, zInL (zN sg1) 395 0]) rfl (zA ⟨zob_393, rfl⟩ (zA (zinL_395 (i := 0) (by decide) (by decide)) trivial)) (fun c1 => ?_) (fun c1 => ?_)
    · skip
      refine zb_zret bkMo_isIdle_54 bdMo_isIdle_55 rfl (x := b) (h' := zN sg1) (Ps := []) rfl trivial rfl (by rcases kz with ⟨h, -⟩ | ⟨h, -⟩ <;> simp [h]) ?_
      refine hq _ _ ?_
      refine ⟨b, _, rfl, rfl, kf, ?_⟩
      rcases kz with ⟨kb, kz⟩ | kz
      · refine Or.inl ⟨kb, fun j j0 j1 => kz j j0 ?_⟩
        rcases (by lia : i = sg 395 0 ∨ i < sg 395 0) with h | h
        · lia
        · exfalso; lia
      · exact Or.inr kz
    · skip
      refine zb_ifeq (tgt := 54) bkMo_isIdle_14 bdMo_isIdle_15 (by decide) (lv' := [(0, .ref 393), (1, .int k), (2, .int b), (3, .int i)]) (st' := []) (h' := zN sg1) (x := b) (Ps := []) rfl trivial (fun c2 => ?_) (fun c2 => ?_)
      · skip
        refine zb_zret bkMo_isIdle_54 bdMo_isIdle_55 rfl (x := b) (h' := zN sg1) (Ps := []) rfl trivial rfl (by rcases kz with ⟨h, -⟩ | ⟨h, -⟩ <;> simp [h]) ?_
        refine hq _ _ ?_
        refine ⟨b, _, rfl, rfl, kf, ?_⟩
        rcases kz with ⟨kb, kz⟩ | kz
        · refine Or.inl ⟨kb, fun j j0 j1 => kz j j0 ?_⟩
          rcases (by lia : i = sg 395 0 ∨ i < sg 395 0) with h | h
          · lia
          · exfalso; lia
        · exact Or.inr kz
      · skip
        refine zG_run bkMo_isIdle_18 (lv' := [(0, .ref 393), (1, .int k), (2, .int b), (3, .int i)]) (st' := [.int i, .int k, .ref 393]) (h' := zN sg1) (Ps := []) rfl trivial ?_
        refine zG_callv (a := 393) (c := 10) (As := [.int k, .int i]) (rest := []) (N2 := 411) bdMo_isIdle_21 okMo_isOver lk10_189 (And.intro (by decide) (by decide)) (by decide) rfl rfl rfl (Nat.le_of_ble_eq_true rfl) (Nat.le_of_ble_eq_true rfl) (Nat.le_refl 411) (Nat.le_refl 411) zob_393 (cMo_isOver (by lia) (by lia)) ?_
        rintro rr h' ⟨rfl, rfl⟩ -
        refine zb_ifeq (tgt := 42) bkMo_isIdle_24 bdMo_isIdle_24 (by decide) (lv' := [(0, .ref 393), (1, .int k), (2, .int b), (3, .int i)]) (st' := []) (h' := zN sg1) (x := if sg1 395 (803 + 9 * k) = 1 ∧ sg1 395 (803 + 9 * k + 1) ≤ i ∧ i < sg1 395 (803 + 9 * k + 2) then 1 else 0) (Ps := []) rfl trivial (fun c3 => ?_) (fun c3 => ?_)
        · skip
          refine zG_run bkMo_isIdle_42 (lv' := [(3, .int (i + 1)), (2, .int 1), (0, .ref 393), (1, .int k)]) (st' := []) (h' := zN sg1) (Ps := []) rfl trivial ?_
          refine zG_pick (lv' := [(0, .ref 393), (1, .int k), (2, .int 1), (3, .int (i + 1))]) [2, 3, 1, 0] rfl ?_
          refine ih 1 (i + 1) sg1 ?_ ?_
          · refine ⟨?_, ?_, ?_, ?_⟩
            · lia
            · lia
            · exact kf
            · rcases kz with ⟨kb, kz⟩ | kz
              · refine Or.inl ⟨rfl, fun j j0 j1 => ?_⟩
                by_cases hj : j = i
                · rw [hj]; intro hv; unfold mOvr at hv; exfalso; simp only [ke] at *; clear ih hq kz; grind
                · exact kz j j0 (by lia)
              · exfalso; lia
          · exact zmu_up (by lia)
        · skip
          refine zG_run bkMo_isIdle_27 (lv' := [(0, .ref 393), (1, .int k), (2, .int b), (3, .int i)]) (st' := [.int (-1), .int i, .ref 393]) (h' := zN sg1) (Ps := []) rfl trivial ?_
          refine zG_callv (a := 393) (c := 10) (As := [.int i, .int (-1)]) (rest := []) (N2 := 411) bdMo_isIdle_30 okMo_styleOf lk10_265 (And.intro (by decide) (by decide)) (by decide) rfl rfl rfl (Nat.le_of_ble_eq_true rfl) (Nat.le_of_ble_eq_true rfl) (Nat.le_refl 411) (Nat.le_refl 411) zob_393 (cMo_styleOf (i := i) (but := (-1)) (by lia) (by lia) (by lia) (by lia)) ?_
          rintro rr h' ⟨sg2x, rfl, rfl, hfrsg2x, hmtsg2x⟩ -
          have krsg2x : sg2x 395 = sg 395 := by rw [mQ_row (mFr_Q hfrsg2x)]; exact kr
          have kxsg2x : sg2x 395 1 = sg 395 1 := congrFun krsg2x 1
          have eysg2x : mSy sg1 (-1) i = mSy sg (-1) i := by rw [mSy_row kr]
          refine zG_run bkMo_isIdle_33 (lv' := [(0, .ref 393), (1, .int k), (2, .int b), (3, .int i)]) (st' := [.int k, .int i, .ref 393, .int (mSy sg1 (-1) i)]) (h' := zN sg2x) (Ps := []) rfl trivial ?_
          refine zG_callv (a := 393) (c := 10) (As := [.int i, .int k]) (rest := [.int (mSy sg1 (-1) i)]) (N2 := 411) bdMo_isIdle_36 okMo_styleOf lk10_265 (And.intro (by decide) (by decide)) (by decide) rfl rfl rfl (Nat.le_of_ble_eq_true rfl) (Nat.le_of_ble_eq_true rfl) (Nat.le_refl 411) (Nat.le_refl 411) zob_393 (cMo_styleOf (i := i) (but := k) (by lia) (by lia) (by lia) (by lia)) ?_
          rintro rr h' ⟨sg3x, rfl, rfl, hfrsg3x, hmtsg3x⟩ -
          have krsg3x : sg3x 395 = sg 395 := by rw [mQ_row (mFr_Q hfrsg3x)]; exact krsg2x
          have kxsg3x : sg3x 395 1 = sg 395 1 := congrFun krsg3x 1
          have eysg3x : mSy sg2x k i = mSy sg k i := by rw [mSy_row krsg2x]
          refine zb_icne (tgt := 46) bkMo_isIdle_39 bdMo_isIdle_39 (by decide) (lv' := [(0, .ref 393), (1, .int k), (2, .int b), (3, .int i)]) (st' := []) (h' := zN sg3x) (x := mSy sg1 (-1) i) (y := mSy sg2x k i) (Ps := []) rfl trivial (fun c4 => ?_) (fun c4 => ?_)
          · skip
            refine zG_run bkMo_isIdle_46 (lv' := [(3, .int (i + 1)), (2, .int 0), (0, .ref 393), (1, .int k)]) (st' := []) (h' := zN sg3x) (Ps := []) rfl trivial ?_
            refine zG_pick (lv' := [(0, .ref 393), (1, .int k), (2, .int 0), (3, .int (i + 1))]) [2, 3, 1, 0] rfl ?_
            refine ih 0 (i + 1) sg3x ?_ ?_
            · refine ⟨?_, ?_, ?_, ?_⟩
              · lia
              · lia
              · exact mQ_trans kf (mQ_trans (mFr_Q hfrsg2x) (mFr_Q hfrsg3x))
              · refine Or.inr ⟨rfl, i, i0, by lia, ?_, ?_⟩
                · unfold mOvr; simp only [ke] at *; clear ih hq kz; grind
                · rw [← eysg2x, ← eysg3x]; assumption
            · exact zmu_up (by lia)
          · skip
            refine zG_run bkMo_isIdle_42 (lv' := [(3, .int (i + 1)), (2, .int 1), (0, .ref 393), (1, .int k)]) (st' := []) (h' := zN sg3x) (Ps := []) rfl trivial ?_
            refine zG_pick (lv' := [(0, .ref 393), (1, .int k), (2, .int 1), (3, .int (i + 1))]) [2, 3, 1, 0] rfl ?_
            refine ih 1 (i + 1) sg3x ?_ ?_
            · refine ⟨?_, ?_, ?_, ?_⟩
              · lia
              · lia
              · exact mQ_trans kf (mQ_trans (mFr_Q hfrsg2x) (mFr_Q hfrsg3x))
              · rcases kz with ⟨kb, kz⟩ | kz
                · refine Or.inl ⟨rfl, fun j j0 j1 => ?_⟩
                  by_cases hj : j = i
                  · rw [hj]; intro hv; unfold mOvr at hv; rw [← eysg2x, ← eysg3x]; assumption
                  · exact kz j j0 (by lia)
                · exfalso; lia
            · exact zmu_up (by lia)
  · refine ⟨?_, ?_, ?_, ?_⟩
    · lia
    · lia
    · exact mQ_refl
    · exact Or.inl ⟨rfl, fun j j0 j1 => by exfalso; lia⟩
theorem cMo_isIdle {sg : zSig} {k : Int32} (n0 : 0 ≤ sg 395 0) (n2 : sg 395 0 ≤ 200) (g0 : 0 ≤ sg 395 1) (g1 : sg 395 1 ≤ 16) (k0 : 0 ≤ k) (k1 : k < 16) : zG mMo_isIdle 411 (fun rr h' => ∃ v sg', rr = some (.int v) ∧ h' = zN sg' ∧ mQ sg sg' ∧ mId sg k v) 0 [(0, .ref 393), (1, .int k)] [] (zN sg) := lMo_isIdle n0 n2 g0 g1 k0 k1 (fun _ _ q => q)
def mSp (sg : zSig) (n w v : Int32) : Prop := if (((0 ≤ n ∧ n < sg 395 1) ∧ sg 395 (803 + 9 * n) = 1)) ∧ 0 ≤ w ∧ w ≤ 9 then (if w = 8 then mId sg n v else if w = 9 then v = zit (rN (mSy sg n)) 0 (sg 395 0) else if w = 5 then v = sg 395 (803 + 9 * n + 1 + w) - 1 else v = sg 395 (803 + 9 * n + 1 + w)) else v = -2147483648
theorem mId_01 {sg : zSig} {k v : Int32} (h : mId sg k v) : v = 0 ∨ v = 1 := h.elim (fun q => Or.inr q.1) (fun q => Or.inl q.1)
theorem bkMo_span_5 : zBk mMo_span 5 [(1, 0, 1, 0, 0), (1, 1, 0, 0, 0)] = some 7 := by decide +kernel
theorem bkMo_span_10 : zBk mMo_span 10 [] = some 10 := by decide +kernel
theorem bkMo_span_25 : zBk mMo_span 25 [(0, 0, 0, 0, -2147483648)] = some 28 := by decide +kernel
theorem bkMo_span_13 : zBk mMo_span 13 [(1, 2, 0, 0, 0), (14, 0, 0, 0, 0), (15, 0, 0, 0, 0), (15, 0, 0, 0, 9)] = some 19 := by decide +kernel
theorem bkMo_span_22 : zBk mMo_span 22 [] = some 22 := by decide +kernel
theorem bkMo_span_29 : zBk mMo_span 29 [(1, 2, 0, 0, 0), (0, 0, 0, 0, 8)] = some 32 := by decide +kernel
theorem bkMo_span_49 : zBk mMo_span 49 [(1, 2, 0, 0, 0), (0, 0, 0, 0, 9)] = some 52 := by decide +kernel
theorem bkMo_span_65 : zBk mMo_span 65 [(1, 0, 1, 0, 0), (5, 10, 3, 2, 3), (1, 1, 0, 0, 0)] = some 70 := by decide +kernel
theorem bkMo_span_73 : zBk mMo_span 73 [(0, 0, 0, 0, 1), (4, 0, 0, 0, 0), (1, 2, 0, 0, 0), (4, 0, 0, 0, 0), (7, 0, 0, 0, 0), (2, 3, 0, 0, 0), (1, 2, 0, 0, 0), (0, 0, 0, 0, 5)] = some 81 := by decide +kernel
theorem bkMo_span_90 : zBk mMo_span 90 [(1, 3, 0, 0, 0)] = some 91 := by decide +kernel
theorem bkMo_span_84 : zBk mMo_span 84 [(1, 3, 0, 0, 0), (0, 0, 0, 0, 1), (4, 1, 0, 0, 0), (22, 91, 0, 0, 0)] = some 91 := by decide +kernel
theorem bkMo_span_55 : zBk mMo_span 55 [(1, 0, 1, 0, 0), (1, 1, 0, 0, 0)] = some 57 := by decide +kernel
theorem bkMo_span_60 : zBk mMo_span 60 [(1, 0, 1, 0, 0), (5, 10, 29, 0, 29)] = some 64 := by decide +kernel
theorem bkMo_span_35 : zBk mMo_span 35 [(1, 0, 1, 0, 0), (1, 1, 0, 0, 0)] = some 37 := by decide +kernel
theorem bkMo_span_40 : zBk mMo_span 40 [] = some 40 := by decide +kernel
theorem bkMo_span_47 : zBk mMo_span 47 [(0, 0, 0, 0, 0)] = some 48 := by decide +kernel
theorem bkMo_span_43 : zBk mMo_span 43 [(0, 0, 0, 0, 1), (22, 48, 0, 0, 0)] = some 48 := by decide +kernel
theorem bkMo_span_0 : zBk mMo_span 0 [(1, 0, 1, 0, 0), (0, 0, 0, 0, 0), (6, 10, 0, 0, 0)] = some 5 := by decide +kernel
theorem bdMo_span_7 : decode mMo_span.2.2.1 7 = .ok (.invokevirtual 151, 3) := by decide +kernel
theorem bdMo_span_10 : decode mMo_span.2.2.1 10 = .ok (.ifCond .eq 15, 3) := by decide +kernel
theorem bdMo_span_19 : decode mMo_span.2.2.1 19 = .ok (.invokestatic 87, 3) := by decide +kernel
theorem bdMo_span_22 : decode mMo_span.2.2.1 22 = .ok (.ifCond .ne 7, 3) := by decide +kernel
theorem bdMo_span_28 : decode mMo_span.2.2.1 28 = .ok (.ireturn, 1) := by decide +kernel
theorem bdMo_span_32 : decode mMo_span.2.2.1 32 = .ok (.if_icmp .ne 17, 3) := by decide +kernel
theorem bdMo_span_37 : decode mMo_span.2.2.1 37 = .ok (.invokevirtual 283, 3) := by decide +kernel
theorem bdMo_span_40 : decode mMo_span.2.2.1 40 = .ok (.ifCond .eq 7, 3) := by decide +kernel
theorem bdMo_span_48 : decode mMo_span.2.2.1 48 = .ok (.ireturn, 1) := by decide +kernel
theorem bdMo_span_52 : decode mMo_span.2.2.1 52 = .ok (.if_icmp .ne 13, 3) := by decide +kernel
theorem bdMo_span_57 : decode mMo_span.2.2.1 57 = .ok (.invokevirtual 272, 3) := by decide +kernel
theorem bdMo_span_64 : decode mMo_span.2.2.1 64 = .ok (.ireturn, 1) := by decide +kernel
theorem bdMo_span_70 : decode mMo_span.2.2.1 70 = .ok (.invokestatic 91, 3) := by decide +kernel
theorem bdMo_span_81 : decode mMo_span.2.2.1 81 = .ok (.if_icmp .ne 9, 3) := by decide +kernel
theorem bdMo_span_91 : decode mMo_span.2.2.1 91 = .ok (.ireturn, 1) := by decide +kernel
theorem bMo_span {sg : zSig} {n w : Int32} (n0 : 0 ≤ sg 395 0) (n2 : sg 395 0 ≤ 200) (g0 : 0 ≤ sg 395 1) (g1 : sg 395 1 ≤ 16) (hp : okP sg) : zG mMo_span 411 (fun rr h' => ∃ v sg', rr = some (.int v) ∧ h' = zN sg' ∧ mQ sg sg' ∧ mSp sg n w v) 5 [(0, .ref 393), (1, .int n), (2, .int w)] [] (zN sg) := by
  refine zG_run bkMo_span_5 (lv' := [(0, .ref 393), (1, .int n), (2, .int w)]) (st' := [.int n, .ref 393]) (h' := zN sg) (Ps := []) rfl trivial ?_
  refine zG_callv (a := 393) (c := 10) (As := [.int n]) (rest := []) (N2 := 411) bdMo_span_7 okMo_isSpan lk10_151 (And.intro (by decide) (by decide)) (by decide) rfl rfl rfl (Nat.le_of_ble_eq_true rfl) (Nat.le_of_ble_eq_true rfl) (Nat.le_refl 411) (Nat.le_refl 411) zob_393 (cMo_isSpan (by lia)) ?_
  rintro rr h' ⟨rfl, rfl⟩ -
  refine zb_ifeq (tgt := 25) bkMo_span_10 bdMo_span_10 (by decide) (lv' := [(0, .ref 393), (1, .int n), (2, .int w)]) (st' := []) (h' := zN sg) (x := if (0 ≤ n ∧ n < sg 395 1) ∧ sg 395 (803 + 9 * n) = 1 then 1 else 0) (Ps := []) rfl trivial (fun c1 => ?_) (fun c1 => ?_)
  · skip
    refine zb_iret bkMo_span_25 bdMo_span_28 rfl (x := (-2147483648)) (h' := zN sg) (Ps := []) rfl trivial rfl ?_
    refine ⟨_, _, rfl, rfl, mQ_refl, ?_⟩
    unfold mSp; rw [if_neg (by clear hp; grind)]
  · skip
    refine zG_run bkMo_span_13 (lv' := [(0, .ref 393), (1, .int n), (2, .int w)]) (st' := [.long ((9 : Int32).toInt64), .long ((0 : Int32).toInt64), .long w.toInt64]) (h' := zN sg) (Ps := []) rfl trivial ?_
    refine zG_calls (As := [.long w.toInt64, .long ((0 : Int32).toInt64), .long ((9 : Int32).toInt64)]) (rest := []) (N2 := 411) bdMo_span_19 okMo_in lk10_87 (And.intro (by decide) (by decide)) rfl rfl (Nat.le_of_ble_eq_true rfl) (Nat.le_of_ble_eq_true rfl) (Nat.le_refl 411) (Nat.le_refl 411) cMo_inA ?_
    rintro rr h' ⟨rfl, rfl⟩ -
    refine zb_ifne (tgt := 29) bkMo_span_22 bdMo_span_22 (by decide) (lv' := [(0, .ref 393), (1, .int n), (2, .int w)]) (st' := []) (h' := zN sg) (x := if 0 ≤ w ∧ w ≤ 9 then 1 else 0) (Ps := []) rfl trivial (fun c2 => ?_) (fun c2 => ?_)
    · skip
      have hc : ((0 ≤ n ∧ n < sg 395 1) ∧ sg 395 (803 + 9 * n) = 1) ∧ 0 ≤ w ∧ w ≤ 9 := by clear hp; grind
      refine zb_icne (tgt := 49) bkMo_span_29 bdMo_span_32 (by decide) (lv' := [(0, .ref 393), (1, .int n), (2, .int w)]) (st' := []) (h' := zN sg) (x := w) (y := 8) (Ps := []) rfl trivial (fun c3 => ?_) (fun c3 => ?_)
      · skip
        refine zb_icne (tgt := 65) bkMo_span_49 bdMo_span_52 (by decide) (lv' := [(0, .ref 393), (1, .int n), (2, .int w)]) (st' := []) (h' := zN sg) (x := w) (y := 9) (Ps := []) rfl trivial (fun c4 => ?_) (fun c4 => ?_)
        · skip
          refine zG_run bkMo_span_65 (lv' := [(0, .ref 393), (1, .int n), (2, .int w)]) (st' := [.int n, .ref 395]) (h' := zN sg) (Ps := [zOb (zN sg) 393 10 ∧ (zN sg).2.2 393 3 = true]) rfl (zA ⟨zob_393, rfl⟩ trivial) ?_
          refine zG_calls (As := [.int n]) (rest := [.ref 395]) (N2 := 411) bdMo_span_70 okMo_spanAt lk10_91 (And.intro (by decide) (by decide)) rfl rfl (Nat.le_of_ble_eq_true rfl) (Nat.le_of_ble_eq_true rfl) (Nat.le_refl 411) (Nat.le_refl 411) cMo_spanAt ?_
          rintro rr h' ⟨rfl, rfl⟩ -
          refine zb_icne (tgt := 90) bkMo_span_73 bdMo_span_81 (by decide) (lv' := [(3, .int (sg 395 (((803 + 9 * n) + 1) + w))), (0, .ref 393), (1, .int n), (2, .int w)]) (st' := []) (h' := zN sg) (x := w) (y := 5) (Ps := [zInL (zN sg) 395 (((803 + 9 * n) + 1) + w)]) rfl (zA (zinL_395 (i := ((803 + 9 * n) + 1) + w) (by lia) (by lia)) trivial) (fun c5 => ?_) (fun c5 => ?_)
          · skip
            refine zb_iret bkMo_span_90 bdMo_span_91 rfl (x := sg 395 (((803 + 9 * n) + 1) + w)) (h' := zN sg) (Ps := []) rfl trivial rfl ?_
            refine ⟨_, _, rfl, rfl, mQ_refl, ?_⟩
            unfold mSp; rw [if_pos hc, if_neg (by lia), if_neg (by lia)]; first | rw [if_pos (by lia)] | rw [if_neg (by lia)]
          · skip
            refine zb_iret bkMo_span_84 bdMo_span_91 rfl (x := (sg 395 (((803 + 9 * n) + 1) + w)) - 1) (h' := zN sg) (Ps := []) rfl trivial rfl ?_
            refine ⟨_, _, rfl, rfl, mQ_refl, ?_⟩
            unfold mSp; rw [if_pos hc, if_neg (by lia), if_neg (by lia)]; first | rw [if_pos (by lia)] | rw [if_neg (by lia)]
        · skip
          refine zG_run bkMo_span_55 (lv' := [(0, .ref 393), (1, .int n), (2, .int w)]) (st' := [.int n, .ref 393]) (h' := zN sg) (Ps := []) rfl trivial ?_
          refine zG_callv (a := 393) (c := 10) (As := [.int n]) (rest := []) (N2 := 411) bdMo_span_57 okMo_layRuns lk10_272 (And.intro (by decide) (by decide)) (by decide) rfl rfl rfl (Nat.le_of_ble_eq_true rfl) (Nat.le_of_ble_eq_true rfl) (Nat.le_refl 411) (Nat.le_refl 411) zob_393 (cMo_layRuns (but := n) (by lia) (by lia) (by lia) (by lia) (mSy_n0 _ hp g0)) ?_
          rintro rr h' ⟨sg2, rfl, rfl, hf2, hr2⟩ -
          have kr2 := mQ_row hf2
          have r02 := hr2.2.1
          refine zb_iret bkMo_span_60 bdMo_span_64 rfl (x := sg2 393 29) (h' := zN sg2) (Ps := [zOb (zN sg2) 393 10]) rfl (zA zob_393 trivial) rfl ?_
          refine ⟨_, _, rfl, rfl, hf2, ?_⟩
          unfold mSp; rw [if_pos hc, if_neg (by lia), if_pos (by lia)]; exact hr2.1
      · skip
        refine zG_run bkMo_span_35 (lv' := [(0, .ref 393), (1, .int n), (2, .int w)]) (st' := [.int n, .ref 393]) (h' := zN sg) (Ps := []) rfl trivial ?_
        refine zG_callv (a := 393) (c := 10) (As := [.int n]) (rest := []) (N2 := 411) bdMo_span_37 okMo_isIdle lk10_283 (And.intro (by decide) (by decide)) (by decide) rfl rfl rfl (Nat.le_of_ble_eq_true rfl) (Nat.le_of_ble_eq_true rfl) (Nat.le_refl 411) (Nat.le_refl 411) zob_393 (cMo_isIdle (k := n) (by lia) (by lia) (by lia) (by lia) (by lia) (by lia)) ?_
        rintro rr h' ⟨vi, sg4, rfl, rfl, hf4, hid⟩ -
        refine zb_ifeq (tgt := 47) bkMo_span_40 bdMo_span_40 (by decide) (lv' := [(0, .ref 393), (1, .int n), (2, .int w)]) (st' := []) (h' := zN sg4) (x := vi) (Ps := []) rfl trivial (fun c6 => ?_) (fun c6 => ?_)
        · skip
          refine zb_iret bkMo_span_47 bdMo_span_48 rfl (x := 0) (h' := zN sg4) (Ps := []) rfl trivial rfl ?_
          refine ⟨_, _, rfl, rfl, hf4, ?_⟩
          unfold mSp; rw [if_pos hc, if_pos (by lia)]
          have h01 := mId_01 hid
          first | (rw [show (1 : Int32) = vi by lia]; exact hid) | (rw [show (0 : Int32) = vi by lia]; exact hid)
        · skip
          refine zb_iret bkMo_span_43 bdMo_span_48 rfl (x := 1) (h' := zN sg4) (Ps := []) rfl trivial rfl ?_
          refine ⟨_, _, rfl, rfl, hf4, ?_⟩
          unfold mSp; rw [if_pos hc, if_pos (by lia)]
          have h01 := mId_01 hid
          first | (rw [show (1 : Int32) = vi by lia]; exact hid) | (rw [show (0 : Int32) = vi by lia]; exact hid)
    · skip
      refine zb_iret bkMo_span_25 bdMo_span_28 rfl (x := (-2147483648)) (h' := zN sg) (Ps := []) rfl trivial rfl ?_
      refine ⟨_, _, rfl, rfl, mQ_refl, ?_⟩
      unfold mSp; rw [if_neg (by clear hp; grind)]
theorem tMo_span {sg : zSig} {n w : Int32} {Q : Option Value → zHp → Prop} (g : zG mMo_span 411 Q 5 [(0, .ref 393), (1, .int n), (2, .int w)] [] (zN (zup sg 393 0 0))) : zG mMo_span 411 Q 0 [(0, .ref 393), (1, .int n), (2, .int w)] [] (zN sg) :=
  zG_run bkMo_span_0 (lv' := [(0, .ref 393), (1, .int n), (2, .int w)]) (st' := []) (h' := zN (zup sg 393 0 0)) (Ps := [zOb (zN sg) 393 10]) rfl (zA zob_393 trivial) g
def mIb (sg : zSig) (k : Int32) : Int32 := zit (fun j a => if mSy sg (-1) j ≠ mSy sg k j then 0 else a) 1 (sg 395 0)
def mid1 (sg : zSig) (F : Int32 → Int32) (k b : Int32) : Int32 := if sg 395 (803 + 9 * k) = 1 ∧ F k ≠ 0 then b ||| (1 <<< (k &&& 31)) else b ||| 0
theorem mid1_n {sg : zSig} {F : Int32 → Int32} {k vi j x : Int32} (h : j ≠ k) : mid1 sg (fun j => if j = k then vi else F j) j x = mid1 sg F j x := by
  have e : (fun j => if j = k then vi else F j) j = F j := if_neg h
  unfold mid1; rw [e]
theorem mid1_y {sg : zSig} {F : Int32 → Int32} {k vi x : Int32} : mid1 sg (fun j => if j = k then vi else F j) k x = if sg 395 (803 + 9 * k) = 1 ∧ vi ≠ 0 then x ||| (1 <<< (k &&& 31)) else x ||| 0 := by
  have e : (fun j => if j = k then vi else F j) k = vi := if_pos rfl
  unfold mid1; rw [e]
theorem mId_row {sg sg' : zSig} {k v : Int32} (h : sg' 395 = sg 395) (q : mId sg' k v) : mId sg k v := by
  unfold mId mOvr at *
  rw [mSy_row h, mSy_row h, h] at q
  exact q
theorem bkMo_idle_5 : zBk mMo_idle 5 [(0, 0, 0, 0, 0), (2, 1, 0, 0, 0), (0, 0, 0, 0, 0), (2, 2, 0, 0, 0)] = some 9 := by decide +kernel
theorem bkMo_idle_9 : zBk mMo_idle 9 [(1, 2, 0, 0, 0), (1, 0, 1, 0, 0), (5, 10, 3, 2, 3), (0, 0, 0, 0, 1), (7, 0, 0, 0, 0)] = some 16 := by decide +kernel
theorem bkMo_idle_51 : zBk mMo_idle 51 [(1, 1, 0, 0, 0)] = some 52 := by decide +kernel
theorem bkMo_idle_19 : zBk mMo_idle 19 [(1, 1, 0, 0, 0), (1, 0, 1, 0, 0), (1, 2, 0, 0, 0)] = some 22 := by decide +kernel
theorem bkMo_idle_25 : zBk mMo_idle 25 [] = some 25 := by decide +kernel
theorem bkMo_idle_42 : zBk mMo_idle 42 [(0, 0, 0, 0, 0), (4, 4, 0, 0, 0), (2, 1, 0, 0, 0), (3, 2, 0, 0, 1), (22, 9, 0, 0, 0)] = some 9 := by decide +kernel
theorem bkMo_idle_28 : zBk mMo_idle 28 [(1, 0, 1, 0, 0), (1, 2, 0, 0, 0)] = some 30 := by decide +kernel
theorem bkMo_idle_33 : zBk mMo_idle 33 [] = some 33 := by decide +kernel
theorem bkMo_idle_36 : zBk mMo_idle 36 [(0, 0, 0, 0, 1), (1, 2, 0, 0, 0), (4, 6, 0, 0, 0), (22, 43, 0, 0, 0), (4, 4, 0, 0, 0), (2, 1, 0, 0, 0), (3, 2, 0, 0, 1), (22, 9, 0, 0, 0)] = some 9 := by decide +kernel
theorem bkMo_idle_0 : zBk mMo_idle 0 [(1, 0, 1, 0, 0), (0, 0, 0, 0, 0), (6, 10, 0, 0, 0)] = some 5 := by decide +kernel
theorem bdMo_idle_16 : decode mMo_idle.2.2.1 16 = .ok (.if_icmp .ge 35, 3) := by decide +kernel
theorem bdMo_idle_22 : decode mMo_idle.2.2.1 22 = .ok (.invokevirtual 151, 3) := by decide +kernel
theorem bdMo_idle_25 : decode mMo_idle.2.2.1 25 = .ok (.ifCond .eq 17, 3) := by decide +kernel
theorem bdMo_idle_30 : decode mMo_idle.2.2.1 30 = .ok (.invokevirtual 283, 3) := by decide +kernel
theorem bdMo_idle_33 : decode mMo_idle.2.2.1 33 = .ok (.ifCond .eq 9, 3) := by decide +kernel
theorem bdMo_idle_52 : decode mMo_idle.2.2.1 52 = .ok (.ireturn, 1) := by decide +kernel
theorem lMo_idle {sg : zSig}  (n0 : 0 ≤ sg 395 0) (n2 : sg 395 0 ≤ 200) (g0 : 0 ≤ sg 395 1) (g1 : sg 395 1 ≤ 16) (hp : okP sg) {Q : Option Value → zHp → Prop} (hq : ∀ rr h', (∃ v sg', rr = some (.int v) ∧ h' = zN sg' ∧ mQ sg sg' ∧ ∃ F : Int32 → Int32, (∀ j, 0 ≤ j → j < sg 395 1 → sg 395 (803 + 9 * j) = 1 → mId sg j (F j)) ∧ v = zit (mid1 sg F) 0 (sg 395 1)) → Q rr h') : zG mMo_idle 411 Q 5 [(0, .ref 393)] [] (zN sg) := by
  refine zG_run bkMo_idle_5 (lv' := [(2, .int 0), (1, .int 0), (0, .ref 393)]) (st' := []) (h' := zN sg) (Ps := []) rfl trivial ?_
  refine zG_pick (lv' := [(0, .ref 393), (1, .int 0), (2, .int 0)]) [2, 1, 0] rfl ?_
  refine zlp3 (fun (b : Int32) (k : Int32) (sg1 : zSig) => zG mMo_idle 411 Q 9 [(0, .ref 393), (1, .int b), (2, .int k)] [] (zN sg1)) (fun (b : Int32) (k : Int32) (sg1 : zSig) => (0 ≤ k) ∧ (k ≤ sg 395 1) ∧ (mQ sg sg1) ∧ (∃ F : Int32 → Int32, (∀ j, 0 ≤ j → j < k → sg 395 (803 + 9 * j) = 1 → mId sg j (F j)) ∧ b = zit (mid1 sg F) 0 k)) (fun (b : Int32) (k : Int32) (sg1 : zSig) => zmu (sg 395 1) k) ?_ 0 0 sg ?_
  · intro b k sg1 hI ih
    obtain ⟨k0, k1, kf, kz⟩ := hI
    have kr := mQ_row kf
    have ke : ∀ j, sg1 395 j = sg 395 j := fun j => congrFun kr j
    have ke0 := ke 0
    have ke1 := ke 1
    refine zb_icge (tgt := 51) bkMo_idle_9 bdMo_idle_16 (by decide) (lv' := [(0, .ref 393), (1, .int b), (2, .int k)]) (st' := []) (h' := zN sg1) (x := k) (y := sg1 395 1) (Ps := [zOb (zN sg1) 393 10 ∧ (zN sg1).2.2 393 3 = true, zInL (zN sg1) 395 1]) rfl (zA ⟨zob_393, rfl⟩ (zA (zinL_395 (i := 1) (by decide) (by decide)) trivial)) (fun c1 => ?_) (fun c1 => ?_)
    · skip
      refine zb_iret bkMo_idle_51 bdMo_idle_52 rfl (x := b) (h' := zN sg1) (Ps := []) rfl trivial rfl ?_
      refine hq _ _ ?_
      refine ⟨_, _, rfl, rfl, kf, ?_⟩
      rw [show k = sg 395 1 by lia] at kz; exact kz
    · skip
      refine zG_run bkMo_idle_19 (lv' := [(0, .ref 393), (1, .int b), (2, .int k)]) (st' := [.int k, .ref 393, .int b]) (h' := zN sg1) (Ps := []) rfl trivial ?_
      refine zG_callv (a := 393) (c := 10) (As := [.int k]) (rest := [.int b]) (N2 := 411) bdMo_idle_22 okMo_isSpan lk10_151 (And.intro (by decide) (by decide)) (by decide) rfl rfl rfl (Nat.le_of_ble_eq_true rfl) (Nat.le_of_ble_eq_true rfl) (Nat.le_refl 411) (Nat.le_refl 411) zob_393 (cMo_isSpan (by lia)) ?_
      rintro rr h' ⟨rfl, rfl⟩ -
      refine zb_ifeq (tgt := 42) bkMo_idle_25 bdMo_idle_25 (by decide) (lv' := [(0, .ref 393), (1, .int b), (2, .int k)]) (st' := [.int b]) (h' := zN sg1) (x := if (0 ≤ k ∧ k < sg1 395 1) ∧ sg1 395 (803 + 9 * k) = 1 then 1 else 0) (Ps := []) rfl trivial (fun c2 => ?_) (fun c2 => ?_)
      · skip
        refine zG_run bkMo_idle_42 (lv' := [(2, .int (k + 1)), (1, .int (b ||| 0)), (0, .ref 393)]) (st' := []) (h' := zN sg1) (Ps := []) rfl trivial ?_
        refine zG_pick (lv' := [(0, .ref 393), (1, .int (b ||| 0)), (2, .int (k + 1))]) [2, 1, 0] rfl ?_
        refine ih (b ||| 0) (k + 1) sg1 ?_ ?_
        · refine ⟨?_, ?_, ?_, ?_⟩
          · lia
          · lia
          · exact kf
          · obtain ⟨F, hF, kz⟩ := kz
            simp only [ke] at *
            refine ⟨F, fun j j0 j1 hj => hF j j0 (by grind) hj, ?_⟩
            rw [zit_s _ _ k0 (by lia : k < sg 395 1), ← kz]; unfold mid1; rw [if_neg (by clear ih hq; grind)]
        · exact zmu_up (by lia)
      · skip
        refine zG_run bkMo_idle_28 (lv' := [(0, .ref 393), (1, .int b), (2, .int k)]) (st' := [.int k, .ref 393, .int b]) (h' := zN sg1) (Ps := []) rfl trivial ?_
        refine zG_callv (a := 393) (c := 10) (As := [.int k]) (rest := [.int b]) (N2 := 411) bdMo_idle_30 okMo_isIdle lk10_283 (And.intro (by decide) (by decide)) (by decide) rfl rfl rfl (Nat.le_of_ble_eq_true rfl) (Nat.le_of_ble_eq_true rfl) (Nat.le_refl 411) (Nat.le_refl 411) zob_393 (cMo_isIdle (k := k) (by lia) (by lia) (by lia) (by lia) (by lia) (by lia)) ?_
        rintro rr h' ⟨vi, sg4, rfl, rfl, hf4, hid⟩ -
        refine zb_ifeq (tgt := 42) bkMo_idle_33 bdMo_idle_33 (by decide) (lv' := [(0, .ref 393), (1, .int b), (2, .int k)]) (st' := [.int b]) (h' := zN sg4) (x := vi) (Ps := []) rfl trivial (fun c3 => ?_) (fun c3 => ?_)
        · skip
          refine zG_run bkMo_idle_42 (lv' := [(2, .int (k + 1)), (1, .int (b ||| 0)), (0, .ref 393)]) (st' := []) (h' := zN sg4) (Ps := []) rfl trivial ?_
          refine zG_pick (lv' := [(0, .ref 393), (1, .int (b ||| 0)), (2, .int (k + 1))]) [2, 1, 0] rfl ?_
          refine ih (b ||| 0) (k + 1) sg4 ?_ ?_
          · refine ⟨?_, ?_, ?_, ?_⟩
            · lia
            · lia
            · exact mQ_trans kf hf4
            · obtain ⟨F, hF, kz⟩ := kz
              simp only [ke] at *
              have hid2 := mId_row kr hid
              refine ⟨fun j => if j = k then vi else F j, fun j j0 j1 hj => ?_, ?_⟩
              · by_cases hjk : j = k
                · show mId sg j (if j = k then vi else F j); rw [if_pos hjk, hjk]; exact hid2
                · show mId sg j (if j = k then vi else F j); rw [if_neg hjk]; exact hF j j0 (by lia) hj
              · rw [zit_s _ _ k0 (by lia : k < sg 395 1)]
                rw [zit_congr (g := mid1 sg F) k0 (fun j x j0 j1 => mid1_n (by lia)), ← kz, mid1_y]
                first | rw [if_pos (by clear ih hq hF; grind)] | rw [if_neg (by clear ih hq hF; grind)]
          · exact zmu_up (by lia)
        · skip
          refine zG_run bkMo_idle_36 (lv' := [(2, .int (k + 1)), (1, .int (b ||| (1 <<< (k &&& 31)))), (0, .ref 393)]) (st' := []) (h' := zN sg4) (Ps := []) rfl trivial ?_
          refine zG_pick (lv' := [(0, .ref 393), (1, .int (b ||| (1 <<< (k &&& 31)))), (2, .int (k + 1))]) [2, 1, 0] rfl ?_
          refine ih (b ||| (1 <<< (k &&& 31))) (k + 1) sg4 ?_ ?_
          · refine ⟨?_, ?_, ?_, ?_⟩
            · lia
            · lia
            · exact mQ_trans kf hf4
            · obtain ⟨F, hF, kz⟩ := kz
              simp only [ke] at *
              have hid2 := mId_row kr hid
              refine ⟨fun j => if j = k then vi else F j, fun j j0 j1 hj => ?_, ?_⟩
              · by_cases hjk : j = k
                · show mId sg j (if j = k then vi else F j); rw [if_pos hjk, hjk]; exact hid2
                · show mId sg j (if j = k then vi else F j); rw [if_neg hjk]; exact hF j j0 (by lia) hj
              · rw [zit_s _ _ k0 (by lia : k < sg 395 1)]
                rw [zit_congr (g := mid1 sg F) k0 (fun j x j0 j1 => mid1_n (by lia)), ← kz, mid1_y]
                first | rw [if_pos (by clear ih hq hF; grind)] | rw [if_neg (by clear ih hq hF; grind)]
          · exact zmu_up (by lia)
  · refine ⟨?_, ?_, ?_, ?_⟩
    · lia
    · lia
    · exact mQ_refl
    · exact ⟨fun _ => 0, fun j j0 j1 => by exfalso; lia, rfl⟩
theorem bMo_idle {sg : zSig}  (n0 : 0 ≤ sg 395 0) (n2 : sg 395 0 ≤ 200) (g0 : 0 ≤ sg 395 1) (g1 : sg 395 1 ≤ 16) (hp : okP sg) : zG mMo_idle 411 (fun rr h' => ∃ v sg', rr = some (.int v) ∧ h' = zN sg' ∧ mQ sg sg' ∧ ∃ F : Int32 → Int32, (∀ j, 0 ≤ j → j < sg 395 1 → sg 395 (803 + 9 * j) = 1 → mId sg j (F j)) ∧ v = zit (mid1 sg F) 0 (sg 395 1)) 5 [(0, .ref 393)] [] (zN sg) := lMo_idle n0 n2 g0 g1 hp (fun _ _ q => q)
theorem tMo_idle {sg : zSig}  {Q : Option Value → zHp → Prop} (g : zG mMo_idle 411 Q 5 [(0, .ref 393)] [] (zN (zup sg 393 0 0))) : zG mMo_idle 411 Q 0 [(0, .ref 393)] [] (zN sg) :=
  zG_run bkMo_idle_0 (lv' := [(0, .ref 393)]) (st' := []) (h' := zN (zup sg 393 0 0)) (Ps := [zOb (zN sg) 393 10]) rfl (zA zob_393 trivial) g
def mRs (sg : zSig) (s l : Int32) : Int32 := zit (rN (mSy (zup sg 395 (803 + 9 * s + 3) l) (-1))) 0 (sg 395 0)
theorem mRs_row {sg sg' : zSig} {s l : Int32} (h : sg' 395 = sg 395) : mRs sg' s l = mRs sg s l := by
  unfold mRs
  rw [mSy_row (sg := zup sg 395 (803 + 9 * s + 3) l) (by funext j; rw [zup_e, zup_e, h]), h]
theorem bkMo_runsBy_0 : zBk mMo_runsBy 0 [(1, 1, 0, 0, 0)] = some 1 := by decide +kernel
theorem bkMo_runsBy_4 : zBk mMo_runsBy 4 [(0, 0, 0, 0, 3), (4, 0, 0, 0, 0), (2, 3, 0, 0, 0), (1, 0, 1, 0, 0), (5, 10, 3, 2, 3), (1, 3, 0, 0, 0), (7, 0, 0, 0, 0), (2, 4, 0, 0, 0), (1, 0, 1, 0, 0), (5, 10, 3, 2, 3), (1, 3, 0, 0, 0), (1, 2, 0, 0, 0), (8, 0, 0, 0, 0), (1, 0, 1, 0, 0), (0, 0, 0, 0, -1)] = some 24 := by decide +kernel
theorem bkMo_runsBy_27 : zBk mMo_runsBy 27 [(1, 0, 1, 0, 0), (5, 10, 3, 2, 3), (1, 3, 0, 0, 0), (1, 4, 0, 0, 0), (8, 0, 0, 0, 0), (1, 0, 1, 0, 0), (5, 10, 29, 0, 29)] = some 39 := by decide +kernel
theorem bdMo_runsBy_1 : decode mMo_runsBy.2.2.1 1 = .ok (.invokestatic 91, 3) := by decide +kernel
theorem bdMo_runsBy_24 : decode mMo_runsBy.2.2.1 24 = .ok (.invokevirtual 272, 3) := by decide +kernel
theorem bdMo_runsBy_39 : decode mMo_runsBy.2.2.1 39 = .ok (.ireturn, 1) := by decide +kernel
theorem cMo_runsBy {sg : zSig} {s l : Int32} (n0 : 0 ≤ sg 395 0) (n2 : sg 395 0 ≤ 200) (g0 : 0 ≤ sg 395 1) (g1 : sg 395 1 ≤ 16) (hp : okP sg) (s0 : 0 ≤ s) (s1 : s < 16) : zG mMo_runsBy 411 (fun rr h' => ∃ v sg', rr = some (.int v) ∧ h' = zN sg' ∧ mQ sg sg' ∧ v = mRs sg s l) 0 [(0, .ref 393), (1, .int s), (2, .int l)] [] (zN sg) := by
  have en0 : zup sg 395 (803 + 9 * s + 3) l 395 0 = sg 395 0 := zup_i (by lia)
  have en1 : zup sg 395 (803 + 9 * s + 3) l 395 1 = sg 395 1 := zup_i (by lia)
  refine zG_run bkMo_runsBy_0 (lv' := [(0, .ref 393), (1, .int s), (2, .int l)]) (st' := [.int s]) (h' := zN sg) (Ps := []) rfl trivial ?_
  refine zG_calls (As := [.int s]) (rest := []) (N2 := 411) bdMo_runsBy_1 okMo_spanAt lk10_91 (And.intro (by decide) (by decide)) rfl rfl (Nat.le_of_ble_eq_true rfl) (Nat.le_of_ble_eq_true rfl) (Nat.le_refl 411) (Nat.le_refl 411) cMo_spanAt ?_
  rintro rr h' ⟨rfl, rfl⟩ -
  refine zG_run bkMo_runsBy_4 (lv' := [(4, .int (sg 395 ((803 + 9 * s) + 3))), (3, .int ((803 + 9 * s) + 3)), (0, .ref 393), (1, .int s), (2, .int l)]) (st' := [.int (-1), .ref 393]) (h' := zN (zup sg 395 ((803 + 9 * s) + 3) l)) (Ps := [zOb (zN sg) 393 10 ∧ (zN sg).2.2 393 3 = true, zInL (zN sg) 395 ((803 + 9 * s) + 3), zOb (zN sg) 393 10 ∧ (zN sg).2.2 393 3 = true, zIn (zN sg) 395 0 ((803 + 9 * s) + 3)]) rfl (zA ⟨zob_393, rfl⟩ (zA (zinL_395 (i := (803 + 9 * s) + 3) (by lia) (by lia)) (zA ⟨zob_393, rfl⟩ (zA (zin_395 (i := (803 + 9 * s) + 3) (by lia) (by lia)) trivial)))) ?_
  refine zG_callv (a := 393) (c := 10) (As := [.int (-1)]) (rest := []) (N2 := 411) bdMo_runsBy_24 okMo_layRuns lk10_272 (And.intro (by decide) (by decide)) (by decide) rfl rfl rfl (Nat.le_of_ble_eq_true rfl) (Nat.le_of_ble_eq_true rfl) (Nat.le_refl 411) (Nat.le_refl 411) zob_393 (cMo_layRuns (but := (-1)) (by lia) (by lia) (by lia) (by lia) (mSy_n0 _ (okP_lay s0 s1 n2 g1 hp) (by lia))) ?_
  rintro rr h' ⟨sg2, rfl, rfl, hf2, hr2⟩ -
  have kr2 := mQ_row hf2
  have r02 := hr2.2.1
  refine zb_iret bkMo_runsBy_27 bdMo_runsBy_39 rfl (x := (zup sg2 395 ((803 + 9 * s) + 3) (sg 395 ((803 + 9 * s) + 3))) 393 29) (h' := zN (zup sg2 395 ((803 + 9 * s) + 3) (sg 395 ((803 + 9 * s) + 3)))) (Ps := [zOb (zN sg2) 393 10 ∧ (zN sg2).2.2 393 3 = true, zIn (zN sg2) 395 0 ((803 + 9 * s) + 3), zOb (zN (zup sg2 395 ((803 + 9 * s) + 3) (sg 395 ((803 + 9 * s) + 3)))) 393 10]) rfl (zA ⟨zob_393, rfl⟩ (zA (zin_395 (i := (803 + 9 * s) + 3) (by lia) (by lia)) (zA zob_393 trivial))) rfl ?_
  have eb : sg2 395 = zup sg 395 (803 + 9 * s + 3) l 395 := kr2
  have en : zup sg 395 (803 + 9 * s + 3) l 395 0 = sg 395 0 := zup_i (by lia)
  refine ⟨_, _, rfl, rfl, fun c j a1 a2 a3 a4 a5 a6 => ?_, ?_⟩
  · rw [zup_e]; by_cases hc : c = 395 ∧ j = 803 + 9 * s + 3
    · rw [if_pos hc, hc.1, hc.2]
    · rw [if_neg hc, hf2 c j a1 a2 a3 a4 a5 a6, zup_e, if_neg hc]
  · rw [zup_a (by decide)]; unfold mRs; rw [← en]; exact hr2.1
theorem bkMo_raised_5 : zBk mMo_raised 5 [(1, 0, 1, 0, 0), (1, 1, 0, 0, 0)] = some 7 := by decide +kernel
theorem bkMo_raised_10 : zBk mMo_raised 10 [] = some 10 := by decide +kernel
theorem bkMo_raised_34 : zBk mMo_raised 34 [(0, 0, 0, 0, -1)] = some 35 := by decide +kernel
theorem bkMo_raised_13 : zBk mMo_raised 13 [(1, 2, 0, 0, 0), (14, 0, 0, 0, 0), (15, 0, 0, 0, 0), (15, 0, 0, 0, 9)] = some 19 := by decide +kernel
theorem bkMo_raised_22 : zBk mMo_raised 22 [] = some 22 := by decide +kernel
theorem bkMo_raised_25 : zBk mMo_raised 25 [(1, 0, 1, 0, 0), (1, 1, 0, 0, 0), (1, 2, 0, 0, 0)] = some 28 := by decide +kernel
theorem bkMo_raised_31 : zBk mMo_raised 31 [(22, 35, 0, 0, 0)] = some 35 := by decide +kernel
theorem bkMo_raised_0 : zBk mMo_raised 0 [(1, 0, 1, 0, 0), (0, 0, 0, 0, 0), (6, 10, 0, 0, 0)] = some 5 := by decide +kernel
theorem bdMo_raised_7 : decode mMo_raised.2.2.1 7 = .ok (.invokevirtual 151, 3) := by decide +kernel
theorem bdMo_raised_10 : decode mMo_raised.2.2.1 10 = .ok (.ifCond .eq 24, 3) := by decide +kernel
theorem bdMo_raised_19 : decode mMo_raised.2.2.1 19 = .ok (.invokestatic 87, 3) := by decide +kernel
theorem bdMo_raised_22 : decode mMo_raised.2.2.1 22 = .ok (.ifCond .eq 12, 3) := by decide +kernel
theorem bdMo_raised_28 : decode mMo_raised.2.2.1 28 = .ok (.invokevirtual 299, 3) := by decide +kernel
theorem bdMo_raised_35 : decode mMo_raised.2.2.1 35 = .ok (.ireturn, 1) := by decide +kernel
theorem bMo_raised {sg : zSig} {n l : Int32} (n0 : 0 ≤ sg 395 0) (n2 : sg 395 0 ≤ 200) (g0 : 0 ≤ sg 395 1) (g1 : sg 395 1 ≤ 16) (hp : okP sg) : zG mMo_raised 411 (fun rr h' => ∃ v sg', rr = some (.int v) ∧ h' = zN sg' ∧ mQ sg sg' ∧ v = if ((0 ≤ n ∧ n < sg 395 1) ∧ sg 395 (803 + 9 * n) = 1) ∧ 0 ≤ l ∧ l ≤ 9 then mRs sg n l else -1) 5 [(0, .ref 393), (1, .int n), (2, .int l)] [] (zN sg) := by
  refine zG_run bkMo_raised_5 (lv' := [(0, .ref 393), (1, .int n), (2, .int l)]) (st' := [.int n, .ref 393]) (h' := zN sg) (Ps := []) rfl trivial ?_
  refine zG_callv (a := 393) (c := 10) (As := [.int n]) (rest := []) (N2 := 411) bdMo_raised_7 okMo_isSpan lk10_151 (And.intro (by decide) (by decide)) (by decide) rfl rfl rfl (Nat.le_of_ble_eq_true rfl) (Nat.le_of_ble_eq_true rfl) (Nat.le_refl 411) (Nat.le_refl 411) zob_393 (cMo_isSpan (by lia)) ?_
  rintro rr h' ⟨rfl, rfl⟩ -
  refine zb_ifeq (tgt := 34) bkMo_raised_10 bdMo_raised_10 (by decide) (lv' := [(0, .ref 393), (1, .int n), (2, .int l)]) (st' := []) (h' := zN sg) (x := if (0 ≤ n ∧ n < sg 395 1) ∧ sg 395 (803 + 9 * n) = 1 then 1 else 0) (Ps := []) rfl trivial (fun c1 => ?_) (fun c1 => ?_)
  · skip
    refine zb_iret bkMo_raised_34 bdMo_raised_35 rfl (x := (-1)) (h' := zN sg) (Ps := []) rfl trivial rfl ?_
    refine ⟨_, _, rfl, rfl, mQ_refl, ?_⟩
    rw [if_neg (by clear hp; grind)]
  · skip
    refine zG_run bkMo_raised_13 (lv' := [(0, .ref 393), (1, .int n), (2, .int l)]) (st' := [.long ((9 : Int32).toInt64), .long ((0 : Int32).toInt64), .long l.toInt64]) (h' := zN sg) (Ps := []) rfl trivial ?_
    refine zG_calls (As := [.long l.toInt64, .long ((0 : Int32).toInt64), .long ((9 : Int32).toInt64)]) (rest := []) (N2 := 411) bdMo_raised_19 okMo_in lk10_87 (And.intro (by decide) (by decide)) rfl rfl (Nat.le_of_ble_eq_true rfl) (Nat.le_of_ble_eq_true rfl) (Nat.le_refl 411) (Nat.le_refl 411) cMo_inA ?_
    rintro rr h' ⟨rfl, rfl⟩ -
    refine zb_ifeq (tgt := 34) bkMo_raised_22 bdMo_raised_22 (by decide) (lv' := [(0, .ref 393), (1, .int n), (2, .int l)]) (st' := []) (h' := zN sg) (x := if 0 ≤ l ∧ l ≤ 9 then 1 else 0) (Ps := []) rfl trivial (fun c2 => ?_) (fun c2 => ?_)
    · skip
      refine zb_iret bkMo_raised_34 bdMo_raised_35 rfl (x := (-1)) (h' := zN sg) (Ps := []) rfl trivial rfl ?_
      refine ⟨_, _, rfl, rfl, mQ_refl, ?_⟩
      rw [if_neg (by clear hp; grind)]
    · skip
      have hc : ((0 ≤ n ∧ n < sg 395 1) ∧ sg 395 (803 + 9 * n) = 1) ∧ 0 ≤ l ∧ l ≤ 9 := by clear hp; grind
      refine zG_run bkMo_raised_25 (lv' := [(0, .ref 393), (1, .int n), (2, .int l)]) (st' := [.int l, .int n, .ref 393]) (h' := zN sg) (Ps := []) rfl trivial ?_
      refine zG_callv (a := 393) (c := 10) (As := [.int n, .int l]) (rest := []) (N2 := 411) bdMo_raised_28 okMo_runsBy lk10_299 (And.intro (by decide) (by decide)) (by decide) rfl rfl rfl (Nat.le_of_ble_eq_true rfl) (Nat.le_of_ble_eq_true rfl) (Nat.le_refl 411) (Nat.le_refl 411) zob_393 (cMo_runsBy (s := n) (l := l) (by lia) (by lia) (by lia) (by lia) hp (by lia) (by lia)) ?_
      rintro rr h' ⟨vr, sg5, rfl, rfl, hf5, hvr⟩ -
      refine zb_iret bkMo_raised_31 bdMo_raised_35 rfl (x := vr) (h' := zN sg5) (Ps := []) rfl trivial rfl ?_
      refine ⟨_, _, rfl, rfl, hf5, ?_⟩
      rw [if_pos hc]; exact hvr
theorem tMo_raised {sg : zSig} {n l : Int32} {Q : Option Value → zHp → Prop} (g : zG mMo_raised 411 Q 5 [(0, .ref 393), (1, .int n), (2, .int l)] [] (zN (zup sg 393 0 0))) : zG mMo_raised 411 Q 0 [(0, .ref 393), (1, .int n), (2, .int l)] [] (zN sg) :=
  zG_run bkMo_raised_0 (lv' := [(0, .ref 393), (1, .int n), (2, .int l)]) (st' := []) (h' := zN (zup sg 393 0 0)) (Ps := [zOb (zN sg) 393 10]) rfl (zA zob_393 trivial) g
def mbs1 (sg : zSig) (n l : Int32) (p : Int32 × Int32) : Int32 × Int32 := if l = 0 then p else if mRs sg n l < p.2 then (l, mRs sg n l) else p
def mBs (sg : zSig) (n : Int32) : Int32 × Int32 := zit (mbs1 sg n) (0, mRs sg n 0) 10
theorem bkMo_best_5 : zBk mMo_best 5 [(1, 0, 1, 0, 0), (1, 1, 0, 0, 0)] = some 7 := by decide +kernel
theorem bkMo_best_10 : zBk mMo_best 10 [] = some 10 := by decide +kernel
theorem bkMo_best_23 : zBk mMo_best 23 [(0, 0, 0, 0, -1)] = some 24 := by decide +kernel
theorem bkMo_best_13 : zBk mMo_best 13 [(1, 2, 0, 0, 0), (14, 0, 0, 0, 0), (15, 0, 0, 0, 0), (15, 0, 0, 0, 1)] = some 17 := by decide +kernel
theorem bkMo_best_20 : zBk mMo_best 20 [] = some 20 := by decide +kernel
theorem bkMo_best_25 : zBk mMo_best 25 [(0, 0, 0, 0, 0), (2, 3, 0, 0, 0), (1, 0, 1, 0, 0), (1, 1, 0, 0, 0), (0, 0, 0, 0, 0)] = some 30 := by decide +kernel
theorem bkMo_best_33 : zBk mMo_best 33 [(2, 4, 0, 0, 0), (0, 0, 0, 0, 1), (2, 5, 0, 0, 0)] = some 38 := by decide +kernel
theorem bkMo_best_38 : zBk mMo_best 38 [(1, 5, 0, 0, 0), (0, 0, 0, 0, 10)] = some 42 := by decide +kernel
theorem bkMo_best_90 : zBk mMo_best 90 [(1, 2, 0, 0, 0)] = some 91 := by decide +kernel
theorem bkMo_best_98 : zBk mMo_best 98 [(1, 4, 0, 0, 0)] = some 100 := by decide +kernel
theorem bkMo_best_94 : zBk mMo_best 94 [(1, 3, 0, 0, 0), (22, 100, 0, 0, 0)] = some 100 := by decide +kernel
theorem bkMo_best_45 : zBk mMo_best 45 [(1, 0, 1, 0, 0), (1, 1, 0, 0, 0), (1, 5, 0, 0, 0)] = some 49 := by decide +kernel
theorem bkMo_best_52 : zBk mMo_best 52 [(2, 6, 0, 0, 0), (1, 6, 0, 0, 0), (1, 4, 0, 0, 0)] = some 58 := by decide +kernel
theorem bkMo_best_66 : zBk mMo_best 66 [(1, 3, 0, 0, 0), (2, 3, 0, 0, 0), (1, 6, 0, 0, 0), (1, 4, 0, 0, 0)] = some 72 := by decide +kernel
theorem bkMo_best_80 : zBk mMo_best 80 [(1, 4, 0, 0, 0), (2, 4, 0, 0, 0), (3, 5, 0, 0, 1), (22, 38, 0, 0, 0)] = some 38 := by decide +kernel
theorem bkMo_best_75 : zBk mMo_best 75 [(1, 6, 0, 0, 0), (22, 82, 0, 0, 0), (2, 4, 0, 0, 0), (3, 5, 0, 0, 1), (22, 38, 0, 0, 0)] = some 38 := by decide +kernel
theorem bkMo_best_61 : zBk mMo_best 61 [(1, 5, 0, 0, 0), (22, 67, 0, 0, 0), (2, 3, 0, 0, 0), (1, 6, 0, 0, 0), (1, 4, 0, 0, 0)] = some 72 := by decide +kernel
theorem bkMo_best_0 : zBk mMo_best 0 [(1, 0, 1, 0, 0), (0, 0, 0, 0, 0), (6, 10, 0, 0, 0)] = some 5 := by decide +kernel
theorem bdMo_best_7 : decode mMo_best.2.2.1 7 = .ok (.invokevirtual 151, 3) := by decide +kernel
theorem bdMo_best_10 : decode mMo_best.2.2.1 10 = .ok (.ifCond .eq 13, 3) := by decide +kernel
theorem bdMo_best_17 : decode mMo_best.2.2.1 17 = .ok (.invokestatic 87, 3) := by decide +kernel
theorem bdMo_best_20 : decode mMo_best.2.2.1 20 = .ok (.ifCond .ne 5, 3) := by decide +kernel
theorem bdMo_best_24 : decode mMo_best.2.2.1 24 = .ok (.ireturn, 1) := by decide +kernel
theorem bdMo_best_30 : decode mMo_best.2.2.1 30 = .ok (.invokevirtual 299, 3) := by decide +kernel
theorem bdMo_best_42 : decode mMo_best.2.2.1 42 = .ok (.if_icmp .ge 48, 3) := by decide +kernel
theorem bdMo_best_49 : decode mMo_best.2.2.1 49 = .ok (.invokevirtual 299, 3) := by decide +kernel
theorem bdMo_best_58 : decode mMo_best.2.2.1 58 = .ok (.if_icmp .ge 8, 3) := by decide +kernel
theorem bdMo_best_72 : decode mMo_best.2.2.1 72 = .ok (.if_icmp .ge 8, 3) := by decide +kernel
theorem bdMo_best_91 : decode mMo_best.2.2.1 91 = .ok (.ifCond .ne 7, 3) := by decide +kernel
theorem bdMo_best_100 : decode mMo_best.2.2.1 100 = .ok (.ireturn, 1) := by decide +kernel
theorem lMo_best {sg : zSig} {n w : Int32} (n0 : 0 ≤ sg 395 0) (n2 : sg 395 0 ≤ 200) (g0 : 0 ≤ sg 395 1) (g1 : sg 395 1 ≤ 16) (hp : okP sg) {Q : Option Value → zHp → Prop} (hq : ∀ rr h', (∃ v sg', rr = some (.int v) ∧ h' = zN sg' ∧ mQ sg sg' ∧ v = if ((0 ≤ n ∧ n < sg 395 1) ∧ sg 395 (803 + 9 * n) = 1) ∧ 0 ≤ w ∧ w ≤ 1 then (if w = 0 then (mBs sg n).1 else (mBs sg n).2) else -1) → Q rr h') : zG mMo_best 411 Q 5 [(0, .ref 393), (1, .int n), (2, .int w)] [] (zN sg) := by
  refine zG_run bkMo_best_5 (lv' := [(0, .ref 393), (1, .int n), (2, .int w)]) (st' := [.int n, .ref 393]) (h' := zN sg) (Ps := []) rfl trivial ?_
  refine zG_callv (a := 393) (c := 10) (As := [.int n]) (rest := []) (N2 := 411) bdMo_best_7 okMo_isSpan lk10_151 (And.intro (by decide) (by decide)) (by decide) rfl rfl rfl (Nat.le_of_ble_eq_true rfl) (Nat.le_of_ble_eq_true rfl) (Nat.le_refl 411) (Nat.le_refl 411) zob_393 (cMo_isSpan (by lia)) ?_
  rintro rr h' ⟨rfl, rfl⟩ -
  refine zb_ifeq (tgt := 23) bkMo_best_10 bdMo_best_10 (by decide) (lv' := [(0, .ref 393), (1, .int n), (2, .int w)]) (st' := []) (h' := zN sg) (x := if (0 ≤ n ∧ n < sg 395 1) ∧ sg 395 (803 + 9 * n) = 1 then 1 else 0) (Ps := []) rfl trivial (fun c1 => ?_) (fun c1 => ?_)
  · skip
    refine zb_iret bkMo_best_23 bdMo_best_24 rfl (x := (-1)) (h' := zN sg) (Ps := []) rfl trivial rfl ?_
    refine hq _ _ ?_
    refine ⟨_, _, rfl, rfl, mQ_refl, ?_⟩
    rw [if_neg (by clear hq hp; grind)]
  · skip
    refine zG_run bkMo_best_13 (lv' := [(0, .ref 393), (1, .int n), (2, .int w)]) (st' := [.long ((1 : Int32).toInt64), .long ((0 : Int32).toInt64), .long w.toInt64]) (h' := zN sg) (Ps := []) rfl trivial ?_
    refine zG_calls (As := [.long w.toInt64, .long ((0 : Int32).toInt64), .long ((1 : Int32).toInt64)]) (rest := []) (N2 := 411) bdMo_best_17 okMo_in lk10_87 (And.intro (by decide) (by decide)) rfl rfl (Nat.le_of_ble_eq_true rfl) (Nat.le_of_ble_eq_true rfl) (Nat.le_refl 411) (Nat.le_refl 411) cMo_inA ?_
    rintro rr h' ⟨rfl, rfl⟩ -
    refine zb_ifne (tgt := 25) bkMo_best_20 bdMo_best_20 (by decide) (lv' := [(0, .ref 393), (1, .int n), (2, .int w)]) (st' := []) (h' := zN sg) (x := if 0 ≤ w ∧ w ≤ 1 then 1 else 0) (Ps := []) rfl trivial (fun c2 => ?_) (fun c2 => ?_)
    · skip
      have hc : ((0 ≤ n ∧ n < sg 395 1) ∧ sg 395 (803 + 9 * n) = 1) ∧ 0 ≤ w ∧ w ≤ 1 := by clear hp hq; grind
      refine zG_run bkMo_best_25 (lv' := [(3, .int 0), (0, .ref 393), (1, .int n), (2, .int w)]) (st' := [.int 0, .int n, .ref 393]) (h' := zN sg) (Ps := []) rfl trivial ?_
      refine zG_callv (a := 393) (c := 10) (As := [.int n, .int 0]) (rest := []) (N2 := 411) bdMo_best_30 okMo_runsBy lk10_299 (And.intro (by decide) (by decide)) (by decide) rfl rfl rfl (Nat.le_of_ble_eq_true rfl) (Nat.le_of_ble_eq_true rfl) (Nat.le_refl 411) (Nat.le_refl 411) zob_393 (cMo_runsBy (s := n) (l := 0) (by lia) (by lia) (by lia) (by lia) hp (by lia) (by lia)) ?_
      rintro rr h' ⟨vr, sg5, rfl, rfl, hf5, hvr⟩ -
      refine zG_run bkMo_best_33 (lv' := [(5, .int 1), (4, .int vr), (3, .int 0), (0, .ref 393), (1, .int n), (2, .int w)]) (st' := []) (h' := zN sg5) (Ps := []) rfl trivial ?_
      refine zG_pick (lv' := [(0, .ref 393), (1, .int n), (2, .int w), (3, .int 0), (4, .int vr), (5, .int 1)]) [3, 4, 5, 2, 1, 0] rfl ?_
      refine zlp4 (fun (a : Int32) (f : Int32) (lay : Int32) (sg1 : zSig) => zG mMo_best 411 Q 38 [(0, .ref 393), (1, .int n), (2, .int w), (3, .int a), (4, .int f), (5, .int lay)] [] (zN sg1)) (fun (a : Int32) (f : Int32) (lay : Int32) (sg1 : zSig) => (1 ≤ lay) ∧ (lay ≤ 10) ∧ (mQ sg sg1) ∧ ((a, f) = zit (mbs1 sg n) (0, mRs sg n 0) lay)) (fun (a : Int32) (f : Int32) (lay : Int32) (sg1 : zSig) => zmu 10 lay) ?_ 0 vr 1 sg5 ?_
      · intro a f lay sg1 hI ih
        obtain ⟨l0, l1, kf, kz⟩ := hI
        have ke0 : sg1 395 0 = sg 395 0 := congrFun (mQ_row kf) 0
        have ke1 : sg1 395 1 = sg 395 1 := congrFun (mQ_row kf) 1
        refine zb_icge (tgt := 90) bkMo_best_38 bdMo_best_42 (by decide) (lv' := [(0, .ref 393), (1, .int n), (2, .int w), (3, .int a), (4, .int f), (5, .int lay)]) (st' := []) (h' := zN sg1) (x := lay) (y := 10) (Ps := []) rfl trivial (fun c3 => ?_) (fun c3 => ?_)
        · skip
          refine zb_ifne (tgt := 98) bkMo_best_90 bdMo_best_91 (by decide) (lv' := [(0, .ref 393), (1, .int n), (2, .int w), (3, .int a), (4, .int f), (5, .int lay)]) (st' := []) (h' := zN sg1) (x := w) (Ps := []) rfl trivial (fun c4 => ?_) (fun c4 => ?_)
          · skip
            refine zb_iret bkMo_best_98 bdMo_best_100 rfl (x := f) (h' := zN sg1) (Ps := []) rfl trivial rfl ?_
            refine hq _ _ ?_
            refine ⟨_, _, rfl, rfl, kf, ?_⟩
            rw [if_pos hc]; unfold mBs; rw [show (10 : Int32) = lay by lia, ← kz]; first | rw [if_pos (by lia)] | rw [if_neg (by lia)]
          · skip
            refine zb_iret bkMo_best_94 bdMo_best_100 rfl (x := a) (h' := zN sg1) (Ps := []) rfl trivial rfl ?_
            refine hq _ _ ?_
            refine ⟨_, _, rfl, rfl, kf, ?_⟩
            rw [if_pos hc]; unfold mBs; rw [show (10 : Int32) = lay by lia, ← kz]; first | rw [if_pos (by lia)] | rw [if_neg (by lia)]
        · skip
          refine zG_run bkMo_best_45 (lv' := [(0, .ref 393), (1, .int n), (2, .int w), (3, .int a), (4, .int f), (5, .int lay)]) (st' := [.int lay, .int n, .ref 393]) (h' := zN sg1) (Ps := []) rfl trivial ?_
          refine zG_callv (a := 393) (c := 10) (As := [.int n, .int lay]) (rest := []) (N2 := 411) bdMo_best_49 okMo_runsBy lk10_299 (And.intro (by decide) (by decide)) (by decide) rfl rfl rfl (Nat.le_of_ble_eq_true rfl) (Nat.le_of_ble_eq_true rfl) (Nat.le_refl 411) (Nat.le_refl 411) zob_393 (cMo_runsBy (s := n) (l := lay) (by lia) (by lia) (by lia) (by lia) (okP_row (mQ_row kf) hp) (by lia) (by lia)) ?_
          rintro rr h' ⟨v6, sg6, rfl, rfl, hf6, hv6⟩ -
          rw [mRs_row (mQ_row kf)] at hv6
          refine zb_icge (tgt := 66) bkMo_best_52 bdMo_best_58 (by decide) (lv' := [(6, .int v6), (0, .ref 393), (1, .int n), (2, .int w), (3, .int a), (4, .int f), (5, .int lay)]) (st' := []) (h' := zN sg6) (x := v6) (y := f) (Ps := []) rfl trivial (fun c5 => ?_) (fun c5 => ?_)
          · skip
            refine zb_icge (tgt := 80) bkMo_best_66 bdMo_best_72 (by decide) (lv' := [(3, .int a), (6, .int v6), (0, .ref 393), (1, .int n), (2, .int w), (4, .int f), (5, .int lay)]) (st' := []) (h' := zN sg6) (x := v6) (y := f) (Ps := []) rfl trivial (fun c6 => ?_) (fun c6 => ?_)
            · skip
              refine zG_run bkMo_best_80 (lv' := [(5, .int (lay + 1)), (4, .int f), (3, .int a), (6, .int v6), (0, .ref 393), (1, .int n), (2, .int w)]) (st' := []) (h' := zN sg6) (Ps := []) rfl trivial ?_
              refine zG_pick (lv' := [(0, .ref 393), (1, .int n), (2, .int w), (3, .int a), (4, .int f), (5, .int (lay + 1))]) [4, 5, 6, 2, 1, 0] rfl ?_
              refine ih a f (lay + 1) sg6 ?_ ?_
              · refine ⟨?_, ?_, ?_, ?_⟩
                · lia
                · lia
                · exact mQ_trans kf hf6
                · rw [zit_s _ _ (by lia) (by lia : lay < 10), ← kz]; unfold mbs1; show _ = if lay = 0 then (a, f) else if mRs sg n lay < f then (lay, mRs sg n lay) else (a, f)
                  rw [if_neg (by lia), ← hv6]; first | (exfalso; lia; done) | rw [if_pos (by lia)] | (rw [if_neg (by lia)])
              · exact zmu_up (by lia)
            · skip
              refine zG_run bkMo_best_75 (lv' := [(5, .int (lay + 1)), (4, .int v6), (3, .int a), (6, .int v6), (0, .ref 393), (1, .int n), (2, .int w)]) (st' := []) (h' := zN sg6) (Ps := []) rfl trivial ?_
              refine zG_pick (lv' := [(0, .ref 393), (1, .int n), (2, .int w), (3, .int a), (4, .int v6), (5, .int (lay + 1))]) [4, 5, 6, 2, 1, 0] rfl ?_
              refine ih a v6 (lay + 1) sg6 ?_ ?_
              · refine ⟨?_, ?_, ?_, ?_⟩
                · lia
                · lia
                · exact mQ_trans kf hf6
                · rw [zit_s _ _ (by lia) (by lia : lay < 10), ← kz]; unfold mbs1; show _ = if lay = 0 then (a, f) else if mRs sg n lay < f then (lay, mRs sg n lay) else (a, f)
                  rw [if_neg (by lia), ← hv6]; first | (exfalso; lia; done) | rw [if_pos (by lia)] | (rw [if_neg (by lia)])
              · exact zmu_up (by lia)
          · skip
            refine zb_icge (tgt := 80) bkMo_best_61 bdMo_best_72 (by decide) (lv' := [(3, .int lay), (6, .int v6), (0, .ref 393), (1, .int n), (2, .int w), (4, .int f), (5, .int lay)]) (st' := []) (h' := zN sg6) (x := v6) (y := f) (Ps := []) rfl trivial (fun c7 => ?_) (fun c7 => ?_)
            · skip
              refine zG_run bkMo_best_80 (lv' := [(5, .int (lay + 1)), (4, .int f), (3, .int lay), (6, .int v6), (0, .ref 393), (1, .int n), (2, .int w)]) (st' := []) (h' := zN sg6) (Ps := []) rfl trivial ?_
              refine zG_pick (lv' := [(0, .ref 393), (1, .int n), (2, .int w), (3, .int lay), (4, .int f), (5, .int (lay + 1))]) [4, 5, 6, 2, 1, 0] rfl ?_
              refine ih lay f (lay + 1) sg6 ?_ ?_
              · refine ⟨?_, ?_, ?_, ?_⟩
                · lia
                · lia
                · exact mQ_trans kf hf6
                · rw [zit_s _ _ (by lia) (by lia : lay < 10), ← kz]; unfold mbs1; show _ = if lay = 0 then (a, f) else if mRs sg n lay < f then (lay, mRs sg n lay) else (a, f)
                  rw [if_neg (by lia), ← hv6]; first | (exfalso; lia; done) | rw [if_pos (by lia)] | (rw [if_neg (by lia)])
              · exact zmu_up (by lia)
            · skip
              refine zG_run bkMo_best_75 (lv' := [(5, .int (lay + 1)), (4, .int v6), (3, .int lay), (6, .int v6), (0, .ref 393), (1, .int n), (2, .int w)]) (st' := []) (h' := zN sg6) (Ps := []) rfl trivial ?_
              refine zG_pick (lv' := [(0, .ref 393), (1, .int n), (2, .int w), (3, .int lay), (4, .int v6), (5, .int (lay + 1))]) [4, 5, 6, 2, 1, 0] rfl ?_
              refine ih lay v6 (lay + 1) sg6 ?_ ?_
              · refine ⟨?_, ?_, ?_, ?_⟩
                · lia
                · lia
                · exact mQ_trans kf hf6
                · rw [zit_s _ _ (by lia) (by lia : lay < 10), ← kz]; unfold mbs1; show _ = if lay = 0 then (a, f) else if mRs sg n lay < f then (lay, mRs sg n lay) else (a, f)
                  rw [if_neg (by lia), ← hv6]; first | (exfalso; lia; done) | rw [if_pos (by lia)] | (rw [if_neg (by lia)])
              · exact zmu_up (by lia)
      · refine ⟨?_, ?_, ?_, ?_⟩
        · lia
        · lia
        · exact hf5
        · rw [show (1 : Int32) = 0 + 1 by decide, zit_s _ _ (Int32.le_refl 0) (by decide : (0 : Int32) < 10), zit_0]; unfold mbs1; rw [if_pos rfl, hvr]
    · skip
      refine zb_iret bkMo_best_23 bdMo_best_24 rfl (x := (-1)) (h' := zN sg) (Ps := []) rfl trivial rfl ?_
      refine hq _ _ ?_
      refine ⟨_, _, rfl, rfl, mQ_refl, ?_⟩
      rw [if_neg (by clear hq hp; grind)]
theorem bMo_best {sg : zSig} {n w : Int32} (n0 : 0 ≤ sg 395 0) (n2 : sg 395 0 ≤ 200) (g0 : 0 ≤ sg 395 1) (g1 : sg 395 1 ≤ 16) (hp : okP sg) : zG mMo_best 411 (fun rr h' => ∃ v sg', rr = some (.int v) ∧ h' = zN sg' ∧ mQ sg sg' ∧ v = if ((0 ≤ n ∧ n < sg 395 1) ∧ sg 395 (803 + 9 * n) = 1) ∧ 0 ≤ w ∧ w ≤ 1 then (if w = 0 then (mBs sg n).1 else (mBs sg n).2) else -1) 5 [(0, .ref 393), (1, .int n), (2, .int w)] [] (zN sg) := lMo_best n0 n2 g0 g1 hp (fun _ _ q => q)
theorem tMo_best {sg : zSig} {n w : Int32} {Q : Option Value → zHp → Prop} (g : zG mMo_best 411 Q 5 [(0, .ref 393), (1, .int n), (2, .int w)] [] (zN (zup sg 393 0 0))) : zG mMo_best 411 Q 0 [(0, .ref 393), (1, .int n), (2, .int w)] [] (zN sg) :=
  zG_run bkMo_best_0 (lv' := [(0, .ref 393), (1, .int n), (2, .int w)]) (st' := []) (h' := zN (zup sg 393 0 0)) (Ps := [zOb (zN sg) 393 10]) rfl (zA zob_393 trivial) g
