/-! marked texts written: printed by wip/whole/p27.py -/
def wAdd (sg : zSig) (v : Int32) : zSig := zup (if sg 322 1 < 400 then zup sg 323 (sg 322 1) v else sg) 322 1 (sg 322 1 + 1)
theorem wA1 {sg : zSig} {v : Int32} : wAdd sg v 322 1 = sg 322 1 + 1 := zup_s
theorem wAf {sg : zSig} {v : Int32} {c : Nat} {j : Int32} (h : c ≠ 323) (h2 : c ≠ 322 ∨ j ≠ 1) : wAdd sg v c j = sg c j := by
  unfold wAdd
  rw [zup_e, if_neg (by rintro ⟨q1, q2⟩; exact h2.elim (fun g => g q1) (fun g => g q2))]
  split
  · exact zup_a h
  · rfl
theorem wA4 {sg : zSig} {v : Int32} : wAdd sg v 322 4 = sg 322 4 := wAf (by decide) (by decide)
theorem wAk {sg : zSig} {v j : Int32} : wAdd sg v 324 j = sg 324 j := wAf (by decide) (Or.inl (by decide))
theorem wAv {sg : zSig} {v j : Int32} : wAdd sg v 325 j = sg 325 j := wAf (by decide) (Or.inl (by decide))
theorem wAs {sg : zSig} {v j : Int32} : wAdd sg v 100000 j = sg 100000 j := wAf (by decide) (Or.inl (by decide))
def wCl (sg : zSig) : zSig := wAdd (wAdd (wAdd (wAdd (zup sg 322 4 (sg 322 4 - 1)) 91) 47) (sg 100000 (sg 324 (sg 322 4 - 1)))) 93
theorem wC4 {sg : zSig} : wCl sg 322 4 = sg 322 4 - 1 := by unfold wCl; simp only [wA4]; exact zup_s
theorem wC1 {sg : zSig} : wCl sg 322 1 = sg 322 1 + 1 + 1 + 1 + 1 := by unfold wCl; simp only [wA1]; rw [zup_i (by decide)]
theorem wCf {sg : zSig} {c : Nat} {j : Int32} (h : c ≠ 323) (h2 : c ≠ 322) : wCl sg c j = sg c j := by
  unfold wCl; rw [wAf h (Or.inl h2), wAf h (Or.inl h2), wAf h (Or.inl h2), wAf h (Or.inl h2), zup_a h2]
def wClT (sg : zSig) (d : Int32) : zSig := zitN (fun _ => wCl) sg (zmu (sg 322 4) d)
/-- how many of the open marks, from the first on, are the style's -/
def wFu (sg : zSig) (s : Int32) : Int32 := zit (fun k a => if a = k ∧ fMv s (sg 324 k) = sg 325 k then a + 1 else a) 0 (sg 322 4)
def wIo (sg : zSig) (k : Int32) : Int32 := zit (fun j a => if sg 324 j = k then 1 else a) 0 (sg 322 4)
def wPu (sg : zSig) (k v : Int32) : zSig := wAdd (wAdd (zup (zup (zup sg 324 (sg 322 4) k) 325 (sg 322 4) v) 322 4 (sg 322 4 + 1)) 91) (sg 100000 k)
def wOp (s k : Int32) (sg : zSig) : zSig := if fMv s k = -1 ∨ wIo sg k ≠ 0 ∨ 6 ≤ sg 322 4 then sg else wAdd (if k < 4 then wPu sg k (fMv s k) else wAdd (wPu sg k (fMv s k)) (48 + fMv s k)) 93
def wOps (s : Int32) (sg : zSig) : zSig := zit (wOp s) sg 6
def wSt (L S : Int32 → Int32) (i : Int32) (sg : zSig) : zSig := wAdd (if bg S i = 0 then sg else wOps (S i) (wClT sg (wFu sg (S i)))) (L i)
def wI (sg : zSig) : zSig := zup (zup sg 322 1 0) 322 4 0
def wAll (sg : zSig) : zSig := wClT (zit (wSt (sg 2) (sg 314)) (wI sg) (sg 1 2)) 0
def okW (sg : zSig) : Prop := (0 ≤ sg 322 4 ∧ sg 322 4 ≤ 6) ∧ ∀ k, 0 ≤ k → k < sg 322 4 → 0 ≤ sg 324 k ∧ sg 324 k < 6
theorem zmu_dn {e i : Int32} (h0 : 0 < i) (h : i ≤ e) : zmu e (i - 1) = zmu e i + 1 := by
  have h1 := zi1m h0
  rw [Int32.le_iff_toInt_le] at h
  unfold zmu
  omega
theorem zmu_self {e : Int32} : zmu e e = 0 := by unfold zmu; omega
theorem bkWri_add_0 : zBk mWri_add 0 [(1, 0, 1, 0, 0), (5, 8, 1, 0, 1), (0, 0, 0, 0, 400)] = some 7 := by decide +kernel
theorem bkWri_add_20 : zBk mWri_add 20 [(1, 0, 1, 0, 0), (18, 0, 0, 0, 0), (5, 8, 1, 0, 1), (0, 0, 0, 0, 1), (4, 0, 0, 0, 0), (6, 8, 1, 0, 1)] = some 30 := by decide +kernel
theorem bkWri_add_10 : zBk mWri_add 10 [(1, 0, 1, 0, 0), (5, 8, 0, 1, 0), (1, 0, 1, 0, 0), (5, 8, 1, 0, 1), (1, 1, 0, 0, 0), (8, 0, 0, 0, 0), (1, 0, 1, 0, 0), (18, 0, 0, 0, 0), (5, 8, 1, 0, 1), (0, 0, 0, 0, 1), (4, 0, 0, 0, 0), (6, 8, 1, 0, 1)] = some 30 := by decide +kernel
theorem bdWri_add_7 : decode mWri_add.2.2.1 7 = .ok (.if_icmp .ge 13, 3) := by decide +kernel
theorem bdWri_add_30 : decode mWri_add.2.2.1 30 = .ok (.return_, 1) := by decide +kernel
theorem cWri_add {sg : zSig} {v : Int32} (l0 : 0 ≤ sg 322 1) : zG mWri_add 411 (fun rr h' => rr = none ∧ h' = zN (wAdd sg v)) 0 [(0, .ref 322), (1, .int v)] [] (zN sg) := by
  refine zb_icge (tgt := 20) bkWri_add_0 bdWri_add_7 (by decide) (lv' := [(0, .ref 322), (1, .int v)]) (st' := []) (h' := zN sg) (x := sg 322 1) (y := 400) (Ps := [zOb (zN sg) 322 8]) rfl (zA zob_322 trivial) (fun c1 => ?_) (fun c1 => ?_)
  · skip
    refine zb_vret bkWri_add_20 bdWri_add_30 rfl (h' := zN (zup sg 322 1 ((sg 322 1) + 1))) (Ps := [zOb (zN sg) 322 8, zOb (zN sg) 322 8]) rfl (zA zob_322 (zA zob_322 trivial)) rfl ?_
    exact ⟨rfl, by unfold wAdd; rw [if_neg (by lia)]⟩
  · skip
    refine zb_vret bkWri_add_10 bdWri_add_30 rfl (h' := zN (zup (zup sg 323 (sg 322 1) v) 322 1 (((zup sg 323 (sg 322 1) v) 322 1) + 1))) (Ps := [zOb (zN sg) 322 8 ∧ (zN sg).2.2 322 0 = true, zOb (zN sg) 322 8, zIn (zN sg) 323 0 (sg 322 1), zOb (zN (zup sg 323 (sg 322 1) v)) 322 8, zOb (zN (zup sg 323 (sg 322 1) v)) 322 8]) rfl (zA ⟨zob_322, rfl⟩ (zA zob_322 (zA (zin_323 (i := sg 322 1) (by lia) (by lia)) (zA zob_322 (zA zob_322 trivial))))) rfl ?_
    exact ⟨rfl, by unfold wAdd; rw [if_pos (by lia)]; simp [zup_e]⟩
theorem zit_run (p : Int32 → Prop) [DecidablePred p] {n : Int32} (hn : 0 ≤ n) : (0 ≤ zit (fun k a => if a = k ∧ p k then a + 1 else a) 0 n ∧ zit (fun k a => if a = k ∧ p k then a + 1 else a) 0 n ≤ n) ∧ (∀ j, 0 ≤ j → j < zit (fun k a => if a = k ∧ p k then a + 1 else a) 0 n → p j) ∧ (zit (fun k a => if a = k ∧ p k then a + 1 else a) 0 n < n → ¬ p (zit (fun k a => if a = k ∧ p k then a + 1 else a) 0 n)) := by
  obtain ⟨m, hm, rfl⟩ := znn hn
  have key : ∀ q : Nat, q ≤ m → (0 ≤ zitN (fun k a => if a = k ∧ p k then a + 1 else a) 0 q ∧ zitN (fun k a => if a = k ∧ p k then a + 1 else a) 0 q ≤ nI q) ∧ (∀ j, 0 ≤ j → j < zitN (fun k a => if a = k ∧ p k then a + 1 else a) 0 q → p j) ∧ (zitN (fun k a => if a = k ∧ p k then a + 1 else a) 0 q < nI q → ¬ p (zitN (fun k a => if a = k ∧ p k then a + 1 else a) 0 q)) := by
    intro q
    induction q with
    | zero => intro _; exact ⟨⟨by show (0 : Int32) ≤ 0; decide, by show (0 : Int32) ≤ nI 0; decide⟩, fun j h1 h2 => by exfalso; have h2 : j < 0 := h2; lia, fun h => by exfalso; have h : (0 : Int32) < 0 := h; lia⟩
    | succ q ih =>
      intro hq
      obtain ⟨⟨i1, i2⟩, i3, i4⟩ := ih (by omega)
      have hs : nI (q + 1) = nI q + 1 := (nI_1 q).symm
      have hlt : nI q < nI (q + 1) := nI_lt (by omega) (by omega)
      have e : zitN (fun k a => if a = k ∧ p k then a + 1 else a) 0 (q + 1) = if zitN (fun k a => if a = k ∧ p k then a + 1 else a) 0 q = nI q ∧ p (nI q) then zitN (fun k a => if a = k ∧ p k then a + 1 else a) 0 q + 1 else zitN (fun k a => if a = k ∧ p k then a + 1 else a) 0 q := rfl
      rw [e]
      generalize zitN (fun k a => if a = k ∧ p k then a + 1 else a) 0 q = z at *
      by_cases hc : z = nI q ∧ p (nI q)
      · rw [if_pos hc]
        refine ⟨⟨by lia, by lia⟩, fun j h1 h2 => ?_, fun h => by exfalso; lia⟩
        by_cases hj : j = nI q
        · rw [hj]; exact hc.2
        · exact i3 j h1 (by lia)
      · rw [if_neg hc]
        refine ⟨⟨i1, by lia⟩, i3, fun h => ?_⟩
        by_cases hz : z = nI q
        · rw [hz]; exact fun q => hc ⟨hz, q⟩
        · exact i4 (by lia)
  unfold zit
  rw [nI_clamp hm]
  exact key m (Nat.le_refl _)
theorem wFu_or {sg : zSig} {s : Int32} (h : 0 ≤ sg 322 4) : (0 ≤ wFu sg s ∧ wFu sg s ≤ sg 322 4) ∧ (∀ j, 0 ≤ j → j < wFu sg s → fMv s (sg 324 j) = sg 325 j) ∧ (wFu sg s < sg 322 4 → ¬ fMv s (sg 324 (wFu sg s)) = sg 325 (wFu sg s)) := zit_run (fun k => fMv s (sg 324 k) = sg 325 k) h
theorem wFu_is {sg : zSig} {s k : Int32} (h : 0 ≤ sg 322 4) (k0 : 0 ≤ k) (k1 : k ≤ sg 322 4) (h1 : ∀ j, 0 ≤ j → j < k → fMv s (sg 324 j) = sg 325 j) (h2 : k < sg 322 4 → ¬ fMv s (sg 324 k) = sg 325 k) : k = wFu sg s := by
  obtain ⟨⟨a1, a2⟩, a3, a4⟩ := wFu_or (s := s) h
  by_cases q : k < wFu sg s
  · exact absurd (a3 k k0 q) (h2 (by lia))
  · by_cases q2 : wFu sg s < k
    · exact absurd (h1 _ a1 q2) (a4 (by lia))
    · lia
theorem bkWri_firstUnfit_0 : zBk mWri_firstUnfit 0 [(0, 0, 0, 0, 0), (2, 2, 0, 0, 0)] = some 2 := by decide +kernel
theorem bkWri_firstUnfit_2 : zBk mWri_firstUnfit 2 [(1, 2, 0, 0, 0), (1, 0, 1, 0, 0), (5, 8, 4, 0, 4)] = some 7 := by decide +kernel
theorem bkWri_firstUnfit_37 : zBk mWri_firstUnfit 37 [(1, 0, 1, 0, 0), (5, 8, 4, 0, 4)] = some 41 := by decide +kernel
theorem bkWri_firstUnfit_10 : zBk mWri_firstUnfit 10 [(1, 1, 0, 0, 0), (1, 0, 1, 0, 0), (5, 8, 2, 2, 2), (1, 2, 0, 0, 0), (7, 0, 0, 0, 0)] = some 17 := by decide +kernel
theorem bkWri_firstUnfit_20 : zBk mWri_firstUnfit 20 [(1, 0, 1, 0, 0), (5, 8, 3, 3, 3), (1, 2, 0, 0, 0), (7, 0, 0, 0, 0)] = some 26 := by decide +kernel
theorem bkWri_firstUnfit_31 : zBk mWri_firstUnfit 31 [(3, 2, 0, 0, 1), (22, 2, 0, 0, 0)] = some 2 := by decide +kernel
theorem bkWri_firstUnfit_29 : zBk mWri_firstUnfit 29 [(1, 2, 0, 0, 0)] = some 30 := by decide +kernel
theorem bdWri_firstUnfit_7 : decode mWri_firstUnfit.2.2.1 7 = .ok (.if_icmp .ge 30, 3) := by decide +kernel
theorem bdWri_firstUnfit_17 : decode mWri_firstUnfit.2.2.1 17 = .ok (.invokestatic 62, 3) := by decide +kernel
theorem bdWri_firstUnfit_26 : decode mWri_firstUnfit.2.2.1 26 = .ok (.if_icmp .eq 5, 3) := by decide +kernel
theorem bdWri_firstUnfit_30 : decode mWri_firstUnfit.2.2.1 30 = .ok (.ireturn, 1) := by decide +kernel
theorem bdWri_firstUnfit_41 : decode mWri_firstUnfit.2.2.1 41 = .ok (.ireturn, 1) := by decide +kernel
theorem lWri_firstUnfit {sg : zSig} {s : Int32} (ow : okW sg) {Q : Option Value → zHp → Prop} (hq : ∀ rr h', (rr = some (.int (wFu sg s)) ∧ h' = zN sg) → Q rr h') : zG mWri_firstUnfit 411 Q 0 [(0, .ref 322), (1, .int s)] [] (zN sg) := by
  obtain ⟨⟨o0, o1⟩, ok⟩ := id ow
  refine zG_run bkWri_firstUnfit_0 (lv' := [(2, .int 0), (0, .ref 322), (1, .int s)]) (st' := []) (h' := zN sg) (Ps := []) rfl trivial ?_
  refine zG_pick (lv' := [(0, .ref 322), (1, .int s), (2, .int 0)]) [1, 2, 0] rfl ?_
  refine zlp1 (fun (k : Int32) => zG mWri_firstUnfit 411 Q 2 [(0, .ref 322), (1, .int s), (2, .int k)] [] (zN sg)) (fun (k : Int32) => (0 ≤ k) ∧ (k ≤ sg 322 4) ∧ (∀ j, 0 ≤ j → j < k → fMv s (sg 324 j) = sg 325 j)) (fun (k : Int32) => zmu (sg 322 4) k) ?_ 0 ?_
  · intro k hI ih
    obtain ⟨k0, k1, k2⟩ := hI
    refine zb_icge (tgt := 37) bkWri_firstUnfit_2 bdWri_firstUnfit_7 (by decide) (lv' := [(0, .ref 322), (1, .int s), (2, .int k)]) (st' := []) (h' := zN sg) (x := k) (y := sg 322 4) (Ps := [zOb (zN sg) 322 8]) rfl (zA zob_322 trivial) (fun c1 => ?_) (fun c1 => ?_)
    · skip
      refine zb_iret bkWri_firstUnfit_37 bdWri_firstUnfit_41 rfl (x := sg 322 4) (h' := zN sg) (Ps := [zOb (zN sg) 322 8]) rfl (zA zob_322 trivial) rfl ?_
      refine hq _ _ ?_
      exact ⟨by rw [← wFu_is ow.1.1 k0 k1 k2 (fun _ => by lia)]; rw [show k = sg 322 4 by lia], rfl⟩
    · skip
      refine zG_run bkWri_firstUnfit_10 (lv' := [(0, .ref 322), (1, .int s), (2, .int k)]) (st' := [.int (sg 324 k), .int s]) (h' := zN sg) (Ps := [zOb (zN sg) 322 8 ∧ (zN sg).2.2 322 2 = true, zInL (zN sg) 324 k]) rfl (zA ⟨zob_322, rfl⟩ (zA (zinL_324 (i := k) (by lia) (by lia)) trivial)) ?_
      refine zG_calls (As := [.int s, .int (sg 324 k)]) (rest := []) (N2 := 411) bdWri_firstUnfit_17 okSty_markValue lk8_62 (And.intro (by decide) (by decide)) rfl rfl (Nat.le_of_ble_eq_true rfl) (Nat.le_of_ble_eq_true rfl) (Nat.le_refl 411) (Nat.le_refl 411) cSty_markValue ?_
      rintro rr h' ⟨rfl, rfl⟩ -
      refine zb_iceq (tgt := 31) bkWri_firstUnfit_20 bdWri_firstUnfit_26 (by decide) (lv' := [(0, .ref 322), (1, .int s), (2, .int k)]) (st' := []) (h' := zN sg) (x := fMv s (sg 324 k)) (y := sg 325 k) (Ps := [zOb (zN sg) 322 8 ∧ (zN sg).2.2 322 3 = true, zInL (zN sg) 325 k]) rfl (zA ⟨zob_322, rfl⟩ (zA (zinL_325 (i := k) (by lia) (by lia)) trivial)) (fun c2 => ?_) (fun c2 => ?_)
      · skip
        refine zG_run bkWri_firstUnfit_31 (lv' := [(2, .int (k + 1)), (0, .ref 322), (1, .int s)]) (st' := []) (h' := zN sg) (Ps := []) rfl trivial ?_
        refine zG_pick (lv' := [(0, .ref 322), (1, .int s), (2, .int (k + 1))]) [1, 2, 0] rfl ?_
        refine ih (k + 1) ?_ ?_
        · refine ⟨?_, ?_, ?_⟩
          · lia
          · lia
          · intro j h1 h2; by_cases hj : j = k
            · rw [hj]; lia
            · exact k2 j h1 (by lia)
        · exact zmu_up (by lia)
      · skip
        refine zb_iret bkWri_firstUnfit_29 bdWri_firstUnfit_30 rfl (x := k) (h' := zN sg) (Ps := []) rfl trivial rfl ?_
        refine hq _ _ ?_
        exact ⟨by rw [← wFu_is ow.1.1 k0 k1 k2 (fun _ => by lia)], rfl⟩
  · refine ⟨?_, ?_, ?_⟩
    · lia
    · lia
    · intro j h1 h2; exfalso; lia
theorem cWri_firstUnfit {sg : zSig} {s : Int32} (ow : okW sg) : zG mWri_firstUnfit 411 (fun rr h' => rr = some (.int (wFu sg s)) ∧ h' = zN sg) 0 [(0, .ref 322), (1, .int s)] [] (zN sg) := lWri_firstUnfit ow (fun _ _ q => q)
theorem bkWri_isOpen_0 : zBk mWri_isOpen 0 [(0, 0, 0, 0, 0), (2, 2, 0, 0, 0)] = some 2 := by decide +kernel
theorem bkWri_isOpen_2 : zBk mWri_isOpen 2 [(1, 2, 0, 0, 0), (1, 0, 1, 0, 0), (5, 8, 4, 0, 4)] = some 7 := by decide +kernel
theorem bkWri_isOpen_28 : zBk mWri_isOpen 28 [(0, 0, 0, 0, 0)] = some 29 := by decide +kernel
theorem bkWri_isOpen_10 : zBk mWri_isOpen 10 [(1, 0, 1, 0, 0), (5, 8, 2, 2, 2), (1, 2, 0, 0, 0), (7, 0, 0, 0, 0), (1, 1, 0, 0, 0)] = some 17 := by decide +kernel
theorem bkWri_isOpen_22 : zBk mWri_isOpen 22 [(3, 2, 0, 0, 1), (22, 2, 0, 0, 0)] = some 2 := by decide +kernel
theorem bkWri_isOpen_20 : zBk mWri_isOpen 20 [(0, 0, 0, 0, 1)] = some 21 := by decide +kernel
theorem bdWri_isOpen_7 : decode mWri_isOpen.2.2.1 7 = .ok (.if_icmp .ge 21, 3) := by decide +kernel
theorem bdWri_isOpen_17 : decode mWri_isOpen.2.2.1 17 = .ok (.if_icmp .ne 5, 3) := by decide +kernel
theorem bdWri_isOpen_21 : decode mWri_isOpen.2.2.1 21 = .ok (.ireturn, 1) := by decide +kernel
theorem bdWri_isOpen_29 : decode mWri_isOpen.2.2.1 29 = .ok (.ireturn, 1) := by decide +kernel
theorem lWri_isOpen {sg : zSig} {k : Int32} (ow : okW sg) {Q : Option Value → zHp → Prop} (hq : ∀ rr h', (rr = some (.int (wIo sg k)) ∧ h' = zN sg) → Q rr h') : zG mWri_isOpen 411 Q 0 [(0, .ref 322), (1, .int k)] [] (zN sg) := by
  obtain ⟨⟨o0, o1⟩, ok⟩ := id ow
  refine zG_run bkWri_isOpen_0 (lv' := [(2, .int 0), (0, .ref 322), (1, .int k)]) (st' := []) (h' := zN sg) (Ps := []) rfl trivial ?_
  refine zG_pick (lv' := [(0, .ref 322), (1, .int k), (2, .int 0)]) [1, 2, 0] rfl ?_
  refine zlp1 (fun (j : Int32) => zG mWri_isOpen 411 Q 2 [(0, .ref 322), (1, .int k), (2, .int j)] [] (zN sg)) (fun (j : Int32) => (0 ≤ j) ∧ (j ≤ sg 322 4) ∧ (∀ i, 0 ≤ i → i < j → ¬ sg 324 i = k)) (fun (j : Int32) => zmu (sg 322 4) j) ?_ 0 ?_
  · intro j hI ih
    obtain ⟨k0, k1, k2⟩ := hI
    refine zb_icge (tgt := 28) bkWri_isOpen_2 bdWri_isOpen_7 (by decide) (lv' := [(0, .ref 322), (1, .int k), (2, .int j)]) (st' := []) (h' := zN sg) (x := j) (y := sg 322 4) (Ps := [zOb (zN sg) 322 8]) rfl (zA zob_322 trivial) (fun c1 => ?_) (fun c1 => ?_)
    · skip
      refine zb_zret bkWri_isOpen_28 bdWri_isOpen_29 rfl (x := 0) (h' := zN sg) (Ps := []) rfl trivial rfl (Or.inl rfl) ?_
      refine hq _ _ ?_
      have hx := zit_ex (fun j => sg 324 j = k) ow.1.1
      have hy : wIo sg k = 0 := by
        rcases hx with ⟨h1, i, i0, i1, i2⟩ | ⟨h1, h2⟩
        · exact absurd i2 (k2 i i0 (by lia))
        · exact h1
      exact ⟨by rw [hy], rfl⟩
    · skip
      refine zb_icne (tgt := 22) bkWri_isOpen_10 bdWri_isOpen_17 (by decide) (lv' := [(0, .ref 322), (1, .int k), (2, .int j)]) (st' := []) (h' := zN sg) (x := sg 324 j) (y := k) (Ps := [zOb (zN sg) 322 8 ∧ (zN sg).2.2 322 2 = true, zInL (zN sg) 324 j]) rfl (zA ⟨zob_322, rfl⟩ (zA (zinL_324 (i := j) (by lia) (by lia)) trivial)) (fun c2 => ?_) (fun c2 => ?_)
      · skip
        refine zG_run bkWri_isOpen_22 (lv' := [(2, .int (j + 1)), (0, .ref 322), (1, .int k)]) (st' := []) (h' := zN sg) (Ps := []) rfl trivial ?_
        refine zG_pick (lv' := [(0, .ref 322), (1, .int k), (2, .int (j + 1))]) [1, 2, 0] rfl ?_
        refine ih (j + 1) ?_ ?_
        · refine ⟨?_, ?_, ?_⟩
          · lia
          · lia
          · intro i h1 h2; by_cases hj : i = j
            · rw [hj]; lia
            · exact k2 i h1 (by lia)
        · exact zmu_up (by lia)
      · skip
        refine zb_zret bkWri_isOpen_20 bdWri_isOpen_21 rfl (x := 1) (h' := zN sg) (Ps := []) rfl trivial rfl (Or.inr rfl) ?_
        refine hq _ _ ?_
        have hx := zit_ex (fun j => sg 324 j = k) ow.1.1
        have hy : wIo sg k = 1 := by
          rcases hx with ⟨h1, -⟩ | ⟨h1, h2⟩
          · exact h1
          · exact absurd (by lia : sg 324 j = k) (h2 j k0 (by lia))
        exact ⟨by rw [hy], rfl⟩
  · refine ⟨?_, ?_, ?_⟩
    · lia
    · lia
    · intro i h1 h2; exfalso; lia
theorem cWri_isOpen {sg : zSig} {k : Int32} (ow : okW sg) : zG mWri_isOpen 411 (fun rr h' => rr = some (.int (wIo sg k)) ∧ h' = zN sg) 0 [(0, .ref 322), (1, .int k)] [] (zN sg) := lWri_isOpen ow (fun _ _ q => q)
theorem bkWri_closeDownTo_0 : zBk mWri_closeDownTo 0 [(1, 0, 1, 0, 0), (5, 8, 4, 0, 4), (1, 1, 0, 0, 0)] = some 5 := by decide +kernel
theorem bkWri_closeDownTo_56 : zBk mWri_closeDownTo 56 [] = some 56 := by decide +kernel
theorem bkWri_closeDownTo_8 : zBk mWri_closeDownTo 8 [(1, 0, 1, 0, 0), (18, 0, 0, 0, 0), (5, 8, 4, 0, 4), (0, 0, 0, 0, 1), (4, 1, 0, 0, 0), (6, 8, 4, 0, 4)] = some 18 := by decide +kernel
theorem bkWri_closeDownTo_18 : zBk mWri_closeDownTo 18 [(1, 0, 1, 0, 0), (0, 0, 0, 0, 91)] = some 21 := by decide +kernel
theorem bkWri_closeDownTo_24 : zBk mWri_closeDownTo 24 [(1, 0, 1, 0, 0), (0, 0, 0, 0, 47)] = some 27 := by decide +kernel
theorem bkWri_closeDownTo_30 : zBk mWri_closeDownTo 30 [(1, 0, 1, 0, 0), (11, 0, 0, 0, 0), (1, 0, 1, 0, 0), (5, 8, 2, 2, 2), (1, 0, 1, 0, 0), (5, 8, 4, 0, 4), (7, 0, 0, 0, 0), (7, 0, 0, 0, 0)] = some 44 := by decide +kernel
theorem bkWri_closeDownTo_47 : zBk mWri_closeDownTo 47 [(1, 0, 1, 0, 0), (0, 0, 0, 0, 93)] = some 50 := by decide +kernel
theorem bkWri_closeDownTo_53 : zBk mWri_closeDownTo 53 [(22, 0, 0, 0, 0)] = some 0 := by decide +kernel
theorem bdWri_closeDownTo_5 : decode mWri_closeDownTo.2.2.1 5 = .ok (.if_icmp .le 51, 3) := by decide +kernel
theorem bdWri_closeDownTo_21 : decode mWri_closeDownTo.2.2.1 21 = .ok (.invokevirtual 59, 3) := by decide +kernel
theorem bdWri_closeDownTo_27 : decode mWri_closeDownTo.2.2.1 27 = .ok (.invokevirtual 59, 3) := by decide +kernel
theorem bdWri_closeDownTo_44 : decode mWri_closeDownTo.2.2.1 44 = .ok (.invokevirtual 59, 3) := by decide +kernel
theorem bdWri_closeDownTo_50 : decode mWri_closeDownTo.2.2.1 50 = .ok (.invokevirtual 59, 3) := by decide +kernel
theorem bdWri_closeDownTo_56 : decode mWri_closeDownTo.2.2.1 56 = .ok (.return_, 1) := by decide +kernel
theorem lWri_closeDownTo {sg : zSig} {d : Int32} (ow : okW sg) (l0 : 0 ≤ sg 322 1) (l1 : sg 322 1 ≤ 100000) (d0 : 0 ≤ d) (d1 : d ≤ sg 322 4) {Q : Option Value → zHp → Prop} (hq : ∀ rr h', (∃ sg', rr = none ∧ h' = zN sg' ∧ sg' = wClT sg d ∧ sg' 322 4 = d ∧ (0 ≤ sg' 322 1 ∧ sg' 322 1 ≤ sg 322 1 + 4 * (sg 322 4 - d)) ∧ ∀ c j, c ≠ 322 → c ≠ 323 → sg' c j = sg c j) → Q rr h') : zG mWri_closeDownTo 411 Q 0 [(0, .ref 322), (1, .int d)] [] (zN sg) := by
  obtain ⟨⟨o0, o1⟩, ok⟩ := id ow
  refine zlp1 (fun (sg1 : zSig) => zG mWri_closeDownTo 411 Q 0 [(0, .ref 322), (1, .int d)] [] (zN sg1)) (fun (sg1 : zSig) => (d ≤ sg1 322 4) ∧ (sg1 322 4 ≤ sg 322 4) ∧ (∀ c j, c ≠ 322 → c ≠ 323 → sg1 c j = sg c j) ∧ (0 ≤ sg1 322 1 ∧ sg1 322 1 ≤ sg 322 1 + 4 * (sg 322 4 - sg1 322 4)) ∧ (sg1 = zitN (fun _ => wCl) sg (zmu (sg 322 4) (sg1 322 4)))) (fun (sg1 : zSig) => zmu (sg1 322 4) d) ?_ sg ?_
  · intro sg1 hI ih
    obtain ⟨c0, cu, cf, cl, cz⟩ := hI
    refine zb_icle (tgt := 56) bkWri_closeDownTo_0 bdWri_closeDownTo_5 (by decide) (lv' := [(0, .ref 322), (1, .int d)]) (st' := []) (h' := zN sg1) (x := sg1 322 4) (y := d) (Ps := [zOb (zN sg1) 322 8]) rfl (zA zob_322 trivial) (fun c1 => ?_) (fun c1 => ?_)
    · skip
      refine zb_vret bkWri_closeDownTo_56 bdWri_closeDownTo_56 rfl (h' := zN sg1) (Ps := []) rfl trivial rfl ?_
      refine hq _ _ ?_
      have ed : sg1 322 4 = d := by lia
      rw [ed] at cz cl
      exact ⟨sg1, rfl, rfl, cz, ed, cl, cf⟩
    · skip
      refine zG_run bkWri_closeDownTo_8 (lv' := [(0, .ref 322), (1, .int d)]) (st' := []) (h' := zN (zup sg1 322 4 ((sg1 322 4) - 1))) (Ps := [zOb (zN sg1) 322 8, zOb (zN sg1) 322 8]) rfl (zA zob_322 (zA zob_322 trivial)) ?_
      refine zG_nm (sg := zup sg1 322 4 ((sg1 322 4) - 1)) (fun s1 e1 => ?_)
      have y4 : s1 322 4 = sg1 322 4 - 1 := by rw [e1]; exact zup_s
      have y1 : s1 322 1 = sg1 322 1 := by rw [e1]; exact zup_i (by decide)
      have yk : ∀ j, s1 324 j = sg 324 j := fun j => by rw [e1, zup_a (by decide)]; exact cf 324 j (by decide) (by decide)
      have ys : ∀ j, s1 100000 j = sg 100000 j := fun j => by rw [e1, zup_a (by decide)]; exact cf 100000 j (by decide) (by decide)
      have yo := ok (sg1 322 4 - 1) (by lia) (by lia)
      refine zG_run bkWri_closeDownTo_18 (lv' := [(0, .ref 322), (1, .int d)]) (st' := [.int 91, .ref 322]) (h' := zN s1) (Ps := []) rfl trivial ?_
      refine zG_callv (a := 322) (c := 8) (As := [.int 91]) (rest := []) (N2 := 411) bdWri_closeDownTo_21 okWri_add lk8_59 (And.intro (by decide) (by decide)) (by decide) rfl rfl rfl (Nat.le_of_ble_eq_true rfl) (Nat.le_of_ble_eq_true rfl) (Nat.le_refl 411) (Nat.le_refl 411) zob_322 (cWri_add (by (try simp only [wA1, wA4, wAk, wAv, wAs, yk, y4]); lia)) ?_
      rintro rr h' ⟨rfl, rfl⟩ -
      refine zG_run bkWri_closeDownTo_24 (lv' := [(0, .ref 322), (1, .int d)]) (st' := [.int 47, .ref 322]) (h' := zN (wAdd s1 91)) (Ps := []) rfl trivial ?_
      refine zG_callv (a := 322) (c := 8) (As := [.int 47]) (rest := []) (N2 := 411) bdWri_closeDownTo_27 okWri_add lk8_59 (And.intro (by decide) (by decide)) (by decide) rfl rfl rfl (Nat.le_of_ble_eq_true rfl) (Nat.le_of_ble_eq_true rfl) (Nat.le_refl 411) (Nat.le_refl 411) zob_322 (cWri_add (by (try simp only [wA1, wA4, wAk, wAv, wAs, yk, y4]); lia)) ?_
      rintro rr h' ⟨rfl, rfl⟩ -
      refine zG_run bkWri_closeDownTo_30 (lv' := [(0, .ref 322), (1, .int d)]) (st' := [.int ((wAdd (wAdd s1 91) 47) 100000 ((wAdd (wAdd s1 91) 47) 324 ((wAdd (wAdd s1 91) 47) 322 4))), .ref 322]) (h' := zN (wAdd (wAdd s1 91) 47)) (Ps := [zOb (zN (wAdd (wAdd s1 91) 47)) 322 8 ∧ (zN (wAdd (wAdd s1 91) 47)).2.2 322 2 = true, zOb (zN (wAdd (wAdd s1 91) 47)) 322 8, zInL (zN (wAdd (wAdd s1 91) 47)) 324 ((wAdd (wAdd s1 91) 47) 322 4), zInL (zN (wAdd (wAdd s1 91) 47)) 100000 ((wAdd (wAdd s1 91) 47) 324 ((wAdd (wAdd s1 91) 47) 322 4))]) rfl (zA ⟨zob_322, rfl⟩ (zA zob_322 (zA (zinL_324 (i := (wAdd (wAdd s1 91) 47) 322 4) (by (try simp only [wA1, wA4, wAk, wAv, wAs, yk, y4]); lia) (by (try simp only [wA1, wA4, wAk, wAv, wAs, yk, y4]); lia)) (zA (zinL_100000 (i := (wAdd (wAdd s1 91) 47) 324 ((wAdd (wAdd s1 91) 47) 322 4)) (by (try simp only [wA1, wA4, wAk, wAv, wAs, yk, y4]); lia) (by (try simp only [wA1, wA4, wAk, wAv, wAs, yk, y4]); lia)) trivial)))) ?_
      refine zG_callv (a := 322) (c := 8) (As := [.int ((wAdd (wAdd s1 91) 47) 100000 ((wAdd (wAdd s1 91) 47) 324 ((wAdd (wAdd s1 91) 47) 322 4)))]) (rest := []) (N2 := 411) bdWri_closeDownTo_44 okWri_add lk8_59 (And.intro (by decide) (by decide)) (by decide) rfl rfl rfl (Nat.le_of_ble_eq_true rfl) (Nat.le_of_ble_eq_true rfl) (Nat.le_refl 411) (Nat.le_refl 411) zob_322 (cWri_add (by (try simp only [wA1, wA4, wAk, wAv, wAs, yk, y4]); lia)) ?_
      rintro rr h' ⟨rfl, rfl⟩ -
      refine zG_run bkWri_closeDownTo_47 (lv' := [(0, .ref 322), (1, .int d)]) (st' := [.int 93, .ref 322]) (h' := zN (wAdd (wAdd (wAdd s1 91) 47) ((wAdd (wAdd s1 91) 47) 100000 ((wAdd (wAdd s1 91) 47) 324 ((wAdd (wAdd s1 91) 47) 322 4))))) (Ps := []) rfl trivial ?_
      refine zG_callv (a := 322) (c := 8) (As := [.int 93]) (rest := []) (N2 := 411) bdWri_closeDownTo_50 okWri_add lk8_59 (And.intro (by decide) (by decide)) (by decide) rfl rfl rfl (Nat.le_of_ble_eq_true rfl) (Nat.le_of_ble_eq_true rfl) (Nat.le_refl 411) (Nat.le_refl 411) zob_322 (cWri_add (by (try simp only [wA1, wA4, wAk, wAv, wAs, yk, y4]); lia)) ?_
      rintro rr h' ⟨rfl, rfl⟩ -
      have ec : wAdd (wAdd (wAdd (wAdd s1 91) 47) ((wAdd (wAdd s1 91) 47) 100000 ((wAdd (wAdd s1 91) 47) 324 ((wAdd (wAdd s1 91) 47) 322 4)))) 93 = wCl sg1 := by simp only [wA4, wAk, wAs, y4, yk, ys]; rw [e1]; unfold wCl; rw [cf 100000 _ (by decide) (by decide), cf 324 _ (by decide) (by decide)]
      refine zG_run bkWri_closeDownTo_53 (lv' := [(0, .ref 322), (1, .int d)]) (st' := []) (h' := zN (wAdd (wAdd (wAdd (wAdd s1 91) 47) ((wAdd (wAdd s1 91) 47) 100000 ((wAdd (wAdd s1 91) 47) 324 ((wAdd (wAdd s1 91) 47) 322 4)))) 93)) (Ps := []) rfl trivial ?_
      refine ih (wAdd (wAdd (wAdd (wAdd s1 91) 47) ((wAdd (wAdd s1 91) 47) 100000 ((wAdd (wAdd s1 91) 47) 324 ((wAdd (wAdd s1 91) 47) 322 4)))) 93) ?_ ?_
      · refine ⟨?_, ?_, ?_, ?_, ?_⟩
        · rw [ec, wC4]; lia
        · rw [ec, wC4]; lia
        · intro c j h1 h2; rw [ec, wCf h2 h1]; exact cf c j h1 h2
        · rw [ec, wC1, wC4]; lia
        · rw [ec, wC4, zmu_dn (by lia) cu]; show _ = wCl (zitN (fun _ => wCl) sg _); rw [← cz]
      · rw [ec, wC4]; exact zmu_down (by lia)
  · refine ⟨?_, ?_, ?_, ?_, ?_⟩
    · lia
    · lia
    · intro c j _ _; rfl
    · lia
    · rw [zmu_self]; rfl
theorem cWri_closeDownTo {sg : zSig} {d : Int32} (ow : okW sg) (l0 : 0 ≤ sg 322 1) (l1 : sg 322 1 ≤ 100000) (d0 : 0 ≤ d) (d1 : d ≤ sg 322 4) : zG mWri_closeDownTo 411 (fun rr h' => ∃ sg', rr = none ∧ h' = zN sg' ∧ sg' = wClT sg d ∧ sg' 322 4 = d ∧ (0 ≤ sg' 322 1 ∧ sg' 322 1 ≤ sg 322 1 + 4 * (sg 322 4 - d)) ∧ ∀ c j, c ≠ 322 → c ≠ 323 → sg' c j = sg c j) 0 [(0, .ref 322), (1, .int d)] [] (zN sg) := lWri_closeDownTo ow l0 l1 d0 d1 (fun _ _ q => q)
theorem wPu1 {sg : zSig} {k v : Int32} : wPu sg k v 322 1 = sg 322 1 + 1 + 1 := by unfold wPu; rw [wA1, wA1, zup_i (by decide), zup_a (by decide), zup_a (by decide)]
theorem wPu4 {sg : zSig} {k v : Int32} : wPu sg k v 322 4 = sg 322 4 + 1 := by unfold wPu; rw [wA4, wA4, zup_s]
theorem wPuk {sg : zSig} {k v j : Int32} : wPu sg k v 324 j = if j = sg 322 4 then k else sg 324 j := by unfold wPu; rw [wAk, wAk, zup_a (by decide), zup_a (by decide), zup_e]; simp only [true_and]
theorem wPuf {sg : zSig} {k v j : Int32} {c : Nat} (h : c < 322 ∨ 326 ≤ c) : wPu sg k v c j = sg c j := by unfold wPu; rw [wAf (by omega) (by omega), wAf (by omega) (by omega), zup_a (by omega), zup_a (by omega), zup_a (by omega)]
theorem wOp_ok {sg : zSig} {s k : Int32} (ow : okW sg) (k0 : 0 ≤ k) (k1 : k < 6) (l0 : 0 ≤ sg 322 1) (l1 : sg 322 1 ≤ 1000000) : okW (wOp s k sg) ∧ (0 ≤ wOp s k sg 322 1 ∧ wOp s k sg 322 1 ≤ sg 322 1 + 4) ∧ ∀ c j, (c < 322 ∨ 326 ≤ c) → wOp s k sg c j = sg c j := by
  unfold wOp
  split
  · exact ⟨ow, ⟨l0, by lia⟩, fun _ _ _ => rfl⟩
  · obtain ⟨⟨o0, o1⟩, ok⟩ := ow
    rename_i hc
    have ho : sg 322 4 < 6 := by lia
    have key : ∀ T : zSig, T 322 4 = sg 322 4 + 1 → (∀ j, T 324 j = if j = sg 322 4 then k else sg 324 j) → okW T := by
      intro T h1 h2
      refine ⟨⟨by lia, by lia⟩, fun j j0 j1 => ?_⟩
      rw [h2 j]
      by_cases hj : j = sg 322 4
      · rw [if_pos hj]; exact ⟨k0, k1⟩
      · rw [if_neg hj]; exact ok j j0 (by lia)
    by_cases h4 : k < 4
    · rw [if_pos h4]
      refine ⟨key _ (by rw [wA4, wPu4]) (fun j => by rw [wAk, wPuk]), ?_, fun c j h => ?_⟩
      · rw [wA1, wPu1]; lia
      · rw [wAf (by omega) (by omega), wPuf h]
    · rw [if_neg h4]
      refine ⟨key _ (by rw [wA4, wA4, wPu4]) (fun j => by rw [wAk, wAk, wPuk]), ?_, fun c j h => ?_⟩
      · rw [wA1, wA1, wPu1]; lia
      · rw [wAf (by omega) (by omega), wAf (by omega) (by omega), wPuf h]
theorem bkWri_openLacking_0 : zBk mWri_openLacking 0 [(0, 0, 0, 0, 0), (2, 2, 0, 0, 0)] = some 2 := by decide +kernel
theorem bkWri_openLacking_2 : zBk mWri_openLacking 2 [(1, 2, 0, 0, 0), (11, 0, 0, 0, 0), (10, 0, 0, 0, 0)] = some 7 := by decide +kernel
theorem bkWri_openLacking_114 : zBk mWri_openLacking 114 [] = some 114 := by decide +kernel
theorem bkWri_openLacking_10 : zBk mWri_openLacking 10 [(1, 1, 0, 0, 0), (1, 2, 0, 0, 0)] = some 12 := by decide +kernel
theorem bkWri_openLacking_15 : zBk mWri_openLacking 15 [(2, 3, 0, 0, 0), (1, 3, 0, 0, 0), (0, 0, 0, 0, -1)] = some 18 := by decide +kernel
theorem bkWri_openLacking_108 : zBk mWri_openLacking 108 [(3, 2, 0, 0, 1), (22, 2, 0, 0, 0)] = some 2 := by decide +kernel
theorem bkWri_openLacking_21 : zBk mWri_openLacking 21 [(1, 0, 1, 0, 0), (1, 2, 0, 0, 0)] = some 23 := by decide +kernel
theorem bkWri_openLacking_26 : zBk mWri_openLacking 26 [] = some 26 := by decide +kernel
theorem bkWri_openLacking_29 : zBk mWri_openLacking 29 [(1, 0, 1, 0, 0), (5, 8, 4, 0, 4), (1, 0, 1, 0, 0), (5, 8, 2, 2, 2), (10, 0, 0, 0, 0)] = some 38 := by decide +kernel
theorem bkWri_openLacking_44 : zBk mWri_openLacking 44 [(1, 0, 1, 0, 0), (5, 8, 2, 2, 2), (1, 0, 1, 0, 0), (5, 8, 4, 0, 4), (1, 2, 0, 0, 0), (8, 0, 0, 0, 0), (1, 0, 1, 0, 0), (5, 8, 3, 3, 3), (1, 0, 1, 0, 0), (5, 8, 4, 0, 4), (1, 3, 0, 0, 0), (8, 0, 0, 0, 0), (1, 0, 1, 0, 0), (18, 0, 0, 0, 0), (5, 8, 4, 0, 4), (0, 0, 0, 0, 1), (4, 0, 0, 0, 0), (6, 8, 4, 0, 4)] = some 74 := by decide +kernel
theorem bkWri_openLacking_74 : zBk mWri_openLacking 74 [(1, 0, 1, 0, 0), (0, 0, 0, 0, 91)] = some 77 := by decide +kernel
theorem bkWri_openLacking_80 : zBk mWri_openLacking 80 [(1, 0, 1, 0, 0), (11, 0, 0, 0, 0), (1, 2, 0, 0, 0), (7, 0, 0, 0, 0)] = some 86 := by decide +kernel
theorem bkWri_openLacking_89 : zBk mWri_openLacking 89 [(1, 2, 0, 0, 0), (0, 0, 0, 0, 4)] = some 91 := by decide +kernel
theorem bkWri_openLacking_102 : zBk mWri_openLacking 102 [(1, 0, 1, 0, 0), (0, 0, 0, 0, 93)] = some 105 := by decide +kernel
theorem bkWri_openLacking_94 : zBk mWri_openLacking 94 [(1, 0, 1, 0, 0), (0, 0, 0, 0, 48), (1, 3, 0, 0, 0), (4, 0, 0, 0, 0)] = some 99 := by decide +kernel
theorem bkWri_openLacking_41 : zBk mWri_openLacking 41 [(22, 108, 0, 0, 0)] = some 108 := by decide +kernel
theorem bdWri_openLacking_7 : decode mWri_openLacking.2.2.1 7 = .ok (.if_icmp .ge 107, 3) := by decide +kernel
theorem bdWri_openLacking_12 : decode mWri_openLacking.2.2.1 12 = .ok (.invokestatic 62, 3) := by decide +kernel
theorem bdWri_openLacking_18 : decode mWri_openLacking.2.2.1 18 = .ok (.if_icmp .eq 90, 3) := by decide +kernel
theorem bdWri_openLacking_23 : decode mWri_openLacking.2.2.1 23 = .ok (.invokevirtual 68, 3) := by decide +kernel
theorem bdWri_openLacking_26 : decode mWri_openLacking.2.2.1 26 = .ok (.ifCond .ne 82, 3) := by decide +kernel
theorem bdWri_openLacking_38 : decode mWri_openLacking.2.2.1 38 = .ok (.if_icmp .lt 6, 3) := by decide +kernel
theorem bdWri_openLacking_77 : decode mWri_openLacking.2.2.1 77 = .ok (.invokevirtual 59, 3) := by decide +kernel
theorem bdWri_openLacking_86 : decode mWri_openLacking.2.2.1 86 = .ok (.invokevirtual 59, 3) := by decide +kernel
theorem bdWri_openLacking_91 : decode mWri_openLacking.2.2.1 91 = .ok (.if_icmp .lt 11, 3) := by decide +kernel
theorem bdWri_openLacking_99 : decode mWri_openLacking.2.2.1 99 = .ok (.invokevirtual 59, 3) := by decide +kernel
theorem bdWri_openLacking_105 : decode mWri_openLacking.2.2.1 105 = .ok (.invokevirtual 59, 3) := by decide +kernel
theorem bdWri_openLacking_114 : decode mWri_openLacking.2.2.1 114 = .ok (.return_, 1) := by decide +kernel
theorem lWri_openLacking {sg : zSig} {s : Int32} (ow : okW sg) (l0 : 0 ≤ sg 322 1) (l1 : sg 322 1 ≤ 100000) {Q : Option Value → zHp → Prop} (hq : ∀ rr h', (∃ sg', rr = none ∧ h' = zN sg' ∧ sg' = wOps s sg ∧ okW sg' ∧ (0 ≤ sg' 322 1 ∧ sg' 322 1 ≤ sg 322 1 + 24) ∧ ∀ c j, (c < 322 ∨ 326 ≤ c) → sg' c j = sg c j) → Q rr h') : zG mWri_openLacking 411 Q 0 [(0, .ref 322), (1, .int s)] [] (zN sg) := by
  refine zG_run bkWri_openLacking_0 (lv' := [(2, .int 0), (0, .ref 322), (1, .int s)]) (st' := []) (h' := zN sg) (Ps := []) rfl trivial ?_
  refine zG_pick (lv' := [(0, .ref 322), (1, .int s), (2, .int 0)]) [1, 2, 0] rfl ?_
  refine zlp2 (fun (k : Int32) (sg1 : zSig) => zG mWri_openLacking 411 Q 2 [(0, .ref 322), (1, .int s), (2, .int k)] [] (zN sg1)) (fun (k : Int32) (sg1 : zSig) => (0 ≤ k) ∧ (k ≤ 6) ∧ (okW sg1) ∧ (0 ≤ sg1 322 1 ∧ sg1 322 1 ≤ sg 322 1 + 4 * k) ∧ (∀ c j, (c < 322 ∨ 326 ≤ c) → sg1 c j = sg c j) ∧ (sg1 = zit (wOp s) sg k)) (fun (k : Int32) (sg1 : zSig) => zmu 6 k) ?_ 0 sg ?_
  · intro k sg1 hI ih
    obtain ⟨k0, k1, io, il, cf, iz⟩ := hI
    obtain ⟨⟨o0, o1⟩, ok⟩ := id io
    refine zb_icge (tgt := 114) bkWri_openLacking_2 bdWri_openLacking_7 (by decide) (lv' := [(0, .ref 322), (1, .int s), (2, .int k)]) (st' := []) (h' := zN sg1) (x := k) (y := 6) (Ps := [(100000 < (zN sg1).2.1 ∧ (zSh 100000).1 = 1 ∧ (zSh 100000).2.1 < 3) ∨ 100000 = 100000 ∨ 100000 = 100001]) rfl (zA (Or.inr (Or.inl rfl)) trivial) (fun c1 => ?_) (fun c1 => ?_)
    · skip
      refine zb_vret bkWri_openLacking_114 bdWri_openLacking_114 rfl (h' := zN sg1) (Ps := []) rfl trivial rfl ?_
      refine hq _ _ ?_
      have ek : k = 6 := by lia
      subst ek
      exact ⟨sg1, rfl, rfl, iz, io, by lia, cf⟩
    · skip
      refine zG_run bkWri_openLacking_10 (lv' := [(0, .ref 322), (1, .int s), (2, .int k)]) (st' := [.int k, .int s]) (h' := zN sg1) (Ps := []) rfl trivial ?_
      refine zG_calls (As := [.int s, .int k]) (rest := []) (N2 := 411) bdWri_openLacking_12 okSty_markValue lk8_62 (And.intro (by decide) (by decide)) rfl rfl (Nat.le_of_ble_eq_true rfl) (Nat.le_of_ble_eq_true rfl) (Nat.le_refl 411) (Nat.le_refl 411) cSty_markValue ?_
      rintro rr h' ⟨rfl, rfl⟩ -
      refine zb_iceq (tgt := 108) bkWri_openLacking_15 bdWri_openLacking_18 (by decide) (lv' := [(3, .int (fMv s k)), (0, .ref 322), (1, .int s), (2, .int k)]) (st' := []) (h' := zN sg1) (x := fMv s k) (y := (-1)) (Ps := []) rfl trivial (fun c2 => ?_) (fun c2 => ?_)
      · skip
        have ec : wOp s k sg1 = sg1 := by unfold wOp; rw [if_pos (by lia)]
        have wo := wOp_ok (s := s) io k0 (by lia) il.1 (by lia)
        rw [ec] at wo
        refine zG_run bkWri_openLacking_108 (lv' := [(2, .int (k + 1)), (3, .int (fMv s k)), (0, .ref 322), (1, .int s)]) (st' := []) (h' := zN sg1) (Ps := []) rfl trivial ?_
        refine zG_pick (lv' := [(0, .ref 322), (1, .int s), (2, .int (k + 1))]) [2, 3, 0] rfl ?_
        refine ih (k + 1) sg1 ?_ ?_
        · refine ⟨?_, ?_, ?_, ?_, ?_, ?_⟩
          · lia
          · lia
          · exact wo.1
          · have q := wo.2.1; lia
          · intro c j h; rw [wo.2.2 c j h]; exact cf c j h
          · rw [zit_s _ _ k0 (by lia : k < 6), ← iz, ec]
        · exact zmu_up (by lia)
      · skip
        refine zG_run bkWri_openLacking_21 (lv' := [(3, .int (fMv s k)), (0, .ref 322), (1, .int s), (2, .int k)]) (st' := [.int k, .ref 322]) (h' := zN sg1) (Ps := []) rfl trivial ?_
        refine zG_callv (a := 322) (c := 8) (As := [.int k]) (rest := []) (N2 := 411) bdWri_openLacking_23 okWri_isOpen lk8_68 (And.intro (by decide) (by decide)) (by decide) rfl rfl rfl (Nat.le_of_ble_eq_true rfl) (Nat.le_of_ble_eq_true rfl) (Nat.le_refl 411) (Nat.le_refl 411) zob_322 (cWri_isOpen io) ?_
        rintro rr h' ⟨rfl, rfl⟩ -
        refine zb_ifne (tgt := 108) bkWri_openLacking_26 bdWri_openLacking_26 (by decide) (lv' := [(3, .int (fMv s k)), (0, .ref 322), (1, .int s), (2, .int k)]) (st' := []) (h' := zN sg1) (x := wIo sg1 k) (Ps := []) rfl trivial (fun c3 => ?_) (fun c3 => ?_)
        · skip
          have ec : wOp s k sg1 = sg1 := by unfold wOp; rw [if_pos (by lia)]
          have wo := wOp_ok (s := s) io k0 (by lia) il.1 (by lia)
          rw [ec] at wo
          refine zG_run bkWri_openLacking_108 (lv' := [(2, .int (k + 1)), (3, .int (fMv s k)), (0, .ref 322), (1, .int s)]) (st' := []) (h' := zN sg1) (Ps := []) rfl trivial ?_
          refine zG_pick (lv' := [(0, .ref 322), (1, .int s), (2, .int (k + 1))]) [2, 3, 0] rfl ?_
          refine ih (k + 1) sg1 ?_ ?_
          · refine ⟨?_, ?_, ?_, ?_, ?_, ?_⟩
            · lia
            · lia
            · exact wo.1
            · have q := wo.2.1; lia
            · intro c j h; rw [wo.2.2 c j h]; exact cf c j h
            · rw [zit_s _ _ k0 (by lia : k < 6), ← iz, ec]
          · exact zmu_up (by lia)
        · skip
          refine zb_iclt (tgt := 44) bkWri_openLacking_29 bdWri_openLacking_38 (by decide) (lv' := [(3, .int (fMv s k)), (0, .ref 322), (1, .int s), (2, .int k)]) (st' := []) (h' := zN sg1) (x := sg1 322 4) (y := 6) (Ps := [zOb (zN sg1) 322 8, zOb (zN sg1) 322 8 ∧ (zN sg1).2.2 322 2 = true, (324 < (zN sg1).2.1 ∧ (zSh 324).1 = 1 ∧ (zSh 324).2.1 < 3) ∨ 324 = 100000 ∨ 324 = 100001]) rfl (zA zob_322 (zA ⟨zob_322, rfl⟩ (zA (Or.inl ⟨(by decide : 324 < 411), rfl, by decide⟩) trivial))) (fun c4 => ?_) (fun c4 => ?_)
          · skip
            refine zG_run bkWri_openLacking_44 (lv' := [(3, .int (fMv s k)), (0, .ref 322), (1, .int s), (2, .int k)]) (st' := []) (h' := zN (zup (zup (zup sg1 324 (sg1 322 4) k) 325 ((zup sg1 324 (sg1 322 4) k) 322 4) (fMv s k)) 322 4 (((zup (zup sg1 324 (sg1 322 4) k) 325 ((zup sg1 324 (sg1 322 4) k) 322 4) (fMv s k)) 322 4) + 1))) (Ps := [zOb (zN sg1) 322 8 ∧ (zN sg1).2.2 322 2 = true, zOb (zN sg1) 322 8, zIn (zN sg1) 324 0 (sg1 322 4), zOb (zN (zup sg1 324 (sg1 322 4) k)) 322 8 ∧ (zN (zup sg1 324 (sg1 322 4) k)).2.2 322 3 = true, zOb (zN (zup sg1 324 (sg1 322 4) k)) 322 8, zIn (zN (zup sg1 324 (sg1 322 4) k)) 325 0 ((zup sg1 324 (sg1 322 4) k) 322 4), zOb (zN (zup (zup sg1 324 (sg1 322 4) k) 325 ((zup sg1 324 (sg1 322 4) k) 322 4) (fMv s k))) 322 8, zOb (zN (zup (zup sg1 324 (sg1 322 4) k) 325 ((zup sg1 324 (sg1 322 4) k) 322 4) (fMv s k))) 322 8]) rfl (zA ⟨zob_322, rfl⟩ (zA zob_322 (zA (zin_324 (i := sg1 322 4) (by (try simp only [wA1, wA4, wAk, wAv, wAs, y1, ys]); first | lia | (rw [zup_a (by decide)]; lia)) (by (try simp only [wA1, wA4, wAk, wAv, wAs, y1, ys]); first | lia | (rw [zup_a (by decide)]; lia))) (zA ⟨zob_322, rfl⟩ (zA zob_322 (zA (zin_325 (i := (zup sg1 324 (sg1 322 4) k) 322 4) (by (try simp only [wA1, wA4, wAk, wAv, wAs, y1, ys]); first | lia | (rw [zup_a (by decide)]; lia)) (by (try simp only [wA1, wA4, wAk, wAv, wAs, y1, ys]); first | lia | (rw [zup_a (by decide)]; lia))) (zA zob_322 (zA zob_322 trivial)))))))) ?_
            refine zG_nm (sg := zup (zup (zup sg1 324 (sg1 322 4) k) 325 ((zup sg1 324 (sg1 322 4) k) 322 4) (fMv s k)) 322 4 (((zup (zup sg1 324 (sg1 322 4) k) 325 ((zup sg1 324 (sg1 322 4) k) 322 4) (fMv s k)) 322 4) + 1)) (fun s1 e1 => ?_)
            have e2 : s1 = zup (zup (zup sg1 324 (sg1 322 4) k) 325 (sg1 322 4) (fMv s k)) 322 4 (sg1 322 4 + 1) := by rw [e1]; simp [zup_e]
            have y1 : s1 322 1 = sg1 322 1 := by rw [e2, zup_i (by decide), zup_a (by decide), zup_a (by decide)]
            have ys : ∀ j, s1 100000 j = sg1 100000 j := fun j => by rw [e2, zup_a (by decide), zup_a (by decide), zup_a (by decide)]
            refine zG_run bkWri_openLacking_74 (lv' := [(3, .int (fMv s k)), (0, .ref 322), (1, .int s), (2, .int k)]) (st' := [.int 91, .ref 322]) (h' := zN s1) (Ps := []) rfl trivial ?_
            refine zG_callv (a := 322) (c := 8) (As := [.int 91]) (rest := []) (N2 := 411) bdWri_openLacking_77 okWri_add lk8_59 (And.intro (by decide) (by decide)) (by decide) rfl rfl rfl (Nat.le_of_ble_eq_true rfl) (Nat.le_of_ble_eq_true rfl) (Nat.le_refl 411) (Nat.le_refl 411) zob_322 (cWri_add (by (try simp only [wA1, wA4, wAk, wAv, wAs, y1, ys]); first | lia | (rw [zup_a (by decide)]; lia))) ?_
            rintro rr h' ⟨rfl, rfl⟩ -
            refine zG_run bkWri_openLacking_80 (lv' := [(3, .int (fMv s k)), (0, .ref 322), (1, .int s), (2, .int k)]) (st' := [.int ((wAdd s1 91) 100000 k), .ref 322]) (h' := zN (wAdd s1 91)) (Ps := [zInL (zN (wAdd s1 91)) 100000 k]) rfl (zA (zinL_100000 (i := k) (by (try simp only [wA1, wA4, wAk, wAv, wAs, y1, ys]); first | lia | (rw [zup_a (by decide)]; lia)) (by (try simp only [wA1, wA4, wAk, wAv, wAs, y1, ys]); first | lia | (rw [zup_a (by decide)]; lia))) trivial) ?_
            refine zG_callv (a := 322) (c := 8) (As := [.int ((wAdd s1 91) 100000 k)]) (rest := []) (N2 := 411) bdWri_openLacking_86 okWri_add lk8_59 (And.intro (by decide) (by decide)) (by decide) rfl rfl rfl (Nat.le_of_ble_eq_true rfl) (Nat.le_of_ble_eq_true rfl) (Nat.le_refl 411) (Nat.le_refl 411) zob_322 (cWri_add (by (try simp only [wA1, wA4, wAk, wAv, wAs, y1, ys]); first | lia | (rw [zup_a (by decide)]; lia))) ?_
            rintro rr h' ⟨rfl, rfl⟩ -
            refine zb_iclt (tgt := 102) bkWri_openLacking_89 bdWri_openLacking_91 (by decide) (lv' := [(3, .int (fMv s k)), (0, .ref 322), (1, .int s), (2, .int k)]) (st' := []) (h' := zN (wAdd (wAdd s1 91) ((wAdd s1 91) 100000 k))) (x := k) (y := 4) (Ps := []) rfl trivial (fun c5 => ?_) (fun c5 => ?_)
            · skip
              refine zG_run bkWri_openLacking_102 (lv' := [(3, .int (fMv s k)), (0, .ref 322), (1, .int s), (2, .int k)]) (st' := [.int 93, .ref 322]) (h' := zN (wAdd (wAdd s1 91) ((wAdd s1 91) 100000 k))) (Ps := []) rfl trivial ?_
              refine zG_callv (a := 322) (c := 8) (As := [.int 93]) (rest := []) (N2 := 411) bdWri_openLacking_105 okWri_add lk8_59 (And.intro (by decide) (by decide)) (by decide) rfl rfl rfl (Nat.le_of_ble_eq_true rfl) (Nat.le_of_ble_eq_true rfl) (Nat.le_refl 411) (Nat.le_refl 411) zob_322 (cWri_add (by (try simp only [wA1, wA4, wAk, wAv, wAs, y1, ys]); first | lia | (rw [zup_a (by decide)]; lia))) ?_
              rintro rr h' ⟨rfl, rfl⟩ -
              have ec : wOp s k sg1 = wAdd (wAdd (wAdd s1 91) ((wAdd s1 91) 100000 k)) 93 := by unfold wOp; rw [if_neg (by lia), if_pos (by lia)]; unfold wPu; simp only [wAs, ys]; rw [← e2]
              have wo := wOp_ok (s := s) io k0 (by lia) il.1 (by lia)
              rw [ec] at wo
              refine zG_run bkWri_openLacking_108 (lv' := [(2, .int (k + 1)), (3, .int (fMv s k)), (0, .ref 322), (1, .int s)]) (st' := []) (h' := zN (wAdd (wAdd (wAdd s1 91) ((wAdd s1 91) 100000 k)) 93)) (Ps := []) rfl trivial ?_
              refine zG_pick (lv' := [(0, .ref 322), (1, .int s), (2, .int (k + 1))]) [2, 3, 0] rfl ?_
              refine ih (k + 1) (wAdd (wAdd (wAdd s1 91) ((wAdd s1 91) 100000 k)) 93) ?_ ?_
              · refine ⟨?_, ?_, ?_, ?_, ?_, ?_⟩
                · lia
                · lia
                · exact wo.1
                · have q := wo.2.1; lia
                · intro c j h; rw [wo.2.2 c j h]; exact cf c j h
                · rw [zit_s _ _ k0 (by lia : k < 6), ← iz, ec]
              · exact zmu_up (by lia)
            · skip
              refine zG_run bkWri_openLacking_94 (lv' := [(3, .int (fMv s k)), (0, .ref 322), (1, .int s), (2, .int k)]) (st' := [.int (48 + (fMv s k)), .ref 322]) (h' := zN (wAdd (wAdd s1 91) ((wAdd s1 91) 100000 k))) (Ps := []) rfl trivial ?_
              refine zG_callv (a := 322) (c := 8) (As := [.int (48 + (fMv s k))]) (rest := []) (N2 := 411) bdWri_openLacking_99 okWri_add lk8_59 (And.intro (by decide) (by decide)) (by decide) rfl rfl rfl (Nat.le_of_ble_eq_true rfl) (Nat.le_of_ble_eq_true rfl) (Nat.le_refl 411) (Nat.le_refl 411) zob_322 (cWri_add (by (try simp only [wA1, wA4, wAk, wAv, wAs, y1, ys]); first | lia | (rw [zup_a (by decide)]; lia))) ?_
              rintro rr h' ⟨rfl, rfl⟩ -
              refine zG_run bkWri_openLacking_102 (lv' := [(3, .int (fMv s k)), (0, .ref 322), (1, .int s), (2, .int k)]) (st' := [.int 93, .ref 322]) (h' := zN (wAdd (wAdd (wAdd s1 91) ((wAdd s1 91) 100000 k)) (48 + (fMv s k)))) (Ps := []) rfl trivial ?_
              refine zG_callv (a := 322) (c := 8) (As := [.int 93]) (rest := []) (N2 := 411) bdWri_openLacking_105 okWri_add lk8_59 (And.intro (by decide) (by decide)) (by decide) rfl rfl rfl (Nat.le_of_ble_eq_true rfl) (Nat.le_of_ble_eq_true rfl) (Nat.le_refl 411) (Nat.le_refl 411) zob_322 (cWri_add (by (try simp only [wA1, wA4, wAk, wAv, wAs, y1, ys]); first | lia | (rw [zup_a (by decide)]; lia))) ?_
              rintro rr h' ⟨rfl, rfl⟩ -
              have ec : wOp s k sg1 = wAdd (wAdd (wAdd (wAdd s1 91) ((wAdd s1 91) 100000 k)) (48 + (fMv s k))) 93 := by unfold wOp; rw [if_neg (by lia), if_neg (by lia)]; unfold wPu; simp only [wAs, ys]; rw [← e2]
              have wo := wOp_ok (s := s) io k0 (by lia) il.1 (by lia)
              rw [ec] at wo
              refine zG_run bkWri_openLacking_108 (lv' := [(2, .int (k + 1)), (3, .int (fMv s k)), (0, .ref 322), (1, .int s)]) (st' := []) (h' := zN (wAdd (wAdd (wAdd (wAdd s1 91) ((wAdd s1 91) 100000 k)) (48 + (fMv s k))) 93)) (Ps := []) rfl trivial ?_
              refine zG_pick (lv' := [(0, .ref 322), (1, .int s), (2, .int (k + 1))]) [2, 3, 0] rfl ?_
              refine ih (k + 1) (wAdd (wAdd (wAdd (wAdd s1 91) ((wAdd s1 91) 100000 k)) (48 + (fMv s k))) 93) ?_ ?_
              · refine ⟨?_, ?_, ?_, ?_, ?_, ?_⟩
                · lia
                · lia
                · exact wo.1
                · have q := wo.2.1; lia
                · intro c j h; rw [wo.2.2 c j h]; exact cf c j h
                · rw [zit_s _ _ k0 (by lia : k < 6), ← iz, ec]
              · exact zmu_up (by lia)
          · skip
            refine zG_run bkWri_openLacking_41 (lv' := [(3, .int (fMv s k)), (0, .ref 322), (1, .int s), (2, .int k)]) (st' := []) (h' := zN sg1) (Ps := []) rfl trivial ?_
            have ec : wOp s k sg1 = sg1 := by unfold wOp; rw [if_pos (by lia)]
            have wo := wOp_ok (s := s) io k0 (by lia) il.1 (by lia)
            rw [ec] at wo
            refine zG_run bkWri_openLacking_108 (lv' := [(2, .int (k + 1)), (3, .int (fMv s k)), (0, .ref 322), (1, .int s)]) (st' := []) (h' := zN sg1) (Ps := []) rfl trivial ?_
            refine zG_pick (lv' := [(0, .ref 322), (1, .int s), (2, .int (k + 1))]) [2, 3, 0] rfl ?_
            refine ih (k + 1) sg1 ?_ ?_
            · refine ⟨?_, ?_, ?_, ?_, ?_, ?_⟩
              · lia
              · lia
              · exact wo.1
              · have q := wo.2.1; lia
              · intro c j h; rw [wo.2.2 c j h]; exact cf c j h
              · rw [zit_s _ _ k0 (by lia : k < 6), ← iz, ec]
            · exact zmu_up (by lia)
  · refine ⟨?_, ?_, ?_, ?_, ?_, ?_⟩
    · lia
    · lia
    · exact ow
    · lia
    · intro c j _; rfl
    · rfl
theorem cWri_openLacking {sg : zSig} {s : Int32} (ow : okW sg) (l0 : 0 ≤ sg 322 1) (l1 : sg 322 1 ≤ 100000) : zG mWri_openLacking 411 (fun rr h' => ∃ sg', rr = none ∧ h' = zN sg' ∧ sg' = wOps s sg ∧ okW sg' ∧ (0 ≤ sg' 322 1 ∧ sg' 322 1 ≤ sg 322 1 + 24) ∧ ∀ c j, (c < 322 ∨ 326 ≤ c) → sg' c j = sg c j) 0 [(0, .ref 322), (1, .int s)] [] (zN sg) := lWri_openLacking ow l0 l1 (fun _ _ q => q)
theorem bkWri_compose_0 : zBk mWri_compose 0 [(1, 0, 1, 0, 0), (0, 0, 0, 0, 0), (6, 8, 1, 0, 1), (1, 0, 1, 0, 0), (0, 0, 0, 0, 0), (6, 8, 4, 0, 4), (0, 0, 0, 0, 0), (2, 3, 0, 0, 0)] = some 12 := by decide +kernel
theorem bkWri_compose_12 : zBk mWri_compose 12 [(1, 3, 0, 0, 0), (1, 1, 1, 0, 0), (5, 5, 2, 0, 2)] = some 17 := by decide +kernel
theorem bkWri_compose_68 : zBk mWri_compose 68 [(1, 0, 1, 0, 0), (0, 0, 0, 0, 0)] = some 70 := by decide +kernel
theorem bkWri_compose_73 : zBk mWri_compose 73 [(1, 0, 1, 0, 0), (5, 8, 1, 0, 1)] = some 77 := by decide +kernel
theorem bkWri_compose_20 : zBk mWri_compose 20 [(1, 2, 1, 0, 0), (1, 3, 0, 0, 0)] = some 22 := by decide +kernel
theorem bkWri_compose_25 : zBk mWri_compose 25 [] = some 25 := by decide +kernel
theorem bkWri_compose_52 : zBk mWri_compose 52 [(1, 0, 1, 0, 0), (1, 1, 1, 0, 0), (5, 5, 0, 1, 0), (1, 3, 0, 0, 0), (7, 0, 0, 0, 0)] = some 59 := by decide +kernel
theorem bkWri_compose_62 : zBk mWri_compose 62 [(3, 3, 0, 0, 1), (22, 12, 0, 0, 0)] = some 12 := by decide +kernel
theorem bkWri_compose_28 : zBk mWri_compose 28 [(1, 0, 1, 0, 0), (1, 0, 1, 0, 0), (1, 2, 1, 0, 0), (5, 3, 0, 1, 0), (1, 3, 0, 0, 0), (7, 0, 0, 0, 0)] = some 36 := by decide +kernel
theorem bkWri_compose_39 : zBk mWri_compose 39 [] = some 39 := by decide +kernel
theorem bkWri_compose_42 : zBk mWri_compose 42 [(1, 0, 1, 0, 0), (1, 2, 1, 0, 0), (5, 3, 0, 1, 0), (1, 3, 0, 0, 0), (7, 0, 0, 0, 0)] = some 49 := by decide +kernel
theorem bdWri_compose_17 : decode mWri_compose.2.2.1 17 = .ok (.if_icmp .ge 51, 3) := by decide +kernel
theorem bdWri_compose_22 : decode mWri_compose.2.2.1 22 = .ok (.invokevirtual 36, 3) := by decide +kernel
theorem bdWri_compose_25 : decode mWri_compose.2.2.1 25 = .ok (.ifCond .eq 27, 3) := by decide +kernel
theorem bdWri_compose_36 : decode mWri_compose.2.2.1 36 = .ok (.invokevirtual 45, 3) := by decide +kernel
theorem bdWri_compose_39 : decode mWri_compose.2.2.1 39 = .ok (.invokevirtual 49, 3) := by decide +kernel
theorem bdWri_compose_49 : decode mWri_compose.2.2.1 49 = .ok (.invokevirtual 53, 3) := by decide +kernel
theorem bdWri_compose_59 : decode mWri_compose.2.2.1 59 = .ok (.invokevirtual 59, 3) := by decide +kernel
theorem bdWri_compose_70 : decode mWri_compose.2.2.1 70 = .ok (.invokevirtual 49, 3) := by decide +kernel
theorem bdWri_compose_77 : decode mWri_compose.2.2.1 77 = .ok (.ireturn, 1) := by decide +kernel
theorem lWri_compose {sg : zSig}  (n0 : 0 ≤ sg 1 2) (n1 : sg 1 2 ≤ 200) {Q : Option Value → zHp → Prop} (hq : ∀ rr h', (∃ v sg', rr = some (.int v) ∧ h' = zN sg' ∧ sg' = wAll sg ∧ v = sg' 322 1 ∧ (0 ≤ v ∧ v ≤ 60 * sg 1 2 + 24) ∧ ∀ c j, (c < 322 ∨ 326 ≤ c) → sg' c j = sg c j) → Q rr h') : zG mWri_compose 411 Q 0 [(0, .ref 322), (1, .ref 1), (2, .ref 313)] [] (zN sg) := by
  refine zG_run bkWri_compose_0 (lv' := [(3, .int 0), (0, .ref 322), (1, .ref 1), (2, .ref 313)]) (st' := []) (h' := zN (zup (zup sg 322 1 0) 322 4 0)) (Ps := [zOb (zN sg) 322 8, zOb (zN (zup sg 322 1 0)) 322 8]) rfl (zA zob_322 (zA zob_322 trivial)) ?_
  refine zG_pick (lv' := [(0, .ref 322), (1, .ref 1), (2, .ref 313), (3, .int 0)]) [1, 2, 3, 0] rfl ?_
  refine zlp2 (fun (i : Int32) (sg1 : zSig) => zG mWri_compose 411 Q 12 [(0, .ref 322), (1, .ref 1), (2, .ref 313), (3, .int i)] [] (zN sg1)) (fun (i : Int32) (sg1 : zSig) => (0 ≤ i) ∧ (i ≤ sg 1 2) ∧ (okW sg1) ∧ (0 ≤ sg1 322 1 ∧ sg1 322 1 ≤ 60 * i) ∧ (∀ c j, (c < 322 ∨ 326 ≤ c) → sg1 c j = sg c j) ∧ (sg1 = zit (wSt (sg 2) (sg 314)) (wI sg) i)) (fun (i : Int32) (sg1 : zSig) => zmu (sg 1 2) i) ?_ 0 (zup (zup sg 322 1 0) 322 4 0) ?_
  · intro i sg1 hI ih
    obtain ⟨i0, i1, io, il, cf, iz⟩ := hI
    have c12 : sg1 1 2 = sg 1 2 := cf 1 2 (by decide)
    have hs14 : sg1 314 = sg 314 := funext (fun j => cf 314 j (by decide))
    obtain ⟨⟨o0, o1⟩, ok⟩ := id io
    refine zb_icge (tgt := 68) bkWri_compose_12 bdWri_compose_17 (by decide) (lv' := [(0, .ref 322), (1, .ref 1), (2, .ref 313), (3, .int i)]) (st' := []) (h' := zN sg1) (x := i) (y := sg1 1 2) (Ps := [zOb (zN sg1) 1 5]) rfl (zA zob_1 trivial) (fun c1 => ?_) (fun c1 => ?_)
    · skip
      refine zG_run bkWri_compose_68 (lv' := [(0, .ref 322), (1, .ref 1), (2, .ref 313), (3, .int i)]) (st' := [.int 0, .ref 322]) (h' := zN sg1) (Ps := []) rfl trivial ?_
      refine zG_callv (a := 322) (c := 8) (As := [.int 0]) (rest := []) (N2 := 411) bdWri_compose_70 okWri_closeDownTo lk8_49 (And.intro (by decide) (by decide)) (by decide) rfl rfl rfl (Nat.le_of_ble_eq_true rfl) (Nat.le_of_ble_eq_true rfl) (Nat.le_refl 411) (Nat.le_refl 411) zob_322 (cWri_closeDownTo (d := 0) io il.1 (by lia) (by decide) io.1.1) ?_
      rintro rr h' ⟨s4, rfl, rfl, z4, o4, l4, f4⟩ -
      refine zb_iret bkWri_compose_73 bdWri_compose_77 rfl (x := s4 322 1) (h' := zN s4) (Ps := [zOb (zN s4) 322 8]) rfl (zA zob_322 trivial) rfl ?_
      refine hq _ _ ?_
      have ei : i = sg 1 2 := by lia
      subst ei
      exact ⟨_, s4, rfl, rfl, by rw [z4, iz]; rfl, rfl, by have := io.1; lia, fun c j h => by rw [f4 c j (by omega) (by omega)]; exact cf c j h⟩
    · skip
      refine zG_run bkWri_compose_20 (lv' := [(0, .ref 322), (1, .ref 1), (2, .ref 313), (3, .int i)]) (st' := [.int i, .ref 313]) (h' := zN sg1) (Ps := []) rfl trivial ?_
      refine zG_callv (a := 313) (c := 3) (As := [.int i]) (rest := []) (N2 := 411) bdWri_compose_22 okLoo_beginsRun lk8_36 (And.intro (by decide) (by decide)) (by decide) rfl rfl rfl (Nat.le_of_ble_eq_true rfl) (Nat.le_of_ble_eq_true rfl) (Nat.le_refl 411) (Nat.le_refl 411) zob_313 (cLoo_beginsRun_313 (by lia) (by lia)) ?_
      rintro rr h' ⟨rfl, rfl⟩ -
      refine zb_ifeq (tgt := 52) bkWri_compose_25 bdWri_compose_25 (by decide) (lv' := [(0, .ref 322), (1, .ref 1), (2, .ref 313), (3, .int i)]) (st' := []) (h' := zN sg1) (x := bg (sg1 314) i) (Ps := []) rfl trivial (fun c2 => ?_) (fun c2 => ?_)
      · skip
        refine zG_run bkWri_compose_52 (lv' := [(0, .ref 322), (1, .ref 1), (2, .ref 313), (3, .int i)]) (st' := [.int (sg1 2 i), .ref 322]) (h' := zN sg1) (Ps := [zOb (zN sg1) 1 5 ∧ (zN sg1).2.2 1 0 = true, zInL (zN sg1) 2 i]) rfl (zA ⟨zob_1, rfl⟩ (zA (zinL_2 (i := i) (by lia) (by lia)) trivial)) ?_
        refine zG_callv (a := 322) (c := 8) (As := [.int (sg1 2 i)]) (rest := []) (N2 := 411) bdWri_compose_59 okWri_add lk8_59 (And.intro (by decide) (by decide)) (by decide) rfl rfl rfl (Nat.le_of_ble_eq_true rfl) (Nat.le_of_ble_eq_true rfl) (Nat.le_refl 411) (Nat.le_refl 411) zob_322 (cWri_add (by lia)) ?_
        rintro rr h' ⟨rfl, rfl⟩ -
        refine zG_run bkWri_compose_62 (lv' := [(3, .int (i + 1)), (0, .ref 322), (1, .ref 1), (2, .ref 313)]) (st' := []) (h' := zN (wAdd sg1 (sg1 2 i))) (Ps := []) rfl trivial ?_
        refine zG_pick (lv' := [(0, .ref 322), (1, .ref 1), (2, .ref 313), (3, .int (i + 1))]) [1, 2, 3, 0] rfl ?_
        refine ih (i + 1) (wAdd sg1 (sg1 2 i)) ?_ ?_
        · refine ⟨?_, ?_, ?_, ?_, ?_, ?_⟩
          · lia
          · lia
          · exact ⟨by rw [wA4]; exact io.1, fun k q1 q2 => by rw [wA4] at q2; rw [wAk]; exact io.2 k q1 q2⟩
          · rw [wA1]; lia
          · have f34 := cf; intro c j h; rw [wAf (by omega) (by omega)]; exact f34 c j h
          · have f34 := cf; rw [zit_s _ _ i0 (by lia : i < sg 1 2), ← iz]; unfold wSt; rw [if_pos (by rw [← hs14]; assumption), cf 2 i (by decide)]
        · exact zmu_up (by lia)
      · skip
        refine zG_run bkWri_compose_28 (lv' := [(0, .ref 322), (1, .ref 1), (2, .ref 313), (3, .int i)]) (st' := [.int (sg1 314 i), .ref 322, .ref 322]) (h' := zN sg1) (Ps := [zOb (zN sg1) 313 3 ∧ (zN sg1).2.2 313 0 = true, zInL (zN sg1) 314 i]) rfl (zA ⟨zob_313, rfl⟩ (zA (zinL_314 (i := i) (by lia) (by lia)) trivial)) ?_
        refine zG_callv (a := 322) (c := 8) (As := [.int (sg1 314 i)]) (rest := [.ref 322]) (N2 := 411) bdWri_compose_36 okWri_firstUnfit lk8_45 (And.intro (by decide) (by decide)) (by decide) rfl rfl rfl (Nat.le_of_ble_eq_true rfl) (Nat.le_of_ble_eq_true rfl) (Nat.le_refl 411) (Nat.le_refl 411) zob_322 (cWri_firstUnfit io) ?_
        rintro rr h' ⟨rfl, rfl⟩ -
        refine zG_run bkWri_compose_39 (lv' := [(0, .ref 322), (1, .ref 1), (2, .ref 313), (3, .int i)]) (st' := [.int (wFu sg1 (sg1 314 i)), .ref 322]) (h' := zN sg1) (Ps := []) rfl trivial ?_
        refine zG_callv (a := 322) (c := 8) (As := [.int (wFu sg1 (sg1 314 i))]) (rest := []) (N2 := 411) bdWri_compose_39 okWri_closeDownTo lk8_49 (And.intro (by decide) (by decide)) (by decide) rfl rfl rfl (Nat.le_of_ble_eq_true rfl) (Nat.le_of_ble_eq_true rfl) (Nat.le_refl 411) (Nat.le_refl 411) zob_322 (cWri_closeDownTo (d := wFu sg1 (sg1 314 i)) io il.1 (by lia) (by have := wFu_or (s := sg1 314 i) io.1.1; lia) (by have := wFu_or (s := sg1 314 i) io.1.1; lia)) ?_
        rintro rr h' ⟨s2, rfl, rfl, z2, o2, l2, f2⟩ -
        obtain ⟨⟨hf0, hf1⟩, hf2, hf3⟩ := wFu_or (s := sg1 314 i) io.1.1
        have ow2 : okW s2 := ⟨by rw [o2]; lia, fun k q1 q2 => by rw [f2 324 k (by decide) (by decide)]; exact io.2 k q1 (by lia)⟩
        refine zG_run bkWri_compose_42 (lv' := [(0, .ref 322), (1, .ref 1), (2, .ref 313), (3, .int i)]) (st' := [.int (s2 314 i), .ref 322]) (h' := zN s2) (Ps := [zOb (zN s2) 313 3 ∧ (zN s2).2.2 313 0 = true, zInL (zN s2) 314 i]) rfl (zA ⟨zob_313, rfl⟩ (zA (zinL_314 (i := i) (by lia) (by lia)) trivial)) ?_
        refine zG_callv (a := 322) (c := 8) (As := [.int (s2 314 i)]) (rest := []) (N2 := 411) bdWri_compose_49 okWri_openLacking lk8_53 (And.intro (by decide) (by decide)) (by decide) rfl rfl rfl (Nat.le_of_ble_eq_true rfl) (Nat.le_of_ble_eq_true rfl) (Nat.le_refl 411) (Nat.le_refl 411) zob_322 (cWri_openLacking (s := s2 314 i) ow2 l2.1 (by lia)) ?_
        rintro rr h' ⟨s3, rfl, rfl, z3, ow3, l3, f3⟩ -
        refine zG_run bkWri_compose_52 (lv' := [(0, .ref 322), (1, .ref 1), (2, .ref 313), (3, .int i)]) (st' := [.int (s3 2 i), .ref 322]) (h' := zN s3) (Ps := [zOb (zN s3) 1 5 ∧ (zN s3).2.2 1 0 = true, zInL (zN s3) 2 i]) rfl (zA ⟨zob_1, rfl⟩ (zA (zinL_2 (i := i) (by lia) (by lia)) trivial)) ?_
        refine zG_callv (a := 322) (c := 8) (As := [.int (s3 2 i)]) (rest := []) (N2 := 411) bdWri_compose_59 okWri_add lk8_59 (And.intro (by decide) (by decide)) (by decide) rfl rfl rfl (Nat.le_of_ble_eq_true rfl) (Nat.le_of_ble_eq_true rfl) (Nat.le_refl 411) (Nat.le_refl 411) zob_322 (cWri_add (by lia)) ?_
        rintro rr h' ⟨rfl, rfl⟩ -
        refine zG_run bkWri_compose_62 (lv' := [(3, .int (i + 1)), (0, .ref 322), (1, .ref 1), (2, .ref 313)]) (st' := []) (h' := zN (wAdd s3 (s3 2 i))) (Ps := []) rfl trivial ?_
        refine zG_pick (lv' := [(0, .ref 322), (1, .ref 1), (2, .ref 313), (3, .int (i + 1))]) [1, 2, 3, 0] rfl ?_
        refine ih (i + 1) (wAdd s3 (s3 2 i)) ?_ ?_
        · refine ⟨?_, ?_, ?_, ?_, ?_, ?_⟩
          · lia
          · lia
          · exact ⟨by rw [wA4]; exact ow3.1, fun k q1 q2 => by rw [wA4] at q2; rw [wAk]; exact ow3.2 k q1 q2⟩
          · rw [wA1]; lia
          · have f34 : ∀ c j, (c < 322 ∨ 326 ≤ c) → s3 c j = sg c j := (fun c j h => (by rw [f3 c j h, f2 c j (by omega) (by omega)]; exact cf c j h)); intro c j h; rw [wAf (by omega) (by omega)]; exact f34 c j h
          · have f34 : ∀ c j, (c < 322 ∨ 326 ≤ c) → s3 c j = sg c j := (fun c j h => (by rw [f3 c j h, f2 c j (by omega) (by omega)]; exact cf c j h)); rw [zit_s _ _ i0 (by lia : i < sg 1 2), ← iz]; unfold wSt; rw [if_neg (by rw [← hs14]; assumption), f34 2 i (by decide), z3, f2 314 i (by decide) (by decide), z2, cf 314 i (by decide)]
        · exact zmu_up (by lia)
  · refine ⟨?_, ?_, ?_, ?_, ?_, ?_⟩
    · lia
    · lia
    · exact ⟨⟨by rw [zup_s]; decide, by rw [zup_s]; decide⟩, fun k q1 q2 => by rw [zup_s] at q2; exfalso; lia⟩
    · rw [zup_i (by decide), zup_s]; decide
    · intro c j h; rw [zup_a (by omega), zup_a (by omega)]
    · rfl
theorem cWri_compose {sg : zSig}  (n0 : 0 ≤ sg 1 2) (n1 : sg 1 2 ≤ 200) : zG mWri_compose 411 (fun rr h' => ∃ v sg', rr = some (.int v) ∧ h' = zN sg' ∧ sg' = wAll sg ∧ v = sg' 322 1 ∧ (0 ≤ v ∧ v ≤ 60 * sg 1 2 + 24) ∧ ∀ c j, (c < 322 ∨ 326 ≤ c) → sg' c j = sg c j) 0 [(0, .ref 322), (1, .ref 1), (2, .ref 313)] [] (zN sg) := lWri_compose n0 n1 (fun _ _ q => q)
def hTb (sg : zSig) (n : Int32) : zSig := zcp (zup sg 34 1 n) 323 35 0 0 n
theorem bkTap_become_0 : zBk mTap_become 0 [(1, 0, 1, 0, 0), (1, 2, 0, 0, 0), (0, 0, 0, 0, 400)] = some 5 := by decide +kernel
theorem bkTap_become_8 : zBk mTap_become 8 [(6, 7, 1, 0, 1)] = some 11 := by decide +kernel
theorem bkTap_become_11 : zBk mTap_become 11 [(1, 1, 1, 0, 0), (0, 0, 0, 0, 0), (1, 0, 1, 0, 0), (5, 7, 0, 1, 0), (0, 0, 0, 0, 0), (1, 0, 1, 0, 0), (5, 7, 1, 0, 1)] = some 22 := by decide +kernel
theorem bkTap_become_25 : zBk mTap_become 25 [] = some 25 := by decide +kernel
theorem bdTap_become_5 : decode mTap_become.2.2.1 5 = .ok (.invokestatic 19, 3) := by decide +kernel
theorem bdTap_become_22 : decode mTap_become.2.2.1 22 = .ok (.invokestatic 25, 3) := by decide +kernel
theorem bdTap_become_25 : decode mTap_become.2.2.1 25 = .ok (.return_, 1) := by decide +kernel
theorem cTap_become {sg : zSig} {n : Int32} (n0 : 0 ≤ n) (n1 : n ≤ 400) : zG mTap_become 411 (fun rr h' => rr = none ∧ h' = zN (hTb sg n)) 0 [(0, .ref 34), (1, .ref 323), (2, .int n)] [] (zN sg) := by
  refine zG_run bkTap_become_0 (lv' := [(0, .ref 34), (1, .ref 323), (2, .int n)]) (st' := [.int 400, .int n, .ref 34]) (h' := zN sg) (Ps := []) rfl trivial ?_
  refine zG_calls (As := [.int n, .int 400]) (rest := [.ref 34]) (N2 := 411) bdTap_become_5 okMa_min lk7_19 (And.intro (by decide) (by decide)) rfl rfl (Nat.le_of_ble_eq_true rfl) (Nat.le_of_ble_eq_true rfl) (Nat.le_refl 411) (Nat.le_refl 411) cMa_min ?_
  rintro rr h' ⟨rfl, rfl⟩ -
  refine zG_run bkTap_become_8 (lv' := [(0, .ref 34), (1, .ref 323), (2, .int n)]) (st' := []) (h' := zN (zup sg 34 1 (fMin n 400))) (Ps := [zOb (zN sg) 34 7]) rfl (zA zob_34 trivial) ?_
  rw [show fMin n 400 = n by unfold fMin; rw [if_pos n1]]
  refine zG_run bkTap_become_11 (lv' := [(0, .ref 34), (1, .ref 323), (2, .int n)]) (st' := [.int ((zup sg 34 1 n) 34 1), .int 0, .ref 35, .int 0, .ref 323]) (h' := zN (zup sg 34 1 n)) (Ps := [zOb (zN (zup sg 34 1 n)) 34 7 ∧ (zN (zup sg 34 1 n)).2.2 34 0 = true, zOb (zN (zup sg 34 1 n)) 34 7]) rfl (zA ⟨zob_34, rfl⟩ (zA zob_34 trivial)) ?_
  refine zs_acopy bdTap_become_22 lk7_25 (And.intro (by decide) (by decide)) (Nat.le_of_ble_eq_true rfl) (zcp_323_35 (sp := 0) (dp := 0) (n := n) (by decide) (by decide) n0 n1 n1 (by lia) (by lia)) ?_
  refine zb_vret bkTap_become_25 bdTap_become_25 rfl (h' := zN (zcp (zup sg 34 1 n) 323 35 0 0 ((zup sg 34 1 n) 34 1))) (Ps := []) rfl trivial rfl ?_
  exact ⟨rfl, rfl⟩
theorem bkSR_write_0 : zBk mSR_write 0 [(1, 0, 1, 0, 0), (5, 9, 8, 322, 8), (1, 0, 1, 0, 0), (5, 9, 0, 1, 0), (1, 0, 1, 0, 0)] = some 9 := by decide +kernel
theorem bkSR_write_12 : zBk mSR_write 12 [] = some 12 := by decide +kernel
theorem bkSR_write_15 : zBk mSR_write 15 [(2, 1, 0, 0, 0), (1, 1, 0, 0, 0), (0, 0, 0, 0, 400)] = some 20 := by decide +kernel
theorem bkSR_write_30 : zBk mSR_write 30 [(1, 0, 1, 0, 0), (5, 9, 1, 34, 1), (1, 0, 1, 0, 0), (5, 9, 8, 322, 8), (5, 8, 0, 1, 0), (1, 1, 0, 0, 0)] = some 42 := by decide +kernel
theorem bkSR_write_45 : zBk mSR_write 45 [(1, 0, 1, 0, 0), (1, 1, 0, 0, 0)] = some 47 := by decide +kernel
theorem bkSR_write_50 : zBk mSR_write 50 [] = some 50 := by decide +kernel
theorem bkSR_write_23 : zBk mSR_write 23 [(1, 0, 1, 0, 0), (0, 0, 0, 0, -5)] = some 26 := by decide +kernel
theorem bkSR_write_29 : zBk mSR_write 29 [] = some 29 := by decide +kernel
theorem bdSR_write_9 : decode mSR_write.2.2.1 9 = .ok (.invokevirtual 184, 3) := by decide +kernel
theorem bdSR_write_12 : decode mSR_write.2.2.1 12 = .ok (.invokevirtual 224, 3) := by decide +kernel
theorem bdSR_write_20 : decode mSR_write.2.2.1 20 = .ok (.if_icmp .le 10, 3) := by decide +kernel
theorem bdSR_write_26 : decode mSR_write.2.2.1 26 = .ok (.invokevirtual 93, 3) := by decide +kernel
theorem bdSR_write_29 : decode mSR_write.2.2.1 29 = .ok (.ireturn, 1) := by decide +kernel
theorem bdSR_write_42 : decode mSR_write.2.2.1 42 = .ok (.invokevirtual 231, 3) := by decide +kernel
theorem bdSR_write_47 : decode mSR_write.2.2.1 47 = .ok (.invokevirtual 111, 3) := by decide +kernel
theorem bdSR_write_50 : decode mSR_write.2.2.1 50 = .ok (.ireturn, 1) := by decide +kernel
theorem cSR_write {sg : zSig}  (ob : okS sg 1) (h0 : 0 ≤ sg 36 2) (h1 : sg 36 2 < 8) (u0 : 0 ≤ sg 36 3) (u1 : sg 36 3 ≤ 8) (t0 : 0 ≤ sg 34 1) (t1 : sg 34 1 ≤ 400) (hf : okF sg) : zG mSR_write 411 (fun rr h' => ∃ sg0 s5, hLk sg sg0 ∧ s5 = wAll sg0 ∧ (∀ c j, (c < 322 ∨ 326 ≤ c) → s5 c j = sg0 c j) ∧ ((400 < s5 322 1 ∧ rr = some (.int (-5)) ∧ h' = zN (hRfC s5 (-5))) ∨ (s5 322 1 ≤ 400 ∧ rr = some (.int (s5 322 1)) ∧ h' = zN (hGrC (hTb s5 (s5 322 1)))))) 0 [(0, .ref 0)] [] (zN sg) := by
  obtain ⟨⟨n0, n1⟩, ⟨g0, g1⟩, ⟨a0, a1⟩, -⟩ := id ob
  refine zG_run bkSR_write_0 (lv' := [(0, .ref 0)]) (st' := [.ref 0, .ref 1, .ref 322]) (h' := zN sg) (Ps := [zOb (zN sg) 0 9 ∧ (zN sg).2.2 0 8 = true, zOb (zN sg) 0 9 ∧ (zN sg).2.2 0 0 = true]) rfl (zA ⟨zob_0, rfl⟩ (zA ⟨zob_0, rfl⟩ trivial)) ?_
  refine zG_callv (a := 0) (c := 9) (As := []) (rest := [.ref 1, .ref 322]) (N2 := 411) bdSR_write_9 okSR_looksNow lk9_184 (And.intro (by decide) (by decide)) (by decide) rfl rfl rfl (Nat.le_of_ble_eq_true rfl) (Nat.le_of_ble_eq_true rfl) (Nat.le_refl 411) (Nat.le_refl 411) zob_0 (cSR_looksNow ob hf) ?_
  rintro rr h' ⟨sg0, rfl, rfl, hl⟩ -
  have fl := hLk_fr hl
  have k0 : sg0 36 2 = sg 36 2 := fl 36 2 (by decide) (by decide) (by decide)
  have k1 : sg0 36 3 = sg 36 3 := fl 36 3 (by decide) (by decide) (by decide)
  have y2 : sg0 1 2 = sg 1 2 := fl 1 2 (by decide) (by decide) (by decide)
  have y4 : sg0 1 4 = sg 1 4 := fl 1 4 (by decide) (by decide) (by decide)
  have y6 : sg0 1 6 = sg 1 6 := fl 1 6 (by decide) (by decide) (by decide)
  have ob0 : okS sg0 1 := okS_move iSh_1 ob (fun c j g1 g2 => fl c j (by omega) (by omega) (by omega))
  refine zG_run bkSR_write_12 (lv' := [(0, .ref 0)]) (st' := [.ref 313, .ref 1, .ref 322]) (h' := zN sg0) (Ps := []) rfl trivial ?_
  refine zG_callv (a := 322) (c := 8) (As := [.ref 1, .ref 313]) (rest := []) (N2 := 411) bdSR_write_12 okWri_compose lk9_224 (And.intro (by decide) (by decide)) (by decide) rfl rfl rfl (Nat.le_of_ble_eq_true rfl) (Nat.le_of_ble_eq_true rfl) (Nat.le_refl 411) (Nat.le_refl 411) zob_322 (cWri_compose (by lia) (by lia)) ?_
  rintro rr h' ⟨v, s5, rfl, rfl, z5, v5, l5, f5⟩ -
  refine zb_icle (tgt := 30) bkSR_write_15 bdSR_write_20 (by decide) (lv' := [(1, .int v), (0, .ref 0)]) (st' := []) (h' := zN s5) (x := v) (y := 400) (Ps := []) rfl trivial (fun c1 => ?_) (fun c1 => ?_)
  · skip
    refine zG_run bkSR_write_30 (lv' := [(1, .int v), (0, .ref 0)]) (st' := [.int v, .ref 323, .ref 34]) (h' := zN s5) (Ps := [zOb (zN s5) 0 9 ∧ (zN s5).2.2 0 1 = true, zOb (zN s5) 0 9 ∧ (zN s5).2.2 0 8 = true, zOb (zN s5) 322 8 ∧ (zN s5).2.2 322 0 = true]) rfl (zA ⟨zob_0, rfl⟩ (zA ⟨zob_0, rfl⟩ (zA ⟨zob_322, rfl⟩ trivial))) ?_
    refine zG_callv (a := 34) (c := 7) (As := [.ref 323, .int v]) (rest := []) (N2 := 411) bdSR_write_42 okTap_become lk9_231 (And.intro (by decide) (by decide)) (by decide) rfl rfl rfl (Nat.le_of_ble_eq_true rfl) (Nat.le_of_ble_eq_true rfl) (Nat.le_refl 411) (Nat.le_refl 411) zob_34 (cTap_become (by lia) (by lia)) ?_
    rintro rr h' ⟨rfl, rfl⟩ -
    refine zG_run bkSR_write_45 (lv' := [(1, .int v), (0, .ref 0)]) (st' := [.int v, .ref 0]) (h' := zN (hTb s5 v)) (Ps := []) rfl trivial ?_
    refine zG_callv (a := 0) (c := 9) (As := [.int v]) (rest := []) (N2 := 411) bdSR_write_47 okSR_granted lk9_111 (And.intro (by decide) (by decide)) (by decide) rfl rfl rfl (Nat.le_of_ble_eq_true rfl) (Nat.le_of_ble_eq_true rfl) (Nat.le_refl 411) (Nat.le_refl 411) zob_0 cSR_granted ?_
    rintro rr h' ⟨rfl, rfl⟩ -
    refine zb_iret bkSR_write_50 bdSR_write_50 rfl (x := v) (h' := zN (hGrC (hTb s5 v))) (Ps := []) rfl trivial rfl ?_
    exact ⟨sg0, s5, hl, z5, f5, Or.inr ⟨by lia, by rw [v5], by rw [v5]⟩⟩
  · skip
    refine zG_run bkSR_write_23 (lv' := [(1, .int v), (0, .ref 0)]) (st' := [.int (-5), .ref 0]) (h' := zN s5) (Ps := []) rfl trivial ?_
    refine zG_callv (a := 0) (c := 9) (As := [.int (-5)]) (rest := []) (N2 := 411) bdSR_write_26 okSR_refused lk9_93 (And.intro (by decide) (by decide)) (by decide) rfl rfl rfl (Nat.le_of_ble_eq_true rfl) (Nat.le_of_ble_eq_true rfl) (Nat.le_refl 411) (Nat.le_refl 411) zob_0 (cSR_refused (by decide) (by decide)) ?_
    rintro rr h' ⟨rfl, rfl⟩ -
    refine zb_iret bkSR_write_29 bdSR_write_29 rfl (x := (-5)) (h' := zN (hRfC s5 (-5))) (Ps := []) rfl trivial rfl ?_
    exact ⟨sg0, s5, hl, z5, f5, Or.inl ⟨by lia, rfl, rfl⟩⟩
