/-! letters come, go, move: printed by wip/whole/p19.py -/
theorem zmu_ud {l r : Int32} (h : l < r) : zmu (r + (-1)) (l + 1) < zmu r l := by
  have h1 := zi1 h
  have h2 : (r + (-1)).toInt = r.toInt - 1 := by
    rw [show r + (-1) = r - 1 by grind]
    exact zi1m h
  rw [Int32.lt_iff_toInt_lt] at h
  unfold zmu
  omega
/-- a change of one cell that hangs on that cell alone -/
def zloc (H : zSig → Nat → zSig) : Prop := (∀ sg x c f, c ≠ x → H sg x c f = sg c f) ∧ ∀ sg sg' x, (∀ f, sg x f = sg' x f) → ∀ f, H sg x x f = H sg' x x f
def iSp (H : zSig → Nat → zSig) (sg sg1 : zSig) (k : Int32) : Prop := (∀ c j, (c < 6 ∨ 22 ≤ c) → sg1 c j = sg c j) ∧ ∀ k2 f, 0 ≤ k2 → k2 < 16 → sg1 (zel 4 k2) f = if k2 < k then H sg (zel 4 k2) (zel 4 k2) f else sg (zel 4 k2) f
def iAn (H : zSig → Nat → zSig) (sg sg1 : zSig) (k : Int32) : Prop := (∀ c j, (c < 22 ∨ 34 ≤ c) → sg1 c j = sg c j) ∧ ∀ k2 f, 0 ≤ k2 → k2 < 12 → sg1 (zel 5 k2) f = if k2 < k then H sg (zel 5 k2) (zel 5 k2) f else sg (zel 5 k2) f
theorem iSp_0 {H : zSig → Nat → zSig} {sg : zSig} : iSp H sg sg 0 := ⟨fun _ _ _ => rfl, fun k2 f h0 _ => by rw [if_neg (by grind)]⟩
theorem iAn_0 {H : zSig → Nat → zSig} {sg : zSig} : iAn H sg sg 0 := ⟨fun _ _ _ => rfl, fun k2 f h0 _ => by rw [if_neg (by grind)]⟩
theorem iSp_s {H : zSig → Nat → zSig} {sg sg1 : zSig} {k : Int32} (hl : zloc H) (h : iSp H sg sg1 k) (h0 : 0 ≤ k) (h1 : k < 16) : iSp H sg (H sg1 (zel 4 k)) (k + 1) := by
  have hz := zel4_rng h0 h1
  refine ⟨fun c j hc => ?_, fun k2 f h2 h3 => ?_⟩
  · rw [hl.1 _ _ _ _ (by omega)]; exact h.1 c j hc
  · by_cases hk : k2 = k
    · subst hk
      rw [if_pos (by grind), hl.2 sg1 sg (zel 4 k2) (fun f => by rw [h.2 k2 f h2 h3, if_neg (by grind)])]
    · rw [hl.1 _ _ _ _ (fun q => hk (zel4_inj h2 h3 h0 h1 q)), h.2 k2 f h2 h3]
      by_cases hlt : k2 < k
      · rw [if_pos hlt, if_pos (by grind)]
      · rw [if_neg hlt, if_neg (by grind)]
theorem iAn_s {H : zSig → Nat → zSig} {sg sg1 : zSig} {k : Int32} (hl : zloc H) (h : iAn H sg sg1 k) (h0 : 0 ≤ k) (h1 : k < 12) : iAn H sg (H sg1 (zel 5 k)) (k + 1) := by
  have hz := zel5_rng h0 h1
  refine ⟨fun c j hc => ?_, fun k2 f h2 h3 => ?_⟩
  · rw [hl.1 _ _ _ _ (by omega)]; exact h.1 c j hc
  · by_cases hk : k2 = k
    · subst hk
      rw [if_pos (by grind), hl.2 sg1 sg (zel 5 k2) (fun f => by rw [h.2 k2 f h2 h3, if_neg (by grind)])]
    · rw [hl.1 _ _ _ _ (fun q => hk (zel5_inj h2 h3 h0 h1 q)), h.2 k2 f h2 h3]
      by_cases hlt : k2 < k
      · rw [if_pos hlt, if_pos (by grind)]
      · rw [if_neg hlt, if_neg (by grind)]
def hAnC (sg : zSig) (x : Nat) (p m : Int32) : zSig := zup sg x 1 (pOn (sg x 1) (sg x 2) p m)
def hAnM (sg : zSig) (x : Nat) (p q r : Int32) : zSig := zup sg x 1 (pMv (sg x 1) (sg x 2) p q r)
def hSpMs (sg : zSig) (x : Nat) (p q r : Int32) : zSig := if sg x 0 = 0 then sg else hSpM sg x p q r
theorem loc_SpC (p m : Int32) : zloc (fun sg x => hSpC sg x p m) := ⟨fun sg x c f h => by simp [hSpC, zup_e, h], fun sg sg' x h f => by simp [hSpC, zup_e, h]⟩
theorem loc_SpG (p q : Int32) : zloc (fun sg x => hSpG sg x p q) := ⟨fun sg x c f h => by simp only [hSpG]; split <;> simp [zup_e, h], fun sg sg' x h f => by simp only [hSpG, h]; split <;> simp [zup_e, h]⟩
theorem loc_SpM (p q r : Int32) : zloc (fun sg x => hSpMs sg x p q r) := by
  refine ⟨fun sg x c f h => ?_, fun sg sg' x h f => ?_⟩
  · simp only [hSpMs, hSpM]
    split
    · rfl
    · split <;> simp [zup_e, h]
  · simp only [hSpMs, hSpM, h]
    split
    · exact h f
    · split <;> simp [zup_e, h]
theorem loc_AnC (p m : Int32) : zloc (fun sg x => hAnC sg x p m) := ⟨fun sg x c f h => by simp [hAnC, zup_e, h], fun sg sg' x h f => by simp [hAnC, zup_e, h]⟩
theorem loc_AnM (p q r : Int32) : zloc (fun sg x => hAnM sg x p q r) := ⟨fun sg x c f h => by simp [hAnM, zup_e, h], fun sg sg' x h f => by simp [hAnM, zup_e, h]⟩
theorem loc_AnG (p q : Int32) : zloc (fun sg x => hAnG sg x p q) := ⟨fun sg x c f h => by simp only [hAnG]; split <;> simp [zup_e, h], fun sg sg' x h f => by simp only [hAnG, h]; split <;> simp [zup_e, h]⟩
theorem bkShe_hasSpan_0 : zBk mShe_hasSpan 0 [(1, 1, 0, 0, 0)] = some 1 := by decide +kernel
theorem bkShe_hasSpan_28 : zBk mShe_hasSpan 28 [(0, 0, 0, 0, 0)] = some 29 := by decide +kernel
theorem bkShe_hasSpan_4 : zBk mShe_hasSpan 4 [(1, 1, 0, 0, 0), (1, 0, 1, 0, 0), (5, 5, 4, 0, 4)] = some 9 := by decide +kernel
theorem bkShe_hasSpan_12 : zBk mShe_hasSpan 12 [(1, 0, 1, 0, 0), (5, 5, 3, 3, 3), (1, 1, 0, 0, 0), (9, 0, 0, 0, 0), (5, 6, 0, 0, 0)] = some 21 := by decide +kernel
theorem bkShe_hasSpan_24 : zBk mShe_hasSpan 24 [(0, 0, 0, 0, 1), (22, 29, 0, 0, 0)] = some 29 := by decide +kernel
theorem bdShe_hasSpan_1 : decode mShe_hasSpan.2.2.1 1 = .ok (.ifCond .lt 27, 3) := by decide +kernel
theorem bdShe_hasSpan_9 : decode mShe_hasSpan.2.2.1 9 = .ok (.if_icmp .ge 19, 3) := by decide +kernel
theorem bdShe_hasSpan_21 : decode mShe_hasSpan.2.2.1 21 = .ok (.ifCond .eq 7, 3) := by decide +kernel
theorem bdShe_hasSpan_29 : decode mShe_hasSpan.2.2.1 29 = .ok (.ireturn, 1) := by decide +kernel
theorem cShe_hasSpan {sg : zSig} {n : Int32} (hn : sg 1 4 ≤ 16) : zG mShe_hasSpan 411 (fun rr h' => rr = some (.int (if (0 ≤ n ∧ n < sg 1 4) ∧ sg (zel 4 n) 0 ≠ 0 then 1 else 0)) ∧ h' = zN sg) 0 [(0, .ref 1), (1, .int n)] [] (zN sg) := by
  refine zb_iflt (tgt := 28) bkShe_hasSpan_0 bdShe_hasSpan_1 (by decide) (lv' := [(0, .ref 1), (1, .int n)]) (st' := []) (h' := zN sg) (x := n) (Ps := []) rfl trivial (fun c1 => ?_) (fun c1 => ?_)
  · skip
    refine zb_zret bkShe_hasSpan_28 bdShe_hasSpan_29 rfl (x := 0) (h' := zN sg) (Ps := []) rfl trivial rfl (Or.inl rfl) ?_
    exact ⟨by grind, rfl⟩
  · skip
    refine zb_icge (tgt := 28) bkShe_hasSpan_4 bdShe_hasSpan_9 (by decide) (lv' := [(0, .ref 1), (1, .int n)]) (st' := []) (h' := zN sg) (x := n) (y := sg 1 4) (Ps := [zOb (zN sg) 1 5]) rfl (zA zob_1 trivial) (fun c2 => ?_) (fun c2 => ?_)
    · skip
      refine zb_zret bkShe_hasSpan_28 bdShe_hasSpan_29 rfl (x := 0) (h' := zN sg) (Ps := []) rfl trivial rfl (Or.inl rfl) ?_
      exact ⟨by grind, rfl⟩
    · skip
      refine zb_ifeq (tgt := 28) bkShe_hasSpan_12 bdShe_hasSpan_21 (by decide) (lv' := [(0, .ref 1), (1, .int n)]) (st' := []) (h' := zN sg) (x := sg (zel 4 n) 0) (Ps := [zOb (zN sg) 1 5 ∧ (zN sg).2.2 1 3 = true, zInR (zN sg) 4 n, zOb (zN sg) (zel 4 n) 6]) rfl (zA ⟨zob_1, rfl⟩ (zA (zinR_4 (i := n) (by grind) (by grind)) (zA (zel_ob4 (i := n) (by grind) (by grind)) trivial))) (fun c3 => ?_) (fun c3 => ?_)
      · skip
        refine zb_zret bkShe_hasSpan_28 bdShe_hasSpan_29 rfl (x := 0) (h' := zN sg) (Ps := []) rfl trivial rfl (Or.inl rfl) ?_
        exact ⟨by grind, rfl⟩
      · skip
        refine zb_zret bkShe_hasSpan_24 bdShe_hasSpan_29 rfl (x := 1) (h' := zN sg) (Ps := []) rfl trivial rfl (Or.inr rfl) ?_
        exact ⟨by grind, rfl⟩
theorem bkShe_hasAnchor_0 : zBk mShe_hasAnchor 0 [(1, 1, 0, 0, 0)] = some 1 := by decide +kernel
theorem bkShe_hasAnchor_28 : zBk mShe_hasAnchor 28 [(0, 0, 0, 0, 0)] = some 29 := by decide +kernel
theorem bkShe_hasAnchor_4 : zBk mShe_hasAnchor 4 [(1, 1, 0, 0, 0), (1, 0, 1, 0, 0), (5, 5, 6, 0, 6)] = some 9 := by decide +kernel
theorem bkShe_hasAnchor_12 : zBk mShe_hasAnchor 12 [(1, 0, 1, 0, 0), (5, 5, 5, 4, 5), (1, 1, 0, 0, 0), (9, 0, 0, 0, 0), (5, 1, 0, 0, 0)] = some 21 := by decide +kernel
theorem bkShe_hasAnchor_24 : zBk mShe_hasAnchor 24 [(0, 0, 0, 0, 1), (22, 29, 0, 0, 0)] = some 29 := by decide +kernel
theorem bdShe_hasAnchor_1 : decode mShe_hasAnchor.2.2.1 1 = .ok (.ifCond .lt 27, 3) := by decide +kernel
theorem bdShe_hasAnchor_9 : decode mShe_hasAnchor.2.2.1 9 = .ok (.if_icmp .ge 19, 3) := by decide +kernel
theorem bdShe_hasAnchor_21 : decode mShe_hasAnchor.2.2.1 21 = .ok (.ifCond .eq 7, 3) := by decide +kernel
theorem bdShe_hasAnchor_29 : decode mShe_hasAnchor.2.2.1 29 = .ok (.ireturn, 1) := by decide +kernel
theorem cShe_hasAnchor {sg : zSig} {n : Int32} (hn : sg 1 6 ≤ 12) : zG mShe_hasAnchor 411 (fun rr h' => rr = some (.int (if (0 ≤ n ∧ n < sg 1 6) ∧ sg (zel 5 n) 0 ≠ 0 then 1 else 0)) ∧ h' = zN sg) 0 [(0, .ref 1), (1, .int n)] [] (zN sg) := by
  refine zb_iflt (tgt := 28) bkShe_hasAnchor_0 bdShe_hasAnchor_1 (by decide) (lv' := [(0, .ref 1), (1, .int n)]) (st' := []) (h' := zN sg) (x := n) (Ps := []) rfl trivial (fun c1 => ?_) (fun c1 => ?_)
  · skip
    refine zb_zret bkShe_hasAnchor_28 bdShe_hasAnchor_29 rfl (x := 0) (h' := zN sg) (Ps := []) rfl trivial rfl (Or.inl rfl) ?_
    exact ⟨by grind, rfl⟩
  · skip
    refine zb_icge (tgt := 28) bkShe_hasAnchor_4 bdShe_hasAnchor_9 (by decide) (lv' := [(0, .ref 1), (1, .int n)]) (st' := []) (h' := zN sg) (x := n) (y := sg 1 6) (Ps := [zOb (zN sg) 1 5]) rfl (zA zob_1 trivial) (fun c2 => ?_) (fun c2 => ?_)
    · skip
      refine zb_zret bkShe_hasAnchor_28 bdShe_hasAnchor_29 rfl (x := 0) (h' := zN sg) (Ps := []) rfl trivial rfl (Or.inl rfl) ?_
      exact ⟨by grind, rfl⟩
    · skip
      refine zb_ifeq (tgt := 28) bkShe_hasAnchor_12 bdShe_hasAnchor_21 (by decide) (lv' := [(0, .ref 1), (1, .int n)]) (st' := []) (h' := zN sg) (x := sg (zel 5 n) 0) (Ps := [zOb (zN sg) 1 5 ∧ (zN sg).2.2 1 5 = true, zInR (zN sg) 5 n, zOb (zN sg) (zel 5 n) 1]) rfl (zA ⟨zob_1, rfl⟩ (zA (zinR_5 (i := n) (by grind) (by grind)) (zA (zel_ob5 (i := n) (by grind) (by grind)) trivial))) (fun c3 => ?_) (fun c3 => ?_)
      · skip
        refine zb_zret bkShe_hasAnchor_28 bdShe_hasAnchor_29 rfl (x := 0) (h' := zN sg) (Ps := []) rfl trivial rfl (Or.inl rfl) ?_
        exact ⟨by grind, rfl⟩
      · skip
        refine zb_zret bkShe_hasAnchor_24 bdShe_hasAnchor_29 rfl (x := 1) (h' := zN sg) (Ps := []) rfl trivial rfl (Or.inr rfl) ?_
        exact ⟨by grind, rfl⟩
theorem bkShe_turn_0 : zBk mShe_turn 0 [(1, 1, 0, 0, 0)] = some 1 := by decide +kernel
theorem bkShe_turn_10 : zBk mShe_turn 10 [] = some 10 := by decide +kernel
theorem bkShe_turn_4 : zBk mShe_turn 4 [(1, 2, 0, 0, 0), (1, 0, 1, 0, 0), (10, 0, 0, 0, 0)] = some 7 := by decide +kernel
theorem bkShe_turn_11 : zBk mShe_turn 11 [(1, 2, 0, 0, 0), (0, 0, 0, 0, 1), (4, 1, 0, 0, 0), (2, 3, 0, 0, 0), (1, 1, 0, 0, 0), (2, 4, 0, 0, 0)] = some 18 := by decide +kernel
theorem bkShe_turn_18 : zBk mShe_turn 18 [(1, 4, 0, 0, 0), (1, 3, 0, 0, 0)] = some 21 := by decide +kernel
theorem bkShe_turn_51 : zBk mShe_turn 51 [] = some 51 := by decide +kernel
theorem bkShe_turn_24 : zBk mShe_turn 24 [(1, 0, 1, 0, 0), (1, 4, 0, 0, 0), (7, 0, 0, 0, 0), (2, 5, 0, 0, 0), (1, 0, 1, 0, 0), (1, 4, 0, 0, 0), (1, 0, 1, 0, 0), (1, 3, 0, 0, 0), (7, 0, 0, 0, 0), (8, 0, 0, 0, 0), (1, 0, 1, 0, 0), (1, 3, 0, 0, 0), (1, 5, 0, 0, 0), (8, 0, 0, 0, 0), (3, 3, 0, 0, -1), (3, 4, 0, 0, 1), (22, 18, 0, 0, 0)] = some 18 := by decide +kernel
theorem bdShe_turn_1 : decode mShe_turn.2.2.1 1 = .ok (.ifCond .lt 9, 3) := by decide +kernel
theorem bdShe_turn_7 : decode mShe_turn.2.2.1 7 = .ok (.if_icmp .le 4, 3) := by decide +kernel
theorem bdShe_turn_10 : decode mShe_turn.2.2.1 10 = .ok (.return_, 1) := by decide +kernel
theorem bdShe_turn_21 : decode mShe_turn.2.2.1 21 = .ok (.if_icmp .ge 30, 3) := by decide +kernel
theorem bdShe_turn_51 : decode mShe_turn.2.2.1 51 = .ok (.return_, 1) := by decide +kernel
theorem lShe_turn_2 {sg : zSig} {lo hi : Int32} (hl : 0 ≤ lo) (hh : lo ≤ hi) (hm : hi ≤ 200) {Q : Option Value → zHp → Prop} (hq : ∀ rr h', (∃ sg', rr = none ∧ h' = zN sg' ∧ (∀ c j, c ≠ 2 → sg' c j = sg c j) ∧ ∀ j, sg' 2 j = if lo ≤ j ∧ j < hi then sg 2 (lo + hi - 1 - j) else sg 2 j) → Q rr h') : zG mShe_turn 411 Q 0 [(0, .ref 2), (1, .int lo), (2, .int hi)] [] (zN sg) := by
  have zl : zln (zN sg) 2 = 200 := by unfold zln; rw [if_neg (by decide)]; rfl
  refine zb_iflt (tgt := 10) bkShe_turn_0 bdShe_turn_1 (by decide) (lv' := [(0, .ref 2), (1, .int lo), (2, .int hi)]) (st' := []) (h' := zN sg) (x := lo) (Ps := []) rfl trivial (fun c1 => ?_) (fun c1 => ?_)
  · skip
    refine zb_vret bkShe_turn_10 bdShe_turn_10 rfl (h' := zN sg) (Ps := []) rfl trivial rfl ?_
    refine hq _ _ ?_
    exfalso; rw [zl] at *; lia
  · skip
    refine zb_icle (tgt := 11) bkShe_turn_4 bdShe_turn_7 (by decide) (lv' := [(0, .ref 2), (1, .int lo), (2, .int hi)]) (st' := []) (h' := zN sg) (x := hi) (y := zln (zN sg) 2) (Ps := [(2 < (zN sg).2.1 ∧ (zSh 2).1 = 1 ∧ (zSh 2).2.1 < 3) ∨ 2 = 100000 ∨ 2 = 100001]) rfl (zA (Or.inl ⟨(by decide : 2 < 411), rfl, by decide⟩) trivial) (fun c2 => ?_) (fun c2 => ?_)
    · skip
      refine zG_run bkShe_turn_11 (lv' := [(4, .int lo), (3, .int (hi - 1)), (0, .ref 2), (1, .int lo), (2, .int hi)]) (st' := []) (h' := zN sg) (Ps := []) rfl trivial ?_
      refine zG_pick (lv' := [(0, .ref 2), (1, .int lo), (2, .int hi), (3, .int (hi - 1)), (4, .int lo)]) [2, 3, 4, 1, 0] rfl ?_
      refine zlp3 (fun (ri : Int32) (le : Int32) (sg1 : zSig) => zG mShe_turn 411 Q 18 [(0, .ref 2), (1, .int lo), (2, .int hi), (3, .int ri), (4, .int le)] [] (zN sg1)) (fun (ri : Int32) (le : Int32) (sg1 : zSig) => (lo ≤ le) ∧ (ri = lo + hi - 1 - le) ∧ (le ≤ 200) ∧ (ri < 200) ∧ (le ≤ ri + 1) ∧ (ri < hi) ∧ (∀ c j, c ≠ 2 → sg1 c j = sg c j) ∧ (∀ j, sg1 2 j = if (lo ≤ j ∧ j < le) ∨ (ri < j ∧ j < hi) then sg 2 (lo + hi - 1 - j) else sg 2 j)) (fun (ri : Int32) (le : Int32) (sg1 : zSig) => zmu ri le) ?_ (hi - 1) lo sg ?_
      · intro ri le sg1 hI ih
        obtain ⟨h0, h1, h5, h7, h8, h9, hf, h2⟩ := hI
        refine zb_icge (tgt := 51) bkShe_turn_18 bdShe_turn_21 (by decide) (lv' := [(0, .ref 2), (1, .int lo), (2, .int hi), (3, .int ri), (4, .int le)]) (st' := []) (h' := zN sg1) (x := le) (y := ri) (Ps := []) rfl trivial (fun c3 => ?_) (fun c3 => ?_)
        · skip
          refine zb_vret bkShe_turn_51 bdShe_turn_51 rfl (h' := zN sg1) (Ps := []) rfl trivial rfl ?_
          refine hq _ _ ?_
          refine ⟨sg1, rfl, rfl, hf, fun j => ?_⟩
          have e := h2 j
          clear h2 ih hq hf
          by_cases hj : lo ≤ j ∧ j < hi
          · rw [if_pos hj, e]
            by_cases hp : (lo ≤ j ∧ j < le) ∨ (ri < j ∧ j < hi)
            · rw [if_pos hp]
            · rw [if_neg hp]; have q1 : j = le := by clear h1 e; lia
              have q2 : j = ri := by clear h1 e; lia
              rw [← q1, ← q2] at h1; congr 1
          · rw [if_neg hj, e, if_neg (by clear h1 e; lia)]
        · skip
          refine zG_run bkShe_turn_24 (lv' := [(4, .int (le + 1)), (3, .int (ri + (-1))), (5, .int (sg1 2 le)), (0, .ref 2), (1, .int lo), (2, .int hi)]) (st' := []) (h' := zN (zup (zup sg1 2 le (sg1 2 ri)) 2 ri (sg1 2 le))) (Ps := [zInL (zN sg1) 2 le, zInL (zN sg1) 2 ri, zIn (zN sg1) 2 0 le, zIn (zN (zup sg1 2 le (sg1 2 ri))) 2 0 ri]) rfl (zA (zinL_2 (i := le) (by clear h1; lia) (by clear h1; lia)) (zA (zinL_2 (i := ri) (by clear h1; lia) (by clear h1; lia)) (zA (zin_2 (i := le) (by clear h1; lia) (by clear h1; lia)) (zA (zin_2 (i := ri) (by clear h1; lia) (by clear h1; lia)) trivial)))) ?_
          refine zG_pick (lv' := [(0, .ref 2), (1, .int lo), (2, .int hi), (3, .int (ri + (-1))), (4, .int (le + 1))]) [3, 4, 5, 1, 0] rfl ?_
          refine ih (ri + (-1)) (le + 1) (zup (zup sg1 2 le (sg1 2 ri)) 2 ri (sg1 2 le)) ?_ ?_
          · refine ⟨?_, ?_, ?_, ?_, ?_, ?_, ?_, ?_⟩
            · clear h1; lia
            · clear ih hq h2 hf h0 h5 h7 h8 h9; grind
            · clear h1; lia
            · clear h1; lia
            · clear h1; lia
            · clear h1; lia
            · intro c j hc; rw [zup_a hc, zup_a hc]; exact hf c j hc
            · intro j; rw [zup_e, zup_e]; have e1 := h2 j; have e2 := h2 ri; have e3 := h2 le; clear h2 ih hq hf
              rw [if_neg (by clear h1; lia)] at e2 e3
              by_cases hjr : j = ri
              · rw [if_pos ⟨rfl, hjr⟩, e3, if_pos (by clear h1 e1 e2 e3; lia), hjr]; congr 1; clear e1 e2 e3 h0 h5 h7 h8 h9 hjr c3; grind
              · rw [if_neg (fun q => hjr q.2)]
                by_cases hjl : j = le
                · rw [if_pos ⟨rfl, hjl⟩, e2, if_pos (by clear h1 e1 e2 e3; lia), hjl]; congr 1
                · rw [if_neg (fun q => hjl q.2), e1]
                  clear h1 e1 e2 e3
                  by_cases hc : (lo ≤ j ∧ j < le) ∨ (ri < j ∧ j < hi)
                  · rw [if_pos hc, if_pos (by lia)]
                  · rw [if_neg hc, if_neg (by lia)]
          · exact zmu_ud (by clear h1; lia)
      · refine ⟨?_, ?_, ?_, ?_, ?_, ?_, ?_, ?_⟩
        · lia
        · grind
        · lia
        · lia
        · lia
        · lia
        · intro c j _; rfl
        · intro j; rw [if_neg (by lia)]
    · skip
      refine zb_vret bkShe_turn_10 bdShe_turn_10 rfl (h' := zN sg) (Ps := []) rfl trivial rfl ?_
      refine hq _ _ ?_
      exfalso; rw [zl] at *; lia
theorem cShe_turn_2 {sg : zSig} {lo hi : Int32} (hl : 0 ≤ lo) (hh : lo ≤ hi) (hm : hi ≤ 200) : zG mShe_turn 411 (fun rr h' => ∃ sg', rr = none ∧ h' = zN sg' ∧ (∀ c j, c ≠ 2 → sg' c j = sg c j) ∧ ∀ j, sg' 2 j = if lo ≤ j ∧ j < hi then sg 2 (lo + hi - 1 - j) else sg 2 j) 0 [(0, .ref 2), (1, .int lo), (2, .int hi)] [] (zN sg) := lShe_turn_2 hl hh hm (fun _ _ q => q)
theorem bkShe_changeSides_0 : zBk mShe_changeSides 0 [(1, 0, 1, 0, 0), (1, 1, 0, 0, 0), (1, 2, 0, 0, 0)] = some 3 := by decide +kernel
theorem bkShe_changeSides_6 : zBk mShe_changeSides 6 [(1, 0, 1, 0, 0), (1, 2, 0, 0, 0), (1, 3, 0, 0, 0)] = some 9 := by decide +kernel
theorem bkShe_changeSides_12 : zBk mShe_changeSides 12 [(1, 0, 1, 0, 0), (1, 1, 0, 0, 0), (1, 3, 0, 0, 0)] = some 15 := by decide +kernel
theorem bkShe_changeSides_18 : zBk mShe_changeSides 18 [] = some 18 := by decide +kernel
theorem bdShe_changeSides_3 : decode mShe_changeSides.2.2.1 3 = .ok (.invokestatic 127, 3) := by decide +kernel
theorem bdShe_changeSides_9 : decode mShe_changeSides.2.2.1 9 = .ok (.invokestatic 127, 3) := by decide +kernel
theorem bdShe_changeSides_15 : decode mShe_changeSides.2.2.1 15 = .ok (.invokestatic 127, 3) := by decide +kernel
theorem bdShe_changeSides_18 : decode mShe_changeSides.2.2.1 18 = .ok (.return_, 1) := by decide +kernel
theorem cShe_changeSides_2 {sg : zSig} {lo mi hi : Int32} (hl : 0 ≤ lo) (h1 : lo ≤ mi) (h2 : mi ≤ hi) (hm : hi ≤ 200) : zG mShe_changeSides 411 (fun rr h' => ∃ sg', rr = none ∧ h' = zN sg' ∧ (∀ c j, c ≠ 2 → sg' c j = sg c j) ∧ ∀ j, sg' 2 j = if lo ≤ j ∧ j < lo + (hi - mi) then sg 2 (mi + (j - lo)) else if lo + (hi - mi) ≤ j ∧ j < hi then sg 2 (j - (hi - mi)) else sg 2 j) 0 [(0, .ref 2), (1, .int lo), (2, .int mi), (3, .int hi)] [] (zN sg) := by
  refine zG_run bkShe_changeSides_0 (lv' := [(0, .ref 2), (1, .int lo), (2, .int mi), (3, .int hi)]) (st' := [.int mi, .int lo, .ref 2]) (h' := zN sg) (Ps := []) rfl trivial ?_
  refine zG_calls (As := [.ref 2, .int lo, .int mi]) (rest := []) (N2 := 411) bdShe_changeSides_3 okShe_turn lk5_127 (And.intro (by decide) (by decide)) rfl rfl (Nat.le_of_ble_eq_true rfl) (Nat.le_of_ble_eq_true rfl) (Nat.le_refl 411) (Nat.le_refl 411) (cShe_turn_2 (lo := lo) (hi := mi) (by grind) (by grind) (by grind)) ?_
  rintro rr h' ⟨sg2, rfl, rfl, fq1, tq1⟩ -
  refine zG_run bkShe_changeSides_6 (lv' := [(0, .ref 2), (1, .int lo), (2, .int mi), (3, .int hi)]) (st' := [.int hi, .int mi, .ref 2]) (h' := zN sg2) (Ps := []) rfl trivial ?_
  refine zG_calls (As := [.ref 2, .int mi, .int hi]) (rest := []) (N2 := 411) bdShe_changeSides_9 okShe_turn lk5_127 (And.intro (by decide) (by decide)) rfl rfl (Nat.le_of_ble_eq_true rfl) (Nat.le_of_ble_eq_true rfl) (Nat.le_refl 411) (Nat.le_refl 411) (cShe_turn_2 (lo := mi) (hi := hi) (by grind) (by grind) (by grind)) ?_
  rintro rr h' ⟨sg5, rfl, rfl, fq4, tq4⟩ -
  refine zG_run bkShe_changeSides_12 (lv' := [(0, .ref 2), (1, .int lo), (2, .int mi), (3, .int hi)]) (st' := [.int hi, .int lo, .ref 2]) (h' := zN sg5) (Ps := []) rfl trivial ?_
  refine zG_calls (As := [.ref 2, .int lo, .int hi]) (rest := []) (N2 := 411) bdShe_changeSides_15 okShe_turn lk5_127 (And.intro (by decide) (by decide)) rfl rfl (Nat.le_of_ble_eq_true rfl) (Nat.le_of_ble_eq_true rfl) (Nat.le_refl 411) (Nat.le_refl 411) (cShe_turn_2 (lo := lo) (hi := hi) (by grind) (by grind) (by grind)) ?_
  rintro rr h' ⟨sg8, rfl, rfl, fq7, tq7⟩ -
  refine zb_vret bkShe_changeSides_18 bdShe_changeSides_18 rfl (h' := zN sg8) (Ps := []) rfl trivial rfl ?_
  refine ⟨_, rfl, rfl, fun c j hc => by rw [fq7 c j hc, fq4 c j hc, fq1 c j hc], fun j => ?_⟩
  rw [tq7 j]
  by_cases hj : lo ≤ j ∧ j < hi
  · rw [if_pos hj, tq4 (lo + hi - 1 - j)]
    by_cases hi2 : mi ≤ lo + hi - 1 - j ∧ lo + hi - 1 - j < hi
    · rw [if_pos hi2, tq1, if_neg (by grind), if_pos (by grind)]; congr 1; grind
    · rw [if_neg hi2, tq1, if_pos (by grind), if_neg (by grind), if_pos (by grind)]; congr 1; grind
  · rw [if_neg hj, tq4 j, if_neg (by grind), tq1 j, if_neg (by grind), if_neg (by grind), if_neg (by grind)]
theorem lShe_turn_3 {sg : zSig} {lo hi : Int32} (hl : 0 ≤ lo) (hh : lo ≤ hi) (hm : hi ≤ 200) {Q : Option Value → zHp → Prop} (hq : ∀ rr h', (∃ sg', rr = none ∧ h' = zN sg' ∧ (∀ c j, c ≠ 3 → sg' c j = sg c j) ∧ ∀ j, sg' 3 j = if lo ≤ j ∧ j < hi then sg 3 (lo + hi - 1 - j) else sg 3 j) → Q rr h') : zG mShe_turn 411 Q 0 [(0, .ref 3), (1, .int lo), (2, .int hi)] [] (zN sg) := by
  have zl : zln (zN sg) 3 = 200 := by unfold zln; rw [if_neg (by decide)]; rfl
  refine zb_iflt (tgt := 10) bkShe_turn_0 bdShe_turn_1 (by decide) (lv' := [(0, .ref 3), (1, .int lo), (2, .int hi)]) (st' := []) (h' := zN sg) (x := lo) (Ps := []) rfl trivial (fun c1 => ?_) (fun c1 => ?_)
  · skip
    refine zb_vret bkShe_turn_10 bdShe_turn_10 rfl (h' := zN sg) (Ps := []) rfl trivial rfl ?_
    refine hq _ _ ?_
    exfalso; rw [zl] at *; lia
  · skip
    refine zb_icle (tgt := 11) bkShe_turn_4 bdShe_turn_7 (by decide) (lv' := [(0, .ref 3), (1, .int lo), (2, .int hi)]) (st' := []) (h' := zN sg) (x := hi) (y := zln (zN sg) 3) (Ps := [(3 < (zN sg).2.1 ∧ (zSh 3).1 = 1 ∧ (zSh 3).2.1 < 3) ∨ 3 = 100000 ∨ 3 = 100001]) rfl (zA (Or.inl ⟨(by decide : 3 < 411), rfl, by decide⟩) trivial) (fun c2 => ?_) (fun c2 => ?_)
    · skip
      refine zG_run bkShe_turn_11 (lv' := [(4, .int lo), (3, .int (hi - 1)), (0, .ref 3), (1, .int lo), (2, .int hi)]) (st' := []) (h' := zN sg) (Ps := []) rfl trivial ?_
      refine zG_pick (lv' := [(0, .ref 3), (1, .int lo), (2, .int hi), (3, .int (hi - 1)), (4, .int lo)]) [2, 3, 4, 1, 0] rfl ?_
      refine zlp3 (fun (ri : Int32) (le : Int32) (sg1 : zSig) => zG mShe_turn 411 Q 18 [(0, .ref 3), (1, .int lo), (2, .int hi), (3, .int ri), (4, .int le)] [] (zN sg1)) (fun (ri : Int32) (le : Int32) (sg1 : zSig) => (lo ≤ le) ∧ (ri = lo + hi - 1 - le) ∧ (le ≤ 200) ∧ (ri < 200) ∧ (le ≤ ri + 1) ∧ (ri < hi) ∧ (∀ c j, c ≠ 3 → sg1 c j = sg c j) ∧ (∀ j, sg1 3 j = if (lo ≤ j ∧ j < le) ∨ (ri < j ∧ j < hi) then sg 3 (lo + hi - 1 - j) else sg 3 j)) (fun (ri : Int32) (le : Int32) (sg1 : zSig) => zmu ri le) ?_ (hi - 1) lo sg ?_
      · intro ri le sg1 hI ih
        obtain ⟨h0, h1, h5, h7, h8, h9, hf, h2⟩ := hI
        refine zb_icge (tgt := 51) bkShe_turn_18 bdShe_turn_21 (by decide) (lv' := [(0, .ref 3), (1, .int lo), (2, .int hi), (3, .int ri), (4, .int le)]) (st' := []) (h' := zN sg1) (x := le) (y := ri) (Ps := []) rfl trivial (fun c3 => ?_) (fun c3 => ?_)
        · skip
          refine zb_vret bkShe_turn_51 bdShe_turn_51 rfl (h' := zN sg1) (Ps := []) rfl trivial rfl ?_
          refine hq _ _ ?_
          refine ⟨sg1, rfl, rfl, hf, fun j => ?_⟩
          have e := h2 j
          clear h2 ih hq hf
          by_cases hj : lo ≤ j ∧ j < hi
          · rw [if_pos hj, e]
            by_cases hp : (lo ≤ j ∧ j < le) ∨ (ri < j ∧ j < hi)
            · rw [if_pos hp]
            · rw [if_neg hp]; have q1 : j = le := by clear h1 e; lia
              have q2 : j = ri := by clear h1 e; lia
              rw [← q1, ← q2] at h1; congr 1
          · rw [if_neg hj, e, if_neg (by clear h1 e; lia)]
        · skip
          refine zG_run bkShe_turn_24 (lv' := [(4, .int (le + 1)), (3, .int (ri + (-1))), (5, .int (sg1 3 le)), (0, .ref 3), (1, .int lo), (2, .int hi)]) (st' := []) (h' := zN (zup (zup sg1 3 le (sg1 3 ri)) 3 ri (sg1 3 le))) (Ps := [zInL (zN sg1) 3 le, zInL (zN sg1) 3 ri, zIn (zN sg1) 3 0 le, zIn (zN (zup sg1 3 le (sg1 3 ri))) 3 0 ri]) rfl (zA (zinL_3 (i := le) (by clear h1; lia) (by clear h1; lia)) (zA (zinL_3 (i := ri) (by clear h1; lia) (by clear h1; lia)) (zA (zin_3 (i := le) (by clear h1; lia) (by clear h1; lia)) (zA (zin_3 (i := ri) (by clear h1; lia) (by clear h1; lia)) trivial)))) ?_
          refine zG_pick (lv' := [(0, .ref 3), (1, .int lo), (2, .int hi), (3, .int (ri + (-1))), (4, .int (le + 1))]) [3, 4, 5, 1, 0] rfl ?_
          refine ih (ri + (-1)) (le + 1) (zup (zup sg1 3 le (sg1 3 ri)) 3 ri (sg1 3 le)) ?_ ?_
          · refine ⟨?_, ?_, ?_, ?_, ?_, ?_, ?_, ?_⟩
            · clear h1; lia
            · clear ih hq h2 hf h0 h5 h7 h8 h9; grind
            · clear h1; lia
            · clear h1; lia
            · clear h1; lia
            · clear h1; lia
            · intro c j hc; rw [zup_a hc, zup_a hc]; exact hf c j hc
            · intro j; rw [zup_e, zup_e]; have e1 := h2 j; have e2 := h2 ri; have e3 := h2 le; clear h2 ih hq hf
              rw [if_neg (by clear h1; lia)] at e2 e3
              by_cases hjr : j = ri
              · rw [if_pos ⟨rfl, hjr⟩, e3, if_pos (by clear h1 e1 e2 e3; lia), hjr]; congr 1; clear e1 e2 e3 h0 h5 h7 h8 h9 hjr c3; grind
              · rw [if_neg (fun q => hjr q.2)]
                by_cases hjl : j = le
                · rw [if_pos ⟨rfl, hjl⟩, e2, if_pos (by clear h1 e1 e2 e3; lia), hjl]; congr 1
                · rw [if_neg (fun q => hjl q.2), e1]
                  clear h1 e1 e2 e3
                  by_cases hc : (lo ≤ j ∧ j < le) ∨ (ri < j ∧ j < hi)
                  · rw [if_pos hc, if_pos (by lia)]
                  · rw [if_neg hc, if_neg (by lia)]
          · exact zmu_ud (by clear h1; lia)
      · refine ⟨?_, ?_, ?_, ?_, ?_, ?_, ?_, ?_⟩
        · lia
        · grind
        · lia
        · lia
        · lia
        · lia
        · intro c j _; rfl
        · intro j; rw [if_neg (by lia)]
    · skip
      refine zb_vret bkShe_turn_10 bdShe_turn_10 rfl (h' := zN sg) (Ps := []) rfl trivial rfl ?_
      refine hq _ _ ?_
      exfalso; rw [zl] at *; lia
theorem cShe_turn_3 {sg : zSig} {lo hi : Int32} (hl : 0 ≤ lo) (hh : lo ≤ hi) (hm : hi ≤ 200) : zG mShe_turn 411 (fun rr h' => ∃ sg', rr = none ∧ h' = zN sg' ∧ (∀ c j, c ≠ 3 → sg' c j = sg c j) ∧ ∀ j, sg' 3 j = if lo ≤ j ∧ j < hi then sg 3 (lo + hi - 1 - j) else sg 3 j) 0 [(0, .ref 3), (1, .int lo), (2, .int hi)] [] (zN sg) := lShe_turn_3 hl hh hm (fun _ _ q => q)
theorem cShe_changeSides_3 {sg : zSig} {lo mi hi : Int32} (hl : 0 ≤ lo) (h1 : lo ≤ mi) (h2 : mi ≤ hi) (hm : hi ≤ 200) : zG mShe_changeSides 411 (fun rr h' => ∃ sg', rr = none ∧ h' = zN sg' ∧ (∀ c j, c ≠ 3 → sg' c j = sg c j) ∧ ∀ j, sg' 3 j = if lo ≤ j ∧ j < lo + (hi - mi) then sg 3 (mi + (j - lo)) else if lo + (hi - mi) ≤ j ∧ j < hi then sg 3 (j - (hi - mi)) else sg 3 j) 0 [(0, .ref 3), (1, .int lo), (2, .int mi), (3, .int hi)] [] (zN sg) := by
  refine zG_run bkShe_changeSides_0 (lv' := [(0, .ref 3), (1, .int lo), (2, .int mi), (3, .int hi)]) (st' := [.int mi, .int lo, .ref 3]) (h' := zN sg) (Ps := []) rfl trivial ?_
  refine zG_calls (As := [.ref 3, .int lo, .int mi]) (rest := []) (N2 := 411) bdShe_changeSides_3 okShe_turn lk5_127 (And.intro (by decide) (by decide)) rfl rfl (Nat.le_of_ble_eq_true rfl) (Nat.le_of_ble_eq_true rfl) (Nat.le_refl 411) (Nat.le_refl 411) (cShe_turn_3 (lo := lo) (hi := mi) (by grind) (by grind) (by grind)) ?_
  rintro rr h' ⟨sg2, rfl, rfl, fq1, tq1⟩ -
  refine zG_run bkShe_changeSides_6 (lv' := [(0, .ref 3), (1, .int lo), (2, .int mi), (3, .int hi)]) (st' := [.int hi, .int mi, .ref 3]) (h' := zN sg2) (Ps := []) rfl trivial ?_
  refine zG_calls (As := [.ref 3, .int mi, .int hi]) (rest := []) (N2 := 411) bdShe_changeSides_9 okShe_turn lk5_127 (And.intro (by decide) (by decide)) rfl rfl (Nat.le_of_ble_eq_true rfl) (Nat.le_of_ble_eq_true rfl) (Nat.le_refl 411) (Nat.le_refl 411) (cShe_turn_3 (lo := mi) (hi := hi) (by grind) (by grind) (by grind)) ?_
  rintro rr h' ⟨sg5, rfl, rfl, fq4, tq4⟩ -
  refine zG_run bkShe_changeSides_12 (lv' := [(0, .ref 3), (1, .int lo), (2, .int mi), (3, .int hi)]) (st' := [.int hi, .int lo, .ref 3]) (h' := zN sg5) (Ps := []) rfl trivial ?_
  refine zG_calls (As := [.ref 3, .int lo, .int hi]) (rest := []) (N2 := 411) bdShe_changeSides_15 okShe_turn lk5_127 (And.intro (by decide) (by decide)) rfl rfl (Nat.le_of_ble_eq_true rfl) (Nat.le_of_ble_eq_true rfl) (Nat.le_refl 411) (Nat.le_refl 411) (cShe_turn_3 (lo := lo) (hi := hi) (by grind) (by grind) (by grind)) ?_
  rintro rr h' ⟨sg8, rfl, rfl, fq7, tq7⟩ -
  refine zb_vret bkShe_changeSides_18 bdShe_changeSides_18 rfl (h' := zN sg8) (Ps := []) rfl trivial rfl ?_
  refine ⟨_, rfl, rfl, fun c j hc => by rw [fq7 c j hc, fq4 c j hc, fq1 c j hc], fun j => ?_⟩
  rw [tq7 j]
  by_cases hj : lo ≤ j ∧ j < hi
  · rw [if_pos hj, tq4 (lo + hi - 1 - j)]
    by_cases hi2 : mi ≤ lo + hi - 1 - j ∧ lo + hi - 1 - j < hi
    · rw [if_pos hi2, tq1, if_neg (by grind), if_pos (by grind)]; congr 1; grind
    · rw [if_neg hi2, tq1, if_pos (by grind), if_neg (by grind), if_pos (by grind)]; congr 1; grind
  · rw [if_neg hj, tq4 j, if_neg (by grind), tq1 j, if_neg (by grind), if_neg (by grind), if_neg (by grind)]
