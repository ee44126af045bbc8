/-! letters come, go, move in a sheet: printed by wip/whole/p20.py -/
def lIn (S T : Int32 → Int32) (p m j : Int32) : Int32 := if j < p then S j else if j < p + m then T (j - p) else S (j - m)
def lOut (S : Int32 → Int32) (p q j : Int32) : Int32 := if j < p then S j else S (j + (q - p))
def lMv (S : Int32 → Int32) (p q t j : Int32) : Int32 := if t ≤ j ∧ j < t + (q - p) then S (p + (j - t)) else lOut S p q (if j < t then j else j - (q - p))
def nMv (sg : zSig) (p q k a : Int32) : Int32 := if sg (zel 4 k) 0 ≠ 0 ∧ p ≤ sg (zel 4 k) 1 ∧ sg (zel 4 k) 2 ≤ q then a + 1 else a
def hShF (sg sg' : zSig) (HS HA : zSig → Nat → zSig) : Prop := (∀ c j, (c < 1 ∨ 34 ≤ c) → sg' c j = sg c j) ∧ sg' 1 4 = sg 1 4 ∧ sg' 1 6 = sg 1 6 ∧ (∀ k f, 0 ≤ k → k < sg 1 4 → sg' (zel 4 k) f = HS sg (zel 4 k) (zel 4 k) f) ∧ ∀ k f, 0 ≤ k → k < sg 1 6 → sg' (zel 5 k) f = HA sg (zel 5 k) (zel 5 k) f
theorem hShF_of {sg sg4 sg5 sg6 : zSig} {HS HA : zSig → Nat → zSig} {k5 k6 : Int32} (lS : zloc HS) (lA : zloc HA) (f4 : ∀ c j, (c < 1 ∨ 4 ≤ c) → sg4 c j = sg c j) (g4 : sg4 1 4 = sg 1 4) (h4 : sg4 1 6 = sg 1 6) (i5 : iSp HS sg4 sg5 k5) (e5 : sg 1 4 ≤ k5) (z5 : sg 1 4 ≤ 16) (i6 : iAn HA sg5 sg6 k6) (e6 : sg 1 6 ≤ k6) (z6 : sg 1 6 ≤ 12) : hShF sg sg6 HS HA := by
  refine ⟨fun c j hc => ?_, ?_, ?_, fun k f h1 h2 => ?_, fun k f h1 h2 => ?_⟩
  · rw [i6.1 c j (by omega), i5.1 c j (by omega), f4 c j (by omega)]
  · rw [i6.1 1 4 (by decide), i5.1 1 4 (by decide)]; exact g4
  · rw [i6.1 1 6 (by decide), i5.1 1 6 (by decide)]; exact h4
  · have hz := zel4_rng h1 (by lia : k < 16)
    rw [i6.1 _ f (by omega), i5.2 k f h1 (by lia), if_pos (by lia)]
    exact lS.2 sg4 sg (zel 4 k) (fun f => f4 _ f (by omega)) f
  · have hz := zel5_rng h1 (by lia : k < 12)
    rw [i6.2 k f h1 (by lia), if_pos (by lia)]
    exact lA.2 sg5 sg (zel 5 k) (fun f => by rw [i5.1 _ f (by omega)]; exact f4 _ f (by omega)) f
theorem lIn_of {S T : Int32 → Int32} {p m n j : Int32} (p0 : 0 ≤ p) (p1 : p ≤ n) (m0 : 0 ≤ m) (n1 : n ≤ 200) (m1 : n ≤ 200 - m) (m2 : m ≤ 200) (j0 : 0 ≤ j) (j1 : j < n + m) : (if p ≤ j ∧ j < p + m then T (j - p) else if p + m ≤ j ∧ j < p + m + (n - p) then S (p + (j - (p + m))) else S j) = lIn S T p m j := by
  unfold lIn
  by_cases q1 : j < p
  · rw [if_pos q1, if_neg (by lia), if_neg (by lia)]
  · rw [if_neg q1]
    by_cases q2 : j < p + m
    · rw [if_pos q2, if_pos (by lia)]
    · rw [if_neg q2, if_neg (by lia), if_pos (by lia)]
      congr 1
      clear p0 p1 m0 n1 m1 m2 j0 j1 q1 q2
      grind
theorem zr1 (p t : Int32) : t = p + t - p := by grind
theorem lOut_of {S : Int32 → Int32} {p q n j : Int32} (p0 : 0 ≤ p) (p1 : p < q) (q1 : q ≤ n) (n1 : n ≤ 200) (j0 : 0 ≤ j) (j1 : j < n - (q - p)) : (if p ≤ j ∧ j < p + (n - q) then S (q + (j - p)) else S j) = lOut S p q j := by
  obtain ⟨d, rfl⟩ : ∃ d, q = p + d := ⟨q - p, by grind⟩
  have e1 : p + d - p = d := (zr1 p d).symm
  have e2 : p + (n - (p + d)) = n - d := by grind
  have d0 : 0 < d ∧ d ≤ 200 := by lia
  rw [e1] at j1
  unfold lOut
  rw [e1, e2]
  by_cases h1 : j < p
  · rw [if_pos h1, if_neg (by lia)]
  · rw [if_neg h1, if_pos (by lia)]
    congr 1
    clear e1 e2 d0 p0 p1 q1 n1 j0 j1 h1
    grind
theorem bkShe_put_0 : zBk mShe_put 0 [(1, 2, 1, 0, 0), (5, 7, 1, 0, 1), (2, 3, 0, 0, 0)] = some 5 := by decide +kernel
theorem bkShe_put_5 : zBk mShe_put 5 [(1, 0, 1, 0, 0), (1, 1, 0, 0, 0)] = some 7 := by decide +kernel
theorem bkShe_put_10 : zBk mShe_put 10 [] = some 10 := by decide +kernel
theorem bkShe_put_25 : zBk mShe_put 25 [] = some 25 := by decide +kernel
theorem bkShe_put_13 : zBk mShe_put 13 [(1, 0, 1, 0, 0), (5, 5, 2, 0, 2), (1, 3, 0, 0, 0), (4, 0, 0, 0, 0), (0, 0, 0, 0, 200)] = some 22 := by decide +kernel
theorem bkShe_put_42 : zBk mShe_put 42 [(2, 4, 0, 0, 0), (1, 0, 1, 0, 0), (5, 5, 0, 1, 0), (1, 1, 0, 0, 0), (1, 0, 1, 0, 0), (5, 5, 0, 1, 0), (1, 1, 0, 0, 0), (1, 3, 0, 0, 0), (4, 0, 0, 0, 0), (1, 0, 1, 0, 0), (5, 5, 2, 0, 2), (1, 1, 0, 0, 0), (4, 1, 0, 0, 0)] = some 62 := by decide +kernel
theorem bkShe_put_65 : zBk mShe_put 65 [(1, 0, 1, 0, 0), (5, 5, 1, 2, 1), (1, 1, 0, 0, 0), (1, 0, 1, 0, 0), (5, 5, 1, 2, 1), (1, 1, 0, 0, 0), (1, 3, 0, 0, 0), (4, 0, 0, 0, 0), (1, 0, 1, 0, 0), (5, 5, 2, 0, 2), (1, 1, 0, 0, 0), (4, 1, 0, 0, 0)] = some 83 := by decide +kernel
theorem bkShe_put_86 : zBk mShe_put 86 [(0, 0, 0, 0, 0), (2, 5, 0, 0, 0)] = some 89 := by decide +kernel
theorem bkShe_put_89 : zBk mShe_put 89 [(1, 5, 0, 0, 0), (1, 3, 0, 0, 0)] = some 92 := by decide +kernel
theorem bkShe_put_128 : zBk mShe_put 128 [(1, 0, 1, 0, 0), (18, 0, 0, 0, 0), (5, 5, 2, 0, 2), (1, 3, 0, 0, 0), (4, 0, 0, 0, 0), (6, 5, 2, 0, 2)] = some 138 := by decide +kernel
theorem bkShe_put_138 : zBk mShe_put 138 [(0, 0, 0, 0, 0), (2, 5, 0, 0, 0)] = some 141 := by decide +kernel
theorem bkShe_put_141 : zBk mShe_put 141 [(1, 5, 0, 0, 0), (1, 0, 1, 0, 0), (5, 5, 4, 0, 4)] = some 147 := by decide +kernel
theorem bkShe_put_168 : zBk mShe_put 168 [(0, 0, 0, 0, 0), (2, 5, 0, 0, 0)] = some 171 := by decide +kernel
theorem bkShe_put_171 : zBk mShe_put 171 [(1, 5, 0, 0, 0), (1, 0, 1, 0, 0), (5, 5, 6, 0, 6)] = some 177 := by decide +kernel
theorem bkShe_put_221 : zBk mShe_put 221 [] = some 221 := by decide +kernel
theorem bkShe_put_180 : zBk mShe_put 180 [(1, 0, 1, 0, 0), (5, 5, 5, 4, 5), (1, 5, 0, 0, 0), (9, 0, 0, 0, 0), (1, 0, 1, 0, 0), (5, 5, 5, 4, 5), (1, 5, 0, 0, 0), (9, 0, 0, 0, 0), (5, 1, 1, 0, 1), (1, 0, 1, 0, 0), (5, 5, 5, 4, 5), (1, 5, 0, 0, 0), (9, 0, 0, 0, 0), (5, 1, 2, 0, 2), (1, 1, 0, 0, 0), (1, 3, 0, 0, 0)] = some 209 := by decide +kernel
theorem bkShe_put_212 : zBk mShe_put 212 [(6, 1, 1, 0, 1), (3, 5, 0, 0, 1), (22, 171, 0, 0, 0)] = some 171 := by decide +kernel
theorem bkShe_put_150 : zBk mShe_put 150 [(1, 0, 1, 0, 0), (5, 5, 3, 3, 3), (1, 5, 0, 0, 0), (9, 0, 0, 0, 0), (1, 1, 0, 0, 0), (1, 3, 0, 0, 0)] = some 159 := by decide +kernel
theorem bkShe_put_162 : zBk mShe_put 162 [(3, 5, 0, 0, 1), (22, 141, 0, 0, 0)] = some 141 := by decide +kernel
theorem bkShe_put_95 : zBk mShe_put 95 [(1, 0, 1, 0, 0), (5, 5, 0, 1, 0), (1, 1, 0, 0, 0), (1, 5, 0, 0, 0), (4, 0, 0, 0, 0), (1, 2, 1, 0, 0), (5, 7, 0, 1, 0), (1, 5, 0, 0, 0), (7, 0, 0, 0, 0), (8, 0, 0, 0, 0), (1, 0, 1, 0, 0), (5, 5, 1, 2, 1), (1, 1, 0, 0, 0), (1, 5, 0, 0, 0), (4, 0, 0, 0, 0), (1, 4, 0, 0, 0), (8, 0, 0, 0, 0), (3, 5, 0, 0, 1), (22, 89, 0, 0, 0)] = some 89 := by decide +kernel
theorem bkShe_put_26 : zBk mShe_put 26 [(1, 1, 0, 0, 0)] = some 27 := by decide +kernel
theorem bkShe_put_41 : zBk mShe_put 41 [(0, 0, 0, 0, 4)] = some 42 := by decide +kernel
theorem bkShe_put_30 : zBk mShe_put 30 [(1, 0, 1, 0, 0), (5, 5, 1, 2, 1), (1, 1, 0, 0, 0), (0, 0, 0, 0, 1), (4, 1, 0, 0, 0), (7, 0, 0, 0, 0), (22, 42, 0, 0, 0)] = some 42 := by decide +kernel
theorem bdShe_put_7 : decode mShe_put.2.2.1 7 = .ok (.invokevirtual 83, 3) := by decide +kernel
theorem bdShe_put_10 : decode mShe_put.2.2.1 10 = .ok (.ifCond .eq 15, 3) := by decide +kernel
theorem bdShe_put_22 : decode mShe_put.2.2.1 22 = .ok (.if_icmp .le 4, 3) := by decide +kernel
theorem bdShe_put_25 : decode mShe_put.2.2.1 25 = .ok (.return_, 1) := by decide +kernel
theorem bdShe_put_27 : decode mShe_put.2.2.1 27 = .ok (.ifCond .le 14, 3) := by decide +kernel
theorem bdShe_put_62 : decode mShe_put.2.2.1 62 = .ok (.invokestatic 42, 3) := by decide +kernel
theorem bdShe_put_83 : decode mShe_put.2.2.1 83 = .ok (.invokestatic 42, 3) := by decide +kernel
theorem bdShe_put_92 : decode mShe_put.2.2.1 92 = .ok (.if_icmp .ge 36, 3) := by decide +kernel
theorem bdShe_put_147 : decode mShe_put.2.2.1 147 = .ok (.if_icmp .ge 21, 3) := by decide +kernel
theorem bdShe_put_159 : decode mShe_put.2.2.1 159 = .ok (.invokevirtual 91, 3) := by decide +kernel
theorem bdShe_put_177 : decode mShe_put.2.2.1 177 = .ok (.if_icmp .ge 44, 3) := by decide +kernel
theorem bdShe_put_209 : decode mShe_put.2.2.1 209 = .ok (.invokestatic 101, 3) := by decide +kernel
theorem bdShe_put_221 : decode mShe_put.2.2.1 221 = .ok (.return_, 1) := by decide +kernel
theorem lShe_put {sg : zSig} {p m : Int32} (n0 : 0 ≤ sg 1 2) (n1 : sg 1 2 ≤ 200) (g0 : 0 ≤ sg 1 4) (g1 : sg 1 4 ≤ 16) (a0 : 0 ≤ sg 1 6) (a1 : sg 1 6 ≤ 12) (p0 : 0 ≤ p) (p1 : p ≤ sg 1 2) (m0 : 0 ≤ m) (m2 : m ≤ 200) (m1 : sg 1 2 ≤ 200 - m) (em : sg 34 1 = m) {Q : Option Value → zHp → Prop} (hq : ∀ rr h', (∃ sg', rr = none ∧ h' = zN sg' ∧ hShF sg sg' (fun s x => hSpC s x p m) (fun s x => hAnC s x p m) ∧ sg' 1 2 = sg 1 2 + m ∧ (∀ j, 0 ≤ j → j < sg 1 2 + m → sg' 2 j = lIn (sg 2) (sg 35) p m j) ∧ ∀ j, 0 ≤ j → j < sg 1 2 + m → sg' 3 j = lIn (sg 3) (fun _ => if 0 < p then sg 3 (p - 1) else 4) p m j) → Q rr h') : zG mShe_put 411 Q 0 [(0, .ref 1), (1, .int p), (2, .ref 34)] [] (zN sg) := by
  refine zG_run bkShe_put_0 (lv' := [(3, .int (sg 34 1)), (0, .ref 1), (1, .int p), (2, .ref 34)]) (st' := []) (h' := zN sg) (Ps := [zOb (zN sg) 34 7]) rfl (zA zob_34 trivial) ?_
  rw [em]
  refine zG_run bkShe_put_5 (lv' := [(3, .int m), (0, .ref 1), (1, .int p), (2, .ref 34)]) (st' := [.int p, .ref 1]) (h' := zN sg) (Ps := []) rfl trivial ?_
  refine zG_callv (a := 1) (c := 5) (As := [.int p]) (rest := []) (N2 := 411) bdShe_put_7 okShe_hasPlace lk5_83 (And.intro (by decide) (by decide)) (by decide) rfl rfl rfl (Nat.le_of_ble_eq_true rfl) (Nat.le_of_ble_eq_true rfl) (Nat.le_refl 411) (Nat.le_refl 411) zob_1 (cShe_hasPlace zob_1) ?_
  rintro rr h' ⟨rfl, rfl⟩ -
  refine zb_ifeq (tgt := 25) bkShe_put_10 bdShe_put_10 (by decide) (lv' := [(3, .int m), (0, .ref 1), (1, .int p), (2, .ref 34)]) (st' := []) (h' := zN sg) (x := if 0 ≤ p ∧ p ≤ sg 1 2 then 1 else 0) (Ps := []) rfl trivial (fun c1 => ?_) (fun c1 => ?_)
  · skip
    refine zb_vret bkShe_put_25 bdShe_put_25 rfl (h' := zN sg) (Ps := []) rfl trivial rfl ?_
    refine hq _ _ ?_
    exfalso; lia
  · skip
    refine zb_icle (tgt := 26) bkShe_put_13 bdShe_put_22 (by decide) (lv' := [(3, .int m), (0, .ref 1), (1, .int p), (2, .ref 34)]) (st' := []) (h' := zN sg) (x := (sg 1 2) + m) (y := 200) (Ps := [zOb (zN sg) 1 5]) rfl (zA zob_1 trivial) (fun c2 => ?_) (fun c2 => ?_)
    · skip
      have K : ∀ (pt : Int32), (pt = if 0 < p then sg 3 (p - 1) else 4) → zG mShe_put 411 Q 42 [(3, .int m), (0, .ref 1), (1, .int p), (2, .ref 34)] [.int pt] (zN sg) := by
        intro pt hK
        refine zG_run bkShe_put_42 (lv' := [(4, .int pt), (3, .int m), (0, .ref 1), (1, .int p), (2, .ref 34)]) (st' := [.int ((sg 1 2) - p), .int (p + m), .ref 2, .int p, .ref 2]) (h' := zN sg) (Ps := [zOb (zN sg) 1 5 ∧ (zN sg).2.2 1 0 = true, zOb (zN sg) 1 5 ∧ (zN sg).2.2 1 0 = true, zOb (zN sg) 1 5]) rfl (zA ⟨zob_1, rfl⟩ (zA ⟨zob_1, rfl⟩ (zA zob_1 trivial))) ?_
        refine zs_acopy bdShe_put_62 lk5_42 (And.intro (by decide) (by decide)) (Nat.le_of_ble_eq_true rfl) (zcp_2_2 (sp := p) (dp := p + m) (n := (sg 1 2) - p) (by lia) (by lia) (by lia) (by lia) (by lia) (by lia) (by lia)) ?_
        refine zG_nm (sg := zcp sg 2 2 p (p + m) ((sg 1 2) - p)) (fun sg1 e1 => ?_)
        have f1 : ∀ c j, c ≠ 2 → sg1 c j = sg c j := fun c j h => by rw [e1, zcp_e, if_neg (fun q => h q.1)]
        have l1 : ∀ j, sg1 2 j = if p + m ≤ j ∧ j < p + m + (sg 1 2 - p) then sg 2 (p + (j - (p + m))) else sg 2 j := fun j => by rw [e1, zcp_e]; simp only [true_and]
        have ns : sg1 1 2 = sg 1 2 := f1 1 2 (by decide)
        refine zG_run bkShe_put_65 (lv' := [(4, .int pt), (3, .int m), (0, .ref 1), (1, .int p), (2, .ref 34)]) (st' := [.int ((sg1 1 2) - p), .int (p + m), .ref 3, .int p, .ref 3]) (h' := zN sg1) (Ps := [zOb (zN sg1) 1 5 ∧ (zN sg1).2.2 1 1 = true, zOb (zN sg1) 1 5 ∧ (zN sg1).2.2 1 1 = true, zOb (zN sg1) 1 5]) rfl (zA ⟨zob_1, rfl⟩ (zA ⟨zob_1, rfl⟩ (zA zob_1 trivial))) ?_
        refine zs_acopy bdShe_put_83 lk5_42 (And.intro (by decide) (by decide)) (Nat.le_of_ble_eq_true rfl) (zcp_3_3 (sp := p) (dp := p + m) (n := (sg1 1 2) - p) (by lia) (by lia) (by lia) (by lia) (by lia) (by lia) (by lia)) ?_
        refine zG_nm (sg := zcp sg1 3 3 p (p + m) ((sg1 1 2) - p)) (fun sg2 e2 => ?_)
        have f2 : ∀ c j, c ≠ 2 → c ≠ 3 → sg2 c j = sg c j := fun c j h h3 => by rw [e2, zcp_e, if_neg (fun q => h3 q.1)]; exact f1 c j h
        have l2 : ∀ j, sg2 2 j = sg1 2 j := fun j => by rw [e2, zcp_e, if_neg (fun q => absurd q.1 (by decide))]
        have p2 : ∀ j, sg2 3 j = if p + m ≤ j ∧ j < p + m + (sg 1 2 - p) then sg 3 (p + (j - (p + m))) else sg 3 j := fun j => by rw [e2, zcp_e, f1 1 2 (by decide), f1 3 _ (by decide), f1 3 _ (by decide)]; simp only [true_and]
        refine zG_run bkShe_put_86 (lv' := [(5, .int 0), (4, .int pt), (3, .int m), (0, .ref 1), (1, .int p), (2, .ref 34)]) (st' := []) (h' := zN sg2) (Ps := []) rfl trivial ?_
        refine zG_pick (lv' := [(0, .ref 1), (1, .int p), (2, .ref 34), (3, .int m), (4, .int pt), (5, .int 0)]) [3, 4, 5, 2, 1, 0] rfl ?_
        refine zlp2 (fun (t : Int32) (sg3 : zSig) => zG mShe_put 411 Q 89 [(0, .ref 1), (1, .int p), (2, .ref 34), (3, .int m), (4, .int pt), (5, .int t)] [] (zN sg3)) (fun (t : Int32) (sg3 : zSig) => (0 ≤ t) ∧ (t ≤ m) ∧ (∀ c j, c ≠ 2 → c ≠ 3 → sg3 c j = sg c j) ∧ (∀ j, sg3 2 j = if p ≤ j ∧ j < p + t then sg 35 (j - p) else sg2 2 j) ∧ (∀ j, sg3 3 j = if p ≤ j ∧ j < p + t then pt else sg2 3 j)) (fun (t : Int32) (sg3 : zSig) => zmu m t) ?_ 0 sg2 ?_
        · intro t sg3 hj ihj
          obtain ⟨j0, j1, jf, jl, jp⟩ := hj
          refine zb_icge (tgt := 128) bkShe_put_89 bdShe_put_92 (by decide) (lv' := [(0, .ref 1), (1, .int p), (2, .ref 34), (3, .int m), (4, .int pt), (5, .int t)]) (st' := []) (h' := zN sg3) (x := t) (y := m) (Ps := []) rfl trivial (fun c3 => ?_) (fun c3 => ?_)
          · skip
            refine zG_run bkShe_put_128 (lv' := [(0, .ref 1), (1, .int p), (2, .ref 34), (3, .int m), (4, .int pt), (5, .int t)]) (st' := []) (h' := zN (zup sg3 1 2 ((sg3 1 2) + m))) (Ps := [zOb (zN sg3) 1 5, zOb (zN sg3) 1 5]) rfl (zA zob_1 (zA zob_1 trivial)) ?_
            refine zG_nm (sg := zup sg3 1 2 ((sg3 1 2) + m)) (fun sg4 e4 => ?_)
            have f4 : ∀ c j, (c < 1 ∨ 4 ≤ c) → sg4 c j = sg c j := fun c j h => by rw [e4, zup_a (by omega)]; exact jf c j (by omega) (by omega)
            have g4 : sg4 1 4 = sg 1 4 := by rw [e4, zup_i (by decide)]; exact jf 1 4 (by decide) (by decide)
            have h4 : sg4 1 6 = sg 1 6 := by rw [e4, zup_i (by decide)]; exact jf 1 6 (by decide) (by decide)
            have s4 : sg4 1 2 = sg 1 2 + m := by rw [e4, zup_s, jf 1 2 (by decide) (by decide)]
            have tm : t = m := by lia
            have l4 : ∀ j, 0 ≤ j → j < sg 1 2 + m → sg4 2 j = lIn (sg 2) (sg 35) p m j := by
              intro j h5 h6
              rw [e4, zup_a (by decide), jl j, l2, l1, tm]
              exact lIn_of p0 p1 m0 n1 m1 m2 h5 h6
            have q4 : ∀ j, 0 ≤ j → j < sg 1 2 + m → sg4 3 j = lIn (sg 3) (fun _ => pt) p m j := by
              intro j h5 h6
              rw [e4, zup_a (by decide), jp j, p2, tm]
              exact lIn_of (T := fun _ => pt) p0 p1 m0 n1 m1 m2 h5 h6
            refine zG_run bkShe_put_138 (lv' := [(5, .int 0), (0, .ref 1), (1, .int p), (2, .ref 34), (3, .int m), (4, .int pt)]) (st' := []) (h' := zN sg4) (Ps := []) rfl trivial ?_
            refine zG_pick (lv' := [(0, .ref 1), (1, .int p), (2, .ref 34), (3, .int m), (4, .int pt), (5, .int 0)]) [1, 2, 3, 4, 5, 0] rfl ?_
            refine zlp2 (fun (k : Int32) (sg5 : zSig) => zG mShe_put 411 Q 141 [(0, .ref 1), (1, .int p), (2, .ref 34), (3, .int m), (4, .int pt), (5, .int k)] [] (zN sg5)) (fun (k : Int32) (sg5 : zSig) => (0 ≤ k) ∧ (k ≤ sg 1 4) ∧ (iSp (fun s x => hSpC s x p m) sg4 sg5 k)) (fun (k : Int32) (sg5 : zSig) => zmu (sg 1 4) k) ?_ 0 sg4 ?_
            · intro k sg5 hk ihk
              obtain ⟨k0, k1, ki⟩ := hk
              have kg : sg5 1 4 = sg 1 4 := by rw [ki.1 1 4 (by decide)]; exact g4
              refine zb_icge (tgt := 168) bkShe_put_141 bdShe_put_147 (by decide) (lv' := [(0, .ref 1), (1, .int p), (2, .ref 34), (3, .int m), (4, .int pt), (5, .int k)]) (st' := []) (h' := zN sg5) (x := k) (y := sg5 1 4) (Ps := [zOb (zN sg5) 1 5]) rfl (zA zob_1 trivial) (fun c4 => ?_) (fun c4 => ?_)
              · skip
                refine zG_run bkShe_put_168 (lv' := [(5, .int 0), (0, .ref 1), (1, .int p), (2, .ref 34), (3, .int m), (4, .int pt)]) (st' := []) (h' := zN sg5) (Ps := []) rfl trivial ?_
                refine zG_pick (lv' := [(0, .ref 1), (1, .int p), (2, .ref 34), (3, .int m), (4, .int pt), (5, .int 0)]) [1, 2, 3, 4, 5, 0] rfl ?_
                refine zlp2 (fun (q6 : Int32) (sg6 : zSig) => zG mShe_put 411 Q 171 [(0, .ref 1), (1, .int p), (2, .ref 34), (3, .int m), (4, .int pt), (5, .int q6)] [] (zN sg6)) (fun (q6 : Int32) (sg6 : zSig) => (0 ≤ q6) ∧ (q6 ≤ sg 1 6) ∧ (iAn (fun s x => hAnC s x p m) sg5 sg6 q6)) (fun (q6 : Int32) (sg6 : zSig) => zmu (sg 1 6) q6) ?_ 0 sg5 ?_
                · intro q6 sg6 hm ihm
                  obtain ⟨m0, m1, mi⟩ := hm
                  have mg : sg6 1 6 = sg 1 6 := by rw [mi.1 1 6 (by decide), ki.1 1 6 (by decide)]; exact h4
                  refine zb_icge (tgt := 221) bkShe_put_171 bdShe_put_177 (by decide) (lv' := [(0, .ref 1), (1, .int p), (2, .ref 34), (3, .int m), (4, .int pt), (5, .int q6)]) (st' := []) (h' := zN sg6) (x := q6) (y := sg6 1 6) (Ps := [zOb (zN sg6) 1 5]) rfl (zA zob_1 trivial) (fun c5 => ?_) (fun c5 => ?_)
                  · skip
                    refine zb_vret bkShe_put_221 bdShe_put_221 rfl (h' := zN sg6) (Ps := []) rfl trivial rfl ?_
                    refine hq _ _ ?_
                    refine ⟨sg6, rfl, rfl, hShF_of (loc_SpC p m) (loc_AnC p m) f4 g4 h4 ki (by lia) g1 mi (by lia) a1, ?_, fun j h5 h6 => ?_, fun j h5 h6 => ?_⟩
                    · rw [mi.1 1 2 (by decide), ki.1 1 2 (by decide)]; exact s4
                    · rw [mi.1 2 j (by decide), ki.1 2 j (by decide)]; exact l4 j h5 h6
                    · rw [mi.1 3 j (by decide), ki.1 3 j (by decide), q4 j h5 h6, hK]
                  · skip
                    refine zG_run bkShe_put_180 (lv' := [(0, .ref 1), (1, .int p), (2, .ref 34), (3, .int m), (4, .int pt), (5, .int q6)]) (st' := [.int m, .int p, .int (sg6 (zel 5 q6) 2), .int (sg6 (zel 5 q6) 1), .ref (zel 5 q6)]) (h' := zN sg6) (Ps := [zOb (zN sg6) 1 5 ∧ (zN sg6).2.2 1 5 = true, zInR (zN sg6) 5 q6, zOb (zN sg6) 1 5 ∧ (zN sg6).2.2 1 5 = true, zInR (zN sg6) 5 q6, zOb (zN sg6) (zel 5 q6) 1, zOb (zN sg6) 1 5 ∧ (zN sg6).2.2 1 5 = true, zInR (zN sg6) 5 q6, zOb (zN sg6) (zel 5 q6) 1]) rfl (zA ⟨zob_1, rfl⟩ (zA (zinR_5 (i := q6) (by lia) (by lia)) (zA ⟨zob_1, rfl⟩ (zA (zinR_5 (i := q6) (by lia) (by lia)) (zA (zel_ob5 (i := q6) (by lia) (by lia)) (zA ⟨zob_1, rfl⟩ (zA (zinR_5 (i := q6) (by lia) (by lia)) (zA (zel_ob5 (i := q6) (by lia) (by lia)) trivial)))))))) ?_
                    refine zG_calls (As := [.int (sg6 (zel 5 q6) 1), .int (sg6 (zel 5 q6) 2), .int p, .int m]) (rest := [.ref (zel 5 q6)]) (N2 := 411) bdShe_put_209 okPla_afterComing lk5_101 (And.intro (by decide) (by decide)) rfl rfl (Nat.le_of_ble_eq_true rfl) (Nat.le_of_ble_eq_true rfl) (Nat.le_refl 411) (Nat.le_refl 411) cPla_afterComing ?_
                    rintro rr h' ⟨rfl, rfl⟩ -
                    refine zG_run bkShe_put_212 (lv' := [(5, .int (q6 + 1)), (0, .ref 1), (1, .int p), (2, .ref 34), (3, .int m), (4, .int pt)]) (st' := []) (h' := zN (zup sg6 (zel 5 q6) 1 (pOn (sg6 (zel 5 q6) 1) (sg6 (zel 5 q6) 2) p m))) (Ps := [zOb (zN sg6) (zel 5 q6) 1]) rfl (zA (zel_ob5 (i := q6) (by lia) (by lia)) trivial) ?_
                    refine zG_pick (lv' := [(0, .ref 1), (1, .int p), (2, .ref 34), (3, .int m), (4, .int pt), (5, .int (q6 + 1))]) [1, 2, 3, 4, 5, 0] rfl ?_
                    refine ihm (q6 + 1) (zup sg6 (zel 5 q6) 1 (pOn (sg6 (zel 5 q6) 1) (sg6 (zel 5 q6) 2) p m)) ?_ ?_
                    · refine ⟨?_, ?_, ?_⟩
                      · lia
                      · lia
                      · exact iAn_s (loc_AnC p m) mi m0 (by lia)
                    · exact zmu_up (by lia)
                · refine ⟨?_, ?_, ?_⟩
                  · lia
                  · lia
                  · exact iAn_0
              · skip
                refine zG_run bkShe_put_150 (lv' := [(0, .ref 1), (1, .int p), (2, .ref 34), (3, .int m), (4, .int pt), (5, .int k)]) (st' := [.int m, .int p, .ref (zel 4 k)]) (h' := zN sg5) (Ps := [zOb (zN sg5) 1 5 ∧ (zN sg5).2.2 1 3 = true, zInR (zN sg5) 4 k]) rfl (zA ⟨zob_1, rfl⟩ (zA (zinR_4 (i := k) (by lia) (by lia)) trivial)) ?_
                refine zG_callv (a := zel 4 k) (c := 6) (As := [.int p, .int m]) (rest := []) (N2 := 411) bdShe_put_159 okSpa_lettersCome lk5_91 (And.intro (by decide) (by decide)) (by decide) rfl rfl rfl (Nat.le_of_ble_eq_true rfl) (Nat.le_of_ble_eq_true rfl) (Nat.le_refl 411) (Nat.le_refl 411) (zel_ob4 (i := k) (by lia) (by lia)) (cSpa_lettersCome (zel_ob4 (i := k) (by lia) (by lia))) ?_
                rintro rr h' ⟨rfl, rfl⟩ -
                refine zG_run bkShe_put_162 (lv' := [(5, .int (k + 1)), (0, .ref 1), (1, .int p), (2, .ref 34), (3, .int m), (4, .int pt)]) (st' := []) (h' := zN (hSpC sg5 (zel 4 k) p m)) (Ps := []) rfl trivial ?_
                refine zG_pick (lv' := [(0, .ref 1), (1, .int p), (2, .ref 34), (3, .int m), (4, .int pt), (5, .int (k + 1))]) [1, 2, 3, 4, 5, 0] rfl ?_
                refine ihk (k + 1) (hSpC sg5 (zel 4 k) p m) ?_ ?_
                · refine ⟨?_, ?_, ?_⟩
                  · lia
                  · lia
                  · exact iSp_s (loc_SpC p m) ki k0 (by lia)
                · exact zmu_up (by lia)
            · refine ⟨?_, ?_, ?_⟩
              · lia
              · lia
              · exact iSp_0
          · skip
            refine zG_run bkShe_put_95 (lv' := [(5, .int (t + 1)), (0, .ref 1), (1, .int p), (2, .ref 34), (3, .int m), (4, .int pt)]) (st' := []) (h' := zN (zup (zup sg3 2 (p + t) (sg3 35 t)) 3 (p + t) pt)) (Ps := [zOb (zN sg3) 1 5 ∧ (zN sg3).2.2 1 0 = true, zOb (zN sg3) 34 7 ∧ (zN sg3).2.2 34 0 = true, zInL (zN sg3) 35 t, zIn (zN sg3) 2 0 (p + t), zOb (zN (zup sg3 2 (p + t) (sg3 35 t))) 1 5 ∧ (zN (zup sg3 2 (p + t) (sg3 35 t))).2.2 1 1 = true, zIn (zN (zup sg3 2 (p + t) (sg3 35 t))) 3 0 (p + t)]) rfl (zA ⟨zob_1, rfl⟩ (zA ⟨zob_34, rfl⟩ (zA (zinL_35 (i := t) (by lia) (by lia)) (zA (zin_2 (i := p + t) (by lia) (by lia)) (zA ⟨zob_1, rfl⟩ (zA (zin_3 (i := p + t) (by lia) (by lia)) trivial)))))) ?_
            refine zG_pick (lv' := [(0, .ref 1), (1, .int p), (2, .ref 34), (3, .int m), (4, .int pt), (5, .int (t + 1))]) [1, 2, 3, 4, 5, 0] rfl ?_
            refine ihj (t + 1) (zup (zup sg3 2 (p + t) (sg3 35 t)) 3 (p + t) pt) ?_ ?_
            · refine ⟨?_, ?_, ?_, ?_, ?_⟩
              · lia
              · lia
              · intro c j h1 h2; rw [zup_a h2, zup_a h1]; exact jf c j h1 h2
              · intro j; rw [zup_a (by decide), zup_e]; have e1 := jl j; have e2 := jf 35 t (by decide) (by decide); by_cases hj : j = p + t
                · rw [if_pos ⟨rfl, hj⟩, if_pos (by lia), e2]; congr 1; rw [hj]; exact zr1 p t
                · rw [if_neg (fun q => hj q.2), e1]; by_cases hc : p ≤ j ∧ j < p + t
                  · rw [if_pos hc, if_pos (by lia)]
                  · rw [if_neg hc, if_neg (by lia)]
              · intro j; rw [zup_e, zup_a (by decide)]; have e1 := jp j; by_cases hj : j = p + t
                · rw [if_pos ⟨rfl, hj⟩, if_pos (by lia)]
                · rw [if_neg (fun q => hj q.2), e1]; by_cases hc : p ≤ j ∧ j < p + t
                  · rw [if_pos hc, if_pos (by lia)]
                  · rw [if_neg hc, if_neg (by lia)]
            · exact zmu_up (by lia)
        · refine ⟨?_, ?_, ?_, ?_, ?_⟩
          · lia
          · lia
          · exact f2
          · intro j; rw [if_neg (by lia)]
          · intro j; rw [if_neg (by lia)]
      refine zb_ifle (tgt := 41) bkShe_put_26 bdShe_put_27 (by decide) (lv' := [(3, .int m), (0, .ref 1), (1, .int p), (2, .ref 34)]) (st' := []) (h' := zN sg) (x := p) (Ps := []) rfl trivial (fun c6 => ?_) (fun c6 => ?_)
      · skip
        refine zG_run bkShe_put_41 (lv' := [(3, .int m), (0, .ref 1), (1, .int p), (2, .ref 34)]) (st' := [.int 4]) (h' := zN sg) (Ps := []) rfl trivial ?_
        exact K _ (by first | rw [if_pos (by lia)] | rw [if_neg (by lia)])
      · skip
        refine zG_run bkShe_put_30 (lv' := [(3, .int m), (0, .ref 1), (1, .int p), (2, .ref 34)]) (st' := [.int (sg 3 (p - 1))]) (h' := zN sg) (Ps := [zOb (zN sg) 1 5 ∧ (zN sg).2.2 1 1 = true, zInL (zN sg) 3 (p - 1)]) rfl (zA ⟨zob_1, rfl⟩ (zA (zinL_3 (i := p - 1) (by lia) (by lia)) trivial)) ?_
        exact K _ (by first | rw [if_pos (by lia)] | rw [if_neg (by lia)])
    · skip
      refine zb_vret bkShe_put_25 bdShe_put_25 rfl (h' := zN sg) (Ps := []) rfl trivial rfl ?_
      refine hq _ _ ?_
      exfalso; lia
theorem cShe_put {sg : zSig} {p m : Int32} (n0 : 0 ≤ sg 1 2) (n1 : sg 1 2 ≤ 200) (g0 : 0 ≤ sg 1 4) (g1 : sg 1 4 ≤ 16) (a0 : 0 ≤ sg 1 6) (a1 : sg 1 6 ≤ 12) (p0 : 0 ≤ p) (p1 : p ≤ sg 1 2) (m0 : 0 ≤ m) (m2 : m ≤ 200) (m1 : sg 1 2 ≤ 200 - m) (em : sg 34 1 = m) : zG mShe_put 411 (fun rr h' => ∃ sg', rr = none ∧ h' = zN sg' ∧ hShF sg sg' (fun s x => hSpC s x p m) (fun s x => hAnC s x p m) ∧ sg' 1 2 = sg 1 2 + m ∧ (∀ j, 0 ≤ j → j < sg 1 2 + m → sg' 2 j = lIn (sg 2) (sg 35) p m j) ∧ ∀ j, 0 ≤ j → j < sg 1 2 + m → sg' 3 j = lIn (sg 3) (fun _ => if 0 < p then sg 3 (p - 1) else 4) p m j) 0 [(0, .ref 1), (1, .int p), (2, .ref 34)] [] (zN sg) := lShe_put n0 n1 g0 g1 a0 a1 p0 p1 m0 m2 m1 em (fun _ _ q => q)
theorem bkShe_lettersGo_0 : zBk mShe_lettersGo 0 [(1, 0, 1, 0, 0), (1, 1, 0, 0, 0), (1, 2, 0, 0, 0)] = some 3 := by decide +kernel
theorem bkShe_lettersGo_6 : zBk mShe_lettersGo 6 [] = some 6 := by decide +kernel
theorem bkShe_lettersGo_10 : zBk mShe_lettersGo 10 [(1, 0, 1, 0, 0), (5, 5, 0, 1, 0), (1, 2, 0, 0, 0), (1, 0, 1, 0, 0), (5, 5, 0, 1, 0), (1, 1, 0, 0, 0), (1, 0, 1, 0, 0), (5, 5, 2, 0, 2), (1, 2, 0, 0, 0), (4, 1, 0, 0, 0)] = some 26 := by decide +kernel
theorem bkShe_lettersGo_29 : zBk mShe_lettersGo 29 [(1, 0, 1, 0, 0), (5, 5, 1, 2, 1), (1, 2, 0, 0, 0), (1, 0, 1, 0, 0), (5, 5, 1, 2, 1), (1, 1, 0, 0, 0), (1, 0, 1, 0, 0), (5, 5, 2, 0, 2), (1, 2, 0, 0, 0), (4, 1, 0, 0, 0)] = some 45 := by decide +kernel
theorem bkShe_lettersGo_48 : zBk mShe_lettersGo 48 [(1, 0, 1, 0, 0), (18, 0, 0, 0, 0), (5, 5, 2, 0, 2), (1, 2, 0, 0, 0), (1, 1, 0, 0, 0), (4, 1, 0, 0, 0), (4, 1, 0, 0, 0), (6, 5, 2, 0, 2)] = some 60 := by decide +kernel
theorem bkShe_lettersGo_60 : zBk mShe_lettersGo 60 [(0, 0, 0, 0, 0), (2, 3, 0, 0, 0)] = some 62 := by decide +kernel
theorem bkShe_lettersGo_62 : zBk mShe_lettersGo 62 [(1, 3, 0, 0, 0), (1, 0, 1, 0, 0), (5, 5, 4, 0, 4)] = some 67 := by decide +kernel
theorem bkShe_lettersGo_87 : zBk mShe_lettersGo 87 [(0, 0, 0, 0, 0), (2, 3, 0, 0, 0)] = some 89 := by decide +kernel
theorem bkShe_lettersGo_89 : zBk mShe_lettersGo 89 [(1, 3, 0, 0, 0), (1, 0, 1, 0, 0), (5, 5, 6, 0, 6)] = some 94 := by decide +kernel
theorem bkShe_lettersGo_114 : zBk mShe_lettersGo 114 [] = some 114 := by decide +kernel
theorem bkShe_lettersGo_97 : zBk mShe_lettersGo 97 [(1, 0, 1, 0, 0), (5, 5, 5, 4, 5), (1, 3, 0, 0, 0), (9, 0, 0, 0, 0), (1, 1, 0, 0, 0), (1, 2, 0, 0, 0)] = some 105 := by decide +kernel
theorem bkShe_lettersGo_108 : zBk mShe_lettersGo 108 [(3, 3, 0, 0, 1), (22, 89, 0, 0, 0)] = some 89 := by decide +kernel
theorem bkShe_lettersGo_70 : zBk mShe_lettersGo 70 [(1, 0, 1, 0, 0), (5, 5, 3, 3, 3), (1, 3, 0, 0, 0), (9, 0, 0, 0, 0), (1, 1, 0, 0, 0), (1, 2, 0, 0, 0)] = some 78 := by decide +kernel
theorem bkShe_lettersGo_81 : zBk mShe_lettersGo 81 [(3, 3, 0, 0, 1), (22, 62, 0, 0, 0)] = some 62 := by decide +kernel
theorem bkShe_lettersGo_9 : zBk mShe_lettersGo 9 [] = some 9 := by decide +kernel
theorem bdShe_lettersGo_3 : decode mShe_lettersGo.2.2.1 3 = .ok (.invokevirtual 107, 3) := by decide +kernel
theorem bdShe_lettersGo_6 : decode mShe_lettersGo.2.2.1 6 = .ok (.ifCond .ne 4, 3) := by decide +kernel
theorem bdShe_lettersGo_9 : decode mShe_lettersGo.2.2.1 9 = .ok (.return_, 1) := by decide +kernel
theorem bdShe_lettersGo_26 : decode mShe_lettersGo.2.2.1 26 = .ok (.invokestatic 42, 3) := by decide +kernel
theorem bdShe_lettersGo_45 : decode mShe_lettersGo.2.2.1 45 = .ok (.invokestatic 42, 3) := by decide +kernel
theorem bdShe_lettersGo_67 : decode mShe_lettersGo.2.2.1 67 = .ok (.if_icmp .ge 20, 3) := by decide +kernel
theorem bdShe_lettersGo_78 : decode mShe_lettersGo.2.2.1 78 = .ok (.invokevirtual 111, 3) := by decide +kernel
theorem bdShe_lettersGo_94 : decode mShe_lettersGo.2.2.1 94 = .ok (.if_icmp .ge 20, 3) := by decide +kernel
theorem bdShe_lettersGo_105 : decode mShe_lettersGo.2.2.1 105 = .ok (.invokevirtual 114, 3) := by decide +kernel
theorem bdShe_lettersGo_114 : decode mShe_lettersGo.2.2.1 114 = .ok (.return_, 1) := by decide +kernel
theorem lShe_lettersGo {sg : zSig} {p q : Int32} (n0 : 0 ≤ sg 1 2) (n1 : sg 1 2 ≤ 200) (g0 : 0 ≤ sg 1 4) (g1 : sg 1 4 ≤ 16) (a0 : 0 ≤ sg 1 6) (a1 : sg 1 6 ≤ 12) (p0 : 0 ≤ p) (p1 : p < q) (q1 : q ≤ sg 1 2) {Q : Option Value → zHp → Prop} (hq : ∀ rr h', (∃ sg', rr = none ∧ h' = zN sg' ∧ hShF sg sg' (fun s x => hSpG s x p q) (fun s x => hAnG s x p q) ∧ sg' 1 2 = sg 1 2 - (q - p) ∧ (∀ j, 0 ≤ j → j < sg 1 2 - (q - p) → sg' 2 j = lOut (sg 2) p q j) ∧ ∀ j, 0 ≤ j → j < sg 1 2 - (q - p) → sg' 3 j = lOut (sg 3) p q j) → Q rr h') : zG mShe_lettersGo 411 Q 0 [(0, .ref 1), (1, .int p), (2, .int q)] [] (zN sg) := by
  refine zG_run bkShe_lettersGo_0 (lv' := [(0, .ref 1), (1, .int p), (2, .int q)]) (st' := [.int q, .int p, .ref 1]) (h' := zN sg) (Ps := []) rfl trivial ?_
  refine zG_callv (a := 1) (c := 5) (As := [.int p, .int q]) (rest := []) (N2 := 411) bdShe_lettersGo_3 okShe_isRange lk5_107 (And.intro (by decide) (by decide)) (by decide) rfl rfl rfl (Nat.le_of_ble_eq_true rfl) (Nat.le_of_ble_eq_true rfl) (Nat.le_refl 411) (Nat.le_refl 411) zob_1 cShe_isRange ?_
  rintro rr h' ⟨rfl, rfl⟩ -
  refine zb_ifne (tgt := 10) bkShe_lettersGo_6 bdShe_lettersGo_6 (by decide) (lv' := [(0, .ref 1), (1, .int p), (2, .int q)]) (st' := []) (h' := zN sg) (x := if 0 ≤ p ∧ p < q ∧ q ≤ sg 1 2 then 1 else 0) (Ps := []) rfl trivial (fun c1 => ?_) (fun c1 => ?_)
  · skip
    refine zG_run bkShe_lettersGo_10 (lv' := [(0, .ref 1), (1, .int p), (2, .int q)]) (st' := [.int ((sg 1 2) - q), .int p, .ref 2, .int q, .ref 2]) (h' := zN sg) (Ps := [zOb (zN sg) 1 5 ∧ (zN sg).2.2 1 0 = true, zOb (zN sg) 1 5 ∧ (zN sg).2.2 1 0 = true, zOb (zN sg) 1 5]) rfl (zA ⟨zob_1, rfl⟩ (zA ⟨zob_1, rfl⟩ (zA zob_1 trivial))) ?_
    refine zs_acopy bdShe_lettersGo_26 lk5_42 (And.intro (by decide) (by decide)) (Nat.le_of_ble_eq_true rfl) (zcp_2_2 (sp := q) (dp := p) (n := (sg 1 2) - q) (by lia) (by lia) (by lia) (by lia) (by lia) (by lia) (by lia)) ?_
    refine zG_nm (sg := zcp sg 2 2 q p ((sg 1 2) - q)) (fun sg1 e1 => ?_)
    have f1 : ∀ c j, c ≠ 2 → sg1 c j = sg c j := fun c j h => by rw [e1, zcp_e, if_neg (fun q => h q.1)]
    have l1 : ∀ j, sg1 2 j = if p ≤ j ∧ j < p + (sg 1 2 - q) then sg 2 (q + (j - p)) else sg 2 j := fun j => by rw [e1, zcp_e]; simp only [true_and]
    have ns : sg1 1 2 = sg 1 2 := f1 1 2 (by decide)
    refine zG_run bkShe_lettersGo_29 (lv' := [(0, .ref 1), (1, .int p), (2, .int q)]) (st' := [.int ((sg1 1 2) - q), .int p, .ref 3, .int q, .ref 3]) (h' := zN sg1) (Ps := [zOb (zN sg1) 1 5 ∧ (zN sg1).2.2 1 1 = true, zOb (zN sg1) 1 5 ∧ (zN sg1).2.2 1 1 = true, zOb (zN sg1) 1 5]) rfl (zA ⟨zob_1, rfl⟩ (zA ⟨zob_1, rfl⟩ (zA zob_1 trivial))) ?_
    refine zs_acopy bdShe_lettersGo_45 lk5_42 (And.intro (by decide) (by decide)) (Nat.le_of_ble_eq_true rfl) (zcp_3_3 (sp := q) (dp := p) (n := (sg1 1 2) - q) (by lia) (by lia) (by lia) (by lia) (by lia) (by lia) (by lia)) ?_
    refine zG_nm (sg := zcp sg1 3 3 q p ((sg1 1 2) - q)) (fun sg2 e2 => ?_)
    have f2 : ∀ c j, c ≠ 2 → c ≠ 3 → sg2 c j = sg c j := fun c j h h3 => by rw [e2, zcp_e, if_neg (fun q => h3 q.1)]; exact f1 c j h
    have l2 : ∀ j, sg2 2 j = sg1 2 j := fun j => by rw [e2, zcp_e, if_neg (fun q => absurd q.1 (by decide))]
    have p2 : ∀ j, sg2 3 j = if p ≤ j ∧ j < p + (sg 1 2 - q) then sg 3 (q + (j - p)) else sg 3 j := fun j => by rw [e2, zcp_e, f1 1 2 (by decide), f1 3 _ (by decide), f1 3 _ (by decide)]; simp only [true_and]
    refine zG_run bkShe_lettersGo_48 (lv' := [(0, .ref 1), (1, .int p), (2, .int q)]) (st' := []) (h' := zN (zup sg2 1 2 ((sg2 1 2) - (q - p)))) (Ps := [zOb (zN sg2) 1 5, zOb (zN sg2) 1 5]) rfl (zA zob_1 (zA zob_1 trivial)) ?_
    refine zG_nm (sg := zup sg2 1 2 ((sg2 1 2) - (q - p))) (fun sg4 e4 => ?_)
    have f4 : ∀ c j, (c < 1 ∨ 4 ≤ c) → sg4 c j = sg c j := fun c j h => by rw [e4, zup_a (by omega)]; exact f2 c j (by omega) (by omega)
    have g4 : sg4 1 4 = sg 1 4 := by rw [e4, zup_i (by decide)]; exact f2 1 4 (by decide) (by decide)
    have h4 : sg4 1 6 = sg 1 6 := by rw [e4, zup_i (by decide)]; exact f2 1 6 (by decide) (by decide)
    have s4 : sg4 1 2 = sg 1 2 - (q - p) := by rw [e4, zup_s, f2 1 2 (by decide) (by decide)]
    have l4 : ∀ j, 0 ≤ j → j < sg 1 2 - (q - p) → sg4 2 j = lOut (sg 2) p q j := by
      intro j h5 h6
      rw [e4, zup_a (by decide), l2, l1]
      exact lOut_of p0 p1 q1 n1 h5 h6
    have q4 : ∀ j, 0 ≤ j → j < sg 1 2 - (q - p) → sg4 3 j = lOut (sg 3) p q j := by
      intro j h5 h6
      rw [e4, zup_a (by decide), p2]
      exact lOut_of p0 p1 q1 n1 h5 h6
    refine zG_run bkShe_lettersGo_60 (lv' := [(3, .int 0), (0, .ref 1), (1, .int p), (2, .int q)]) (st' := []) (h' := zN sg4) (Ps := []) rfl trivial ?_
    refine zG_pick (lv' := [(0, .ref 1), (1, .int p), (2, .int q), (3, .int 0)]) [1, 2, 3, 0] rfl ?_
    refine zlp2 (fun (k : Int32) (sg5 : zSig) => zG mShe_lettersGo 411 Q 62 [(0, .ref 1), (1, .int p), (2, .int q), (3, .int k)] [] (zN sg5)) (fun (k : Int32) (sg5 : zSig) => (0 ≤ k) ∧ (k ≤ sg 1 4) ∧ (iSp (fun s x => hSpG s x p q) sg4 sg5 k)) (fun (k : Int32) (sg5 : zSig) => zmu (sg 1 4) k) ?_ 0 sg4 ?_
    · intro k sg5 hk ihk
      obtain ⟨k0, k1, ki⟩ := hk
      have kg : sg5 1 4 = sg 1 4 := by rw [ki.1 1 4 (by decide)]; exact g4
      refine zb_icge (tgt := 87) bkShe_lettersGo_62 bdShe_lettersGo_67 (by decide) (lv' := [(0, .ref 1), (1, .int p), (2, .int q), (3, .int k)]) (st' := []) (h' := zN sg5) (x := k) (y := sg5 1 4) (Ps := [zOb (zN sg5) 1 5]) rfl (zA zob_1 trivial) (fun c2 => ?_) (fun c2 => ?_)
      · skip
        refine zG_run bkShe_lettersGo_87 (lv' := [(3, .int 0), (0, .ref 1), (1, .int p), (2, .int q)]) (st' := []) (h' := zN sg5) (Ps := []) rfl trivial ?_
        refine zG_pick (lv' := [(0, .ref 1), (1, .int p), (2, .int q), (3, .int 0)]) [1, 2, 3, 0] rfl ?_
        refine zlp2 (fun (q6 : Int32) (sg6 : zSig) => zG mShe_lettersGo 411 Q 89 [(0, .ref 1), (1, .int p), (2, .int q), (3, .int q6)] [] (zN sg6)) (fun (q6 : Int32) (sg6 : zSig) => (0 ≤ q6) ∧ (q6 ≤ sg 1 6) ∧ (iAn (fun s x => hAnG s x p q) sg5 sg6 q6)) (fun (q6 : Int32) (sg6 : zSig) => zmu (sg 1 6) q6) ?_ 0 sg5 ?_
        · intro q6 sg6 hm ihm
          obtain ⟨m0, m1, mi⟩ := hm
          have mg : sg6 1 6 = sg 1 6 := by rw [mi.1 1 6 (by decide), ki.1 1 6 (by decide)]; exact h4
          refine zb_icge (tgt := 114) bkShe_lettersGo_89 bdShe_lettersGo_94 (by decide) (lv' := [(0, .ref 1), (1, .int p), (2, .int q), (3, .int q6)]) (st' := []) (h' := zN sg6) (x := q6) (y := sg6 1 6) (Ps := [zOb (zN sg6) 1 5]) rfl (zA zob_1 trivial) (fun c3 => ?_) (fun c3 => ?_)
          · skip
            refine zb_vret bkShe_lettersGo_114 bdShe_lettersGo_114 rfl (h' := zN sg6) (Ps := []) rfl trivial rfl ?_
            refine hq _ _ ?_
            refine ⟨sg6, rfl, rfl, hShF_of (loc_SpG p q) (loc_AnG p q) f4 g4 h4 ki (by lia) g1 mi (by lia) a1, ?_, fun j h5 h6 => ?_, fun j h5 h6 => ?_⟩
            · rw [mi.1 1 2 (by decide), ki.1 1 2 (by decide)]; exact s4
            · rw [mi.1 2 j (by decide), ki.1 2 j (by decide)]; exact l4 j h5 h6
            · rw [mi.1 3 j (by decide), ki.1 3 j (by decide)]; exact q4 j h5 h6
          · skip
            refine zG_run bkShe_lettersGo_97 (lv' := [(0, .ref 1), (1, .int p), (2, .int q), (3, .int q6)]) (st' := [.int q, .int p, .ref (zel 5 q6)]) (h' := zN sg6) (Ps := [zOb (zN sg6) 1 5 ∧ (zN sg6).2.2 1 5 = true, zInR (zN sg6) 5 q6]) rfl (zA ⟨zob_1, rfl⟩ (zA (zinR_5 (i := q6) (by lia) (by lia)) trivial)) ?_
            refine zG_callv (a := zel 5 q6) (c := 1) (As := [.int p, .int q]) (rest := []) (N2 := 411) bdShe_lettersGo_105 okAnc_lettersGo lk5_114 (And.intro (by decide) (by decide)) (by decide) rfl rfl rfl (Nat.le_of_ble_eq_true rfl) (Nat.le_of_ble_eq_true rfl) (Nat.le_refl 411) (Nat.le_refl 411) (zel_ob5 (i := q6) (by lia) (by lia)) (cAnc_lettersGo (zel_ob5 (i := q6) (by lia) (by lia))) ?_
            rintro rr h' ⟨rfl, rfl⟩ -
            refine zG_run bkShe_lettersGo_108 (lv' := [(3, .int (q6 + 1)), (0, .ref 1), (1, .int p), (2, .int q)]) (st' := []) (h' := zN (hAnG sg6 (zel 5 q6) p q)) (Ps := []) rfl trivial ?_
            refine zG_pick (lv' := [(0, .ref 1), (1, .int p), (2, .int q), (3, .int (q6 + 1))]) [1, 2, 3, 0] rfl ?_
            refine ihm (q6 + 1) (hAnG sg6 (zel 5 q6) p q) ?_ ?_
            · refine ⟨?_, ?_, ?_⟩
              · lia
              · lia
              · exact iAn_s (loc_AnG p q) mi m0 (by lia)
            · exact zmu_up (by lia)
        · refine ⟨?_, ?_, ?_⟩
          · lia
          · lia
          · exact iAn_0
      · skip
        refine zG_run bkShe_lettersGo_70 (lv' := [(0, .ref 1), (1, .int p), (2, .int q), (3, .int k)]) (st' := [.int q, .int p, .ref (zel 4 k)]) (h' := zN sg5) (Ps := [zOb (zN sg5) 1 5 ∧ (zN sg5).2.2 1 3 = true, zInR (zN sg5) 4 k]) rfl (zA ⟨zob_1, rfl⟩ (zA (zinR_4 (i := k) (by lia) (by lia)) trivial)) ?_
        refine zG_callv (a := zel 4 k) (c := 6) (As := [.int p, .int q]) (rest := []) (N2 := 411) bdShe_lettersGo_78 okSpa_lettersGo lk5_111 (And.intro (by decide) (by decide)) (by decide) rfl rfl rfl (Nat.le_of_ble_eq_true rfl) (Nat.le_of_ble_eq_true rfl) (Nat.le_refl 411) (Nat.le_refl 411) (zel_ob4 (i := k) (by lia) (by lia)) (cSpa_lettersGo (zel_ob4 (i := k) (by lia) (by lia))) ?_
        rintro rr h' ⟨rfl, rfl⟩ -
        refine zG_run bkShe_lettersGo_81 (lv' := [(3, .int (k + 1)), (0, .ref 1), (1, .int p), (2, .int q)]) (st' := []) (h' := zN (hSpG sg5 (zel 4 k) p q)) (Ps := []) rfl trivial ?_
        refine zG_pick (lv' := [(0, .ref 1), (1, .int p), (2, .int q), (3, .int (k + 1))]) [1, 2, 3, 0] rfl ?_
        refine ihk (k + 1) (hSpG sg5 (zel 4 k) p q) ?_ ?_
        · refine ⟨?_, ?_, ?_⟩
          · lia
          · lia
          · exact iSp_s (loc_SpG p q) ki k0 (by lia)
        · exact zmu_up (by lia)
    · refine ⟨?_, ?_, ?_⟩
      · lia
      · lia
      · exact iSp_0
  · skip
    refine zb_vret bkShe_lettersGo_9 bdShe_lettersGo_9 rfl (h' := zN sg) (Ps := []) rfl trivial rfl ?_
    refine hq _ _ ?_
    exfalso; lia
theorem cShe_lettersGo {sg : zSig} {p q : Int32} (n0 : 0 ≤ sg 1 2) (n1 : sg 1 2 ≤ 200) (g0 : 0 ≤ sg 1 4) (g1 : sg 1 4 ≤ 16) (a0 : 0 ≤ sg 1 6) (a1 : sg 1 6 ≤ 12) (p0 : 0 ≤ p) (p1 : p < q) (q1 : q ≤ sg 1 2) : zG mShe_lettersGo 411 (fun rr h' => ∃ sg', rr = none ∧ h' = zN sg' ∧ hShF sg sg' (fun s x => hSpG s x p q) (fun s x => hAnG s x p q) ∧ sg' 1 2 = sg 1 2 - (q - p) ∧ (∀ j, 0 ≤ j → j < sg 1 2 - (q - p) → sg' 2 j = lOut (sg 2) p q j) ∧ ∀ j, 0 ≤ j → j < sg 1 2 - (q - p) → sg' 3 j = lOut (sg 3) p q j) 0 [(0, .ref 1), (1, .int p), (2, .int q)] [] (zN sg) := lShe_lettersGo n0 n1 g0 g1 a0 a1 p0 p1 q1 (fun _ _ q => q)
