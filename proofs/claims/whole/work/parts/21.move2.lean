/-! letters moved; a sheet begun anew; the most spans: printed by wip/whole/p21.py -/
theorem lMv_of1 {S : Int32 → Int32} {p q r j : Int32} (p1 : p < q) (q1 : q ≤ 200) (r0 : 0 ≤ r) (r1 : r < p) (j0 : 0 ≤ j) (j1 : j < 200) : (if r ≤ j ∧ j < r + (q - p) then S (p + (j - r)) else if r + (q - p) ≤ j ∧ j < q then S (j - (q - p)) else S j) = lMv S p q (pLd p q r) j := by
  have et : pLd p q r = r := by unfold pLd; rw [if_neg (by lia)]
  rw [et]
  obtain ⟨d, rfl⟩ : ∃ d, q = p + d := ⟨q - p, by grind⟩
  have e1 : p + d - p = d := (zr1 p d).symm
  have d0 : 0 < d ∧ d ≤ 200 := by lia
  unfold lMv lOut
  rw [e1]
  by_cases h1 : r ≤ j ∧ j < r + d
  · rw [if_pos h1, if_pos h1]
  · rw [if_neg h1, if_neg h1]
    by_cases h2 : j < r
    · rw [if_pos h2, if_neg (by lia), if_pos (by lia)]
    · rw [if_neg h2]
      by_cases h3 : j < p + d
      · rw [if_pos (by lia), if_pos (by lia)]
      · rw [if_neg (by lia), if_neg (by lia)]
        congr 1
        clear h1 h2 h3 d0 e1 et p1 q1 r0 r1 j0 j1
        grind
theorem lMv_of2 {S : Int32 → Int32} {p q r j : Int32} (p0 : 0 ≤ p) (p1 : p < q) (r0 : q < r) (r1 : r ≤ 200) (j0 : 0 ≤ j) (j1 : j < 200) : (if p ≤ j ∧ j < p + (r - q) then S (q + (j - p)) else if p + (r - q) ≤ j ∧ j < r then S (j - (r - q)) else S j) = lMv S p q (pLd p q r) j := by
  have et : pLd p q r = r - (q - p) := by unfold pLd; rw [if_pos (by lia)]
  rw [et]
  obtain ⟨d, rfl⟩ : ∃ d, q = p + d := ⟨q - p, by grind⟩
  have e1 : p + d - p = d := (zr1 p d).symm
  have d0 : 0 < d ∧ d ≤ 200 := by lia
  obtain ⟨u, rfl⟩ : ∃ u, r = u + d := ⟨r - d, by grind⟩
  have e2 : u + d - d = u := by grind
  have e3 : p + (u + d - (p + d)) = u := by grind
  have u0 : p < u ∧ u ≤ 200 := by lia
  unfold lMv lOut
  rw [e1, e2, e3]
  clear et e1 e2 e3 p1 r0
  by_cases h1 : j < u
  · by_cases h2 : j < p
    · rw [if_neg (by lia : ¬ (p ≤ j ∧ j < u)), if_neg (by lia : ¬ (u ≤ j ∧ j < u + d)), if_neg (by lia : ¬ (u ≤ j ∧ j < u + d)), if_pos h1, if_pos h2]
    · rw [if_pos (by lia : p ≤ j ∧ j < u), if_neg (by lia : ¬ (u ≤ j ∧ j < u + d)), if_pos h1, if_neg h2]
      congr 1
      clear h1 h2 d0 u0 p0 r1 j0 j1
      grind
  · by_cases h2 : j < u + d
    · rw [if_neg (by lia : ¬ (p ≤ j ∧ j < u)), if_pos (by lia : u ≤ j ∧ j < u + d), if_pos (by lia : u ≤ j ∧ j < u + d)]
      congr 1
      clear h1 h2 d0 u0 p0 r1 j0 j1
      grind
    · rw [if_neg (by lia : ¬ (p ≤ j ∧ j < u)), if_neg (by lia : ¬ (u ≤ j ∧ j < u + d)), if_neg (by lia : ¬ (u ≤ j ∧ j < u + d)), if_neg h1, if_neg (by lia : ¬ j - d < p)]
      congr 1
      clear h1 h2 d0 u0 p0 r1 j0 j1
      grind
theorem bkShe_lettersMove_48 : zBk mShe_lettersMove 48 [(0, 0, 0, 0, 0), (2, 4, 0, 0, 0), (0, 0, 0, 0, 0), (2, 5, 0, 0, 0)] = some 54 := by decide +kernel
theorem bkShe_lettersMove_54 : zBk mShe_lettersMove 54 [(1, 5, 0, 0, 0), (1, 0, 1, 0, 0), (5, 5, 4, 0, 4)] = some 60 := by decide +kernel
theorem bkShe_lettersMove_101 : zBk mShe_lettersMove 101 [(0, 0, 0, 0, 0), (2, 5, 0, 0, 0)] = some 104 := by decide +kernel
theorem bkShe_lettersMove_104 : zBk mShe_lettersMove 104 [(1, 5, 0, 0, 0), (1, 0, 1, 0, 0), (5, 5, 6, 0, 6)] = some 110 := by decide +kernel
theorem bkShe_lettersMove_155 : zBk mShe_lettersMove 155 [(1, 4, 0, 0, 0)] = some 157 := by decide +kernel
theorem bkShe_lettersMove_113 : zBk mShe_lettersMove 113 [(1, 0, 1, 0, 0), (5, 5, 5, 4, 5), (1, 5, 0, 0, 0), (9, 0, 0, 0, 0), (1, 0, 1, 0, 0), (5, 5, 5, 4, 5), (1, 5, 0, 0, 0), (9, 0, 0, 0, 0), (5, 1, 1, 0, 1), (1, 0, 1, 0, 0), (5, 5, 5, 4, 5), (1, 5, 0, 0, 0), (9, 0, 0, 0, 0), (5, 1, 2, 0, 2), (1, 1, 0, 0, 0), (1, 2, 0, 0, 0), (1, 3, 0, 0, 0)] = some 143 := by decide +kernel
theorem bkShe_lettersMove_146 : zBk mShe_lettersMove 146 [(6, 1, 1, 0, 1), (3, 5, 0, 0, 1), (22, 104, 0, 0, 0)] = some 104 := by decide +kernel
theorem bkShe_lettersMove_63 : zBk mShe_lettersMove 63 [(1, 0, 1, 0, 0), (5, 5, 3, 3, 3), (1, 5, 0, 0, 0), (9, 0, 0, 0, 0), (5, 6, 0, 0, 0)] = some 73 := by decide +kernel
theorem bkShe_lettersMove_95 : zBk mShe_lettersMove 95 [(3, 5, 0, 0, 1), (22, 54, 0, 0, 0)] = some 54 := by decide +kernel
theorem bkShe_lettersMove_76 : zBk mShe_lettersMove 76 [(1, 0, 1, 0, 0), (5, 5, 3, 3, 3), (1, 5, 0, 0, 0), (9, 0, 0, 0, 0), (1, 1, 0, 0, 0), (1, 2, 0, 0, 0), (1, 3, 0, 0, 0)] = some 86 := by decide +kernel
theorem bkShe_lettersMove_89 : zBk mShe_lettersMove 89 [] = some 89 := by decide +kernel
theorem bkShe_lettersMove_92 : zBk mShe_lettersMove 92 [(3, 4, 0, 0, 1), (3, 5, 0, 0, 1), (22, 54, 0, 0, 0)] = some 54 := by decide +kernel
theorem bkShe_lettersMove_0 : zBk mShe_lettersMove 0 [(1, 3, 0, 0, 0), (1, 1, 0, 0, 0)] = some 2 := by decide +kernel
theorem bkShe_lettersMove_28 : zBk mShe_lettersMove 28 [(1, 0, 1, 0, 0), (5, 5, 0, 1, 0), (1, 1, 0, 0, 0), (1, 2, 0, 0, 0), (1, 3, 0, 0, 0)] = some 35 := by decide +kernel
theorem bkShe_lettersMove_38 : zBk mShe_lettersMove 38 [(1, 0, 1, 0, 0), (5, 5, 1, 2, 1), (1, 1, 0, 0, 0), (1, 2, 0, 0, 0), (1, 3, 0, 0, 0)] = some 45 := by decide +kernel
theorem bkShe_lettersMove_5 : zBk mShe_lettersMove 5 [(1, 0, 1, 0, 0), (5, 5, 0, 1, 0), (1, 3, 0, 0, 0), (1, 1, 0, 0, 0), (1, 2, 0, 0, 0)] = some 12 := by decide +kernel
theorem bkShe_lettersMove_15 : zBk mShe_lettersMove 15 [(1, 0, 1, 0, 0), (5, 5, 1, 2, 1), (1, 3, 0, 0, 0), (1, 1, 0, 0, 0), (1, 2, 0, 0, 0)] = some 22 := by decide +kernel
theorem bkShe_lettersMove_25 : zBk mShe_lettersMove 25 [(22, 48, 0, 0, 0)] = some 48 := by decide +kernel
theorem bdShe_lettersMove_2 : decode mShe_lettersMove.2.2.1 2 = .ok (.if_icmp .ge 26, 3) := by decide +kernel
theorem bdShe_lettersMove_12 : decode mShe_lettersMove.2.2.1 12 = .ok (.invokestatic 115, 3) := by decide +kernel
theorem bdShe_lettersMove_22 : decode mShe_lettersMove.2.2.1 22 = .ok (.invokestatic 115, 3) := by decide +kernel
theorem bdShe_lettersMove_35 : decode mShe_lettersMove.2.2.1 35 = .ok (.invokestatic 115, 3) := by decide +kernel
theorem bdShe_lettersMove_45 : decode mShe_lettersMove.2.2.1 45 = .ok (.invokestatic 115, 3) := by decide +kernel
theorem bdShe_lettersMove_60 : decode mShe_lettersMove.2.2.1 60 = .ok (.if_icmp .ge 41, 3) := by decide +kernel
theorem bdShe_lettersMove_73 : decode mShe_lettersMove.2.2.1 73 = .ok (.ifCond .eq 22, 3) := by decide +kernel
theorem bdShe_lettersMove_86 : decode mShe_lettersMove.2.2.1 86 = .ok (.invokevirtual 119, 3) := by decide +kernel
theorem bdShe_lettersMove_89 : decode mShe_lettersMove.2.2.1 89 = .ok (.ifCond .eq 6, 3) := by decide +kernel
theorem bdShe_lettersMove_110 : decode mShe_lettersMove.2.2.1 110 = .ok (.if_icmp .ge 45, 3) := by decide +kernel
theorem bdShe_lettersMove_143 : decode mShe_lettersMove.2.2.1 143 = .ok (.invokestatic 123, 3) := by decide +kernel
theorem bdShe_lettersMove_157 : decode mShe_lettersMove.2.2.1 157 = .ok (.ireturn, 1) := by decide +kernel
theorem lShe_lettersMove {sg : zSig} {p q r : Int32} (n0 : 0 ≤ sg 1 2) (n1 : sg 1 2 ≤ 200) (g0 : 0 ≤ sg 1 4) (g1 : sg 1 4 ≤ 16) (a0 : 0 ≤ sg 1 6) (a1 : sg 1 6 ≤ 12) (p0 : 0 ≤ p) (p1 : p < q) (q1 : q ≤ sg 1 2) (r0 : 0 ≤ r) (r1 : r ≤ sg 1 2) (r2 : r < p ∨ q < r) {Q : Option Value → zHp → Prop} (hq : ∀ rr h', (∃ v sg', rr = some (.int v) ∧ h' = zN sg' ∧ v = zit (nMv sg p q) 0 (sg 1 4) ∧ hShF sg sg' (fun s x => hSpMs s x p q r) (fun s x => hAnM s x p q r) ∧ sg' 1 2 = sg 1 2 ∧ (∀ j, 0 ≤ j → j < sg 1 2 → sg' 2 j = lMv (sg 2) p q (pLd p q r) j) ∧ ∀ j, 0 ≤ j → j < sg 1 2 → sg' 3 j = lMv (sg 3) p q (pLd p q r) j) → Q rr h') : zG mShe_lettersMove 411 Q 0 [(0, .ref 1), (1, .int p), (2, .int q), (3, .int r)] [] (zN sg) := by
  have K : ∀ (sg4 : zSig), (∀ c j, (c < 1 ∨ 4 ≤ c ∨ c = 1) → sg4 c j = sg c j) → (∀ c j, c ≠ 2 → c ≠ 3 → sg4 c j = sg c j) → (∀ j, 0 ≤ j → j < sg 1 2 → sg4 2 j = lMv (sg 2) p q (pLd p q r) j) → (∀ j, 0 ≤ j → j < sg 1 2 → sg4 3 j = lMv (sg 3) p q (pLd p q r) j) → zG mShe_lettersMove 411 Q 48 [(0, .ref 1), (1, .int p), (2, .int q), (3, .int r)] [] (zN sg4) := by
    intro sg4 f4 f23 l4 q4
    refine zG_run bkShe_lettersMove_48 (lv' := [(5, .int 0), (4, .int 0), (0, .ref 1), (1, .int p), (2, .int q), (3, .int r)]) (st' := []) (h' := zN sg4) (Ps := []) rfl trivial ?_
    refine zG_pick (lv' := [(0, .ref 1), (1, .int p), (2, .int q), (3, .int r), (4, .int 0), (5, .int 0)]) [2, 3, 4, 5, 1, 0] rfl ?_
    refine zlp3 (fun (n : Int32) (k : Int32) (sg5 : zSig) => zG mShe_lettersMove 411 Q 54 [(0, .ref 1), (1, .int p), (2, .int q), (3, .int r), (4, .int n), (5, .int k)] [] (zN sg5)) (fun (n : Int32) (k : Int32) (sg5 : zSig) => (0 ≤ k) ∧ (k ≤ sg 1 4) ∧ (n = zit (nMv sg p q) 0 k) ∧ (iSp (fun s x => hSpMs s x p q r) sg4 sg5 k)) (fun (n : Int32) (k : Int32) (sg5 : zSig) => zmu (sg 1 4) k) ?_ 0 0 sg4 ?_
    · intro n k sg5 hk ihk
      obtain ⟨k0, k1, kn, ki⟩ := hk
      have kg : sg5 1 4 = sg 1 4 := by rw [ki.1 1 4 (by decide)]; exact f4 1 4 (by decide)
      refine zb_icge (tgt := 101) bkShe_lettersMove_54 bdShe_lettersMove_60 (by decide) (lv' := [(0, .ref 1), (1, .int p), (2, .int q), (3, .int r), (4, .int n), (5, .int k)]) (st' := []) (h' := zN sg5) (x := k) (y := sg5 1 4) (Ps := [zOb (zN sg5) 1 5]) rfl (zA zob_1 trivial) (fun c1 => ?_) (fun c1 => ?_)
      · skip
        refine zG_run bkShe_lettersMove_101 (lv' := [(5, .int 0), (0, .ref 1), (1, .int p), (2, .int q), (3, .int r), (4, .int n)]) (st' := []) (h' := zN sg5) (Ps := []) rfl trivial ?_
        refine zG_pick (lv' := [(0, .ref 1), (1, .int p), (2, .int q), (3, .int r), (4, .int n), (5, .int 0)]) [1, 2, 3, 4, 5, 0] rfl ?_
        refine zlp2 (fun (q6 : Int32) (sg6 : zSig) => zG mShe_lettersMove 411 Q 104 [(0, .ref 1), (1, .int p), (2, .int q), (3, .int r), (4, .int n), (5, .int q6)] [] (zN sg6)) (fun (q6 : Int32) (sg6 : zSig) => (0 ≤ q6) ∧ (q6 ≤ sg 1 6) ∧ (iAn (fun s x => hAnM s x p q r) sg5 sg6 q6)) (fun (q6 : Int32) (sg6 : zSig) => zmu (sg 1 6) q6) ?_ 0 sg5 ?_
        · intro q6 sg6 hm ihm
          obtain ⟨m0, m1, mi⟩ := hm
          have mg : sg6 1 6 = sg 1 6 := by rw [mi.1 1 6 (by decide), ki.1 1 6 (by decide)]; exact f4 1 6 (by decide)
          refine zb_icge (tgt := 155) bkShe_lettersMove_104 bdShe_lettersMove_110 (by decide) (lv' := [(0, .ref 1), (1, .int p), (2, .int q), (3, .int r), (4, .int n), (5, .int q6)]) (st' := []) (h' := zN sg6) (x := q6) (y := sg6 1 6) (Ps := [zOb (zN sg6) 1 5]) rfl (zA zob_1 trivial) (fun c2 => ?_) (fun c2 => ?_)
          · skip
            refine zb_iret bkShe_lettersMove_155 bdShe_lettersMove_157 rfl (x := n) (h' := zN sg6) (Ps := []) rfl trivial rfl ?_
            refine hq _ _ ?_
            refine ⟨_, sg6, rfl, rfl, ?_, hShF_of (loc_SpM p q r) (loc_AnM p q r) (fun c j h => f23 c j (by omega) (by omega)) (f23 1 4 (by decide) (by decide)) (f23 1 6 (by decide) (by decide)) ki (by lia) g1 mi (by lia) a1, ?_, fun j h5 h6 => ?_, fun j h5 h6 => ?_⟩
            · rw [kn, show k = sg 1 4 by lia]
            · rw [mi.1 1 2 (by decide), ki.1 1 2 (by decide)]; exact f23 1 2 (by decide) (by decide)
            · rw [mi.1 2 j (by decide), ki.1 2 j (by decide)]; exact l4 j h5 h6
            · rw [mi.1 3 j (by decide), ki.1 3 j (by decide)]; exact q4 j h5 h6
          · skip
            refine zG_run bkShe_lettersMove_113 (lv' := [(0, .ref 1), (1, .int p), (2, .int q), (3, .int r), (4, .int n), (5, .int q6)]) (st' := [.int r, .int q, .int p, .int (sg6 (zel 5 q6) 2), .int (sg6 (zel 5 q6) 1), .ref (zel 5 q6)]) (h' := zN sg6) (Ps := [zOb (zN sg6) 1 5 ∧ (zN sg6).2.2 1 5 = true, zInR (zN sg6) 5 q6, zOb (zN sg6) 1 5 ∧ (zN sg6).2.2 1 5 = true, zInR (zN sg6) 5 q6, zOb (zN sg6) (zel 5 q6) 1, zOb (zN sg6) 1 5 ∧ (zN sg6).2.2 1 5 = true, zInR (zN sg6) 5 q6, zOb (zN sg6) (zel 5 q6) 1]) rfl (zA ⟨zob_1, rfl⟩ (zA (zinR_5 (i := q6) (by lia) (by lia)) (zA ⟨zob_1, rfl⟩ (zA (zinR_5 (i := q6) (by lia) (by lia)) (zA (zel_ob5 (i := q6) (by lia) (by lia)) (zA ⟨zob_1, rfl⟩ (zA (zinR_5 (i := q6) (by lia) (by lia)) (zA (zel_ob5 (i := q6) (by lia) (by lia)) trivial)))))))) ?_
            refine zG_calls (As := [.int (sg6 (zel 5 q6) 1), .int (sg6 (zel 5 q6) 2), .int p, .int q, .int r]) (rest := [.ref (zel 5 q6)]) (N2 := 411) bdShe_lettersMove_143 okPla_afterMove lk5_123 (And.intro (by decide) (by decide)) rfl rfl (Nat.le_of_ble_eq_true rfl) (Nat.le_of_ble_eq_true rfl) (Nat.le_refl 411) (Nat.le_refl 411) cPla_afterMove ?_
            rintro rr h' ⟨rfl, rfl⟩ -
            refine zG_run bkShe_lettersMove_146 (lv' := [(5, .int (q6 + 1)), (0, .ref 1), (1, .int p), (2, .int q), (3, .int r), (4, .int n)]) (st' := []) (h' := zN (zup sg6 (zel 5 q6) 1 (pMv (sg6 (zel 5 q6) 1) (sg6 (zel 5 q6) 2) p q r))) (Ps := [zOb (zN sg6) (zel 5 q6) 1]) rfl (zA (zel_ob5 (i := q6) (by lia) (by lia)) trivial) ?_
            refine zG_pick (lv' := [(0, .ref 1), (1, .int p), (2, .int q), (3, .int r), (4, .int n), (5, .int (q6 + 1))]) [1, 2, 3, 4, 5, 0] rfl ?_
            refine ihm (q6 + 1) (zup sg6 (zel 5 q6) 1 (pMv (sg6 (zel 5 q6) 1) (sg6 (zel 5 q6) 2) p q r)) ?_ ?_
            · refine ⟨?_, ?_, ?_⟩
              · lia
              · lia
              · exact iAn_s (loc_AnM p q r) mi m0 (by lia)
            · exact zmu_up (by lia)
        · refine ⟨?_, ?_, ?_⟩
          · lia
          · lia
          · exact iAn_0
      · skip
        refine zb_ifeq (tgt := 95) bkShe_lettersMove_63 bdShe_lettersMove_73 (by decide) (lv' := [(0, .ref 1), (1, .int p), (2, .int q), (3, .int r), (4, .int n), (5, .int k)]) (st' := []) (h' := zN sg5) (x := sg5 (zel 4 k) 0) (Ps := [zOb (zN sg5) 1 5 ∧ (zN sg5).2.2 1 3 = true, zInR (zN sg5) 4 k, zOb (zN sg5) (zel 4 k) 6]) rfl (zA ⟨zob_1, rfl⟩ (zA (zinR_4 (i := k) (by lia) (by lia)) (zA (zel_ob4 (i := k) (by lia) (by lia)) trivial))) (fun c3 => ?_) (fun c3 => ?_)
        · skip
          refine zG_run bkShe_lettersMove_95 (lv' := [(5, .int (k + 1)), (0, .ref 1), (1, .int p), (2, .int q), (3, .int r), (4, .int n)]) (st' := []) (h' := zN sg5) (Ps := []) rfl trivial ?_
          refine zG_pick (lv' := [(0, .ref 1), (1, .int p), (2, .int q), (3, .int r), (4, .int n), (5, .int (k + 1))]) [1, 2, 3, 4, 5, 0] rfl ?_
          refine ihk n (k + 1) sg5 ?_ ?_
          · refine ⟨?_, ?_, ?_, ?_⟩
            · lia
            · lia
            · rw [zit_s _ _ k0 (by lia : k < sg 1 4)]; have hz := zel4_rng k0 (by lia : k < 16); have x0 := ki.2 k 0 k0 (by lia); have x1 := ki.2 k 1 k0 (by lia); have x2 := ki.2 k 2 k0 (by lia); rw [if_neg (by lia), f4 _ _ (by omega)] at x0 x1 x2; clear ki ihk hq f4 f23 l4 q4; grind [nMv]
            · have st := iSp_s (loc_SpM p q r) ki k0 (by lia); have es : hSpMs sg5 (zel 4 k) p q r = sg5 := by unfold hSpMs; rw [if_pos (by assumption)]
              simp only [es] at st; exact st
          · exact zmu_up (by lia)
        · skip
          refine zG_run bkShe_lettersMove_76 (lv' := [(0, .ref 1), (1, .int p), (2, .int q), (3, .int r), (4, .int n), (5, .int k)]) (st' := [.int r, .int q, .int p, .ref (zel 4 k)]) (h' := zN sg5) (Ps := [zOb (zN sg5) 1 5 ∧ (zN sg5).2.2 1 3 = true, zInR (zN sg5) 4 k]) rfl (zA ⟨zob_1, rfl⟩ (zA (zinR_4 (i := k) (by lia) (by lia)) trivial)) ?_
          refine zG_callv (a := zel 4 k) (c := 6) (As := [.int p, .int q, .int r]) (rest := []) (N2 := 411) bdShe_lettersMove_86 okSpa_lettersMove lk5_119 (And.intro (by decide) (by decide)) (by decide) rfl rfl rfl (Nat.le_of_ble_eq_true rfl) (Nat.le_of_ble_eq_true rfl) (Nat.le_refl 411) (Nat.le_refl 411) (zel_ob4 (i := k) (by lia) (by lia)) (cSpa_lettersMove (zel_ob4 (i := k) (by lia) (by lia))) ?_
          rintro rr h' ⟨rfl, rfl⟩ -
          refine zb_ifeq (tgt := 95) bkShe_lettersMove_89 bdShe_lettersMove_89 (by decide) (lv' := [(0, .ref 1), (1, .int p), (2, .int q), (3, .int r), (4, .int n), (5, .int k)]) (st' := []) (h' := zN (hSpM sg5 (zel 4 k) p q r)) (x := if p ≤ sg5 (zel 4 k) 1 ∧ sg5 (zel 4 k) 2 ≤ q then 1 else 0) (Ps := []) rfl trivial (fun c4 => ?_) (fun c4 => ?_)
          · skip
            refine zG_run bkShe_lettersMove_95 (lv' := [(5, .int (k + 1)), (0, .ref 1), (1, .int p), (2, .int q), (3, .int r), (4, .int n)]) (st' := []) (h' := zN (hSpM sg5 (zel 4 k) p q r)) (Ps := []) rfl trivial ?_
            refine zG_pick (lv' := [(0, .ref 1), (1, .int p), (2, .int q), (3, .int r), (4, .int n), (5, .int (k + 1))]) [1, 2, 3, 4, 5, 0] rfl ?_
            refine ihk n (k + 1) (hSpM sg5 (zel 4 k) p q r) ?_ ?_
            · refine ⟨?_, ?_, ?_, ?_⟩
              · lia
              · lia
              · rw [zit_s _ _ k0 (by lia : k < sg 1 4)]; have hz := zel4_rng k0 (by lia : k < 16); have x0 := ki.2 k 0 k0 (by lia); have x1 := ki.2 k 1 k0 (by lia); have x2 := ki.2 k 2 k0 (by lia); rw [if_neg (by lia), f4 _ _ (by omega)] at x0 x1 x2; clear ki ihk hq f4 f23 l4 q4; grind [nMv]
              · have st := iSp_s (loc_SpM p q r) ki k0 (by lia); have es : hSpMs sg5 (zel 4 k) p q r = hSpM sg5 (zel 4 k) p q r := by unfold hSpMs; rw [if_neg (by assumption)]
                simp only [es] at st; exact st
            · exact zmu_up (by lia)
          · skip
            refine zG_run bkShe_lettersMove_92 (lv' := [(5, .int (k + 1)), (4, .int (n + 1)), (0, .ref 1), (1, .int p), (2, .int q), (3, .int r)]) (st' := []) (h' := zN (hSpM sg5 (zel 4 k) p q r)) (Ps := []) rfl trivial ?_
            refine zG_pick (lv' := [(0, .ref 1), (1, .int p), (2, .int q), (3, .int r), (4, .int (n + 1)), (5, .int (k + 1))]) [2, 3, 4, 5, 1, 0] rfl ?_
            refine ihk (n + 1) (k + 1) (hSpM sg5 (zel 4 k) p q r) ?_ ?_
            · refine ⟨?_, ?_, ?_, ?_⟩
              · lia
              · lia
              · rw [zit_s _ _ k0 (by lia : k < sg 1 4)]; have hz := zel4_rng k0 (by lia : k < 16); have x0 := ki.2 k 0 k0 (by lia); have x1 := ki.2 k 1 k0 (by lia); have x2 := ki.2 k 2 k0 (by lia); rw [if_neg (by lia), f4 _ _ (by omega)] at x0 x1 x2; clear ki ihk hq f4 f23 l4 q4; grind [nMv]
              · have st := iSp_s (loc_SpM p q r) ki k0 (by lia); have es : hSpMs sg5 (zel 4 k) p q r = hSpM sg5 (zel 4 k) p q r := by unfold hSpMs; rw [if_neg (by assumption)]
                simp only [es] at st; exact st
            · exact zmu_up (by lia)
    · refine ⟨?_, ?_, ?_, ?_⟩
      · lia
      · lia
      · rfl
      · exact iSp_0
  refine zb_icge (tgt := 28) bkShe_lettersMove_0 bdShe_lettersMove_2 (by decide) (lv' := [(0, .ref 1), (1, .int p), (2, .int q), (3, .int r)]) (st' := []) (h' := zN sg) (x := r) (y := p) (Ps := []) rfl trivial (fun c5 => ?_) (fun c5 => ?_)
  · skip
    refine zG_run bkShe_lettersMove_28 (lv' := [(0, .ref 1), (1, .int p), (2, .int q), (3, .int r)]) (st' := [.int r, .int q, .int p, .ref 2]) (h' := zN sg) (Ps := [zOb (zN sg) 1 5 ∧ (zN sg).2.2 1 0 = true]) rfl (zA ⟨zob_1, rfl⟩ trivial) ?_
    refine zG_calls (As := [.ref 2, .int p, .int q, .int r]) (rest := []) (N2 := 411) bdShe_lettersMove_35 okShe_changeSides lk5_115 (And.intro (by decide) (by decide)) rfl rfl (Nat.le_of_ble_eq_true rfl) (Nat.le_of_ble_eq_true rfl) (Nat.le_refl 411) (Nat.le_refl 411) (cShe_changeSides_2 (lo := p) (mi := q) (hi := r) (by lia) (by lia) (by lia) (by lia)) ?_
    rintro rr h' ⟨sg7, rfl, rfl, fy6, ty6⟩ -
    refine zG_run bkShe_lettersMove_38 (lv' := [(0, .ref 1), (1, .int p), (2, .int q), (3, .int r)]) (st' := [.int r, .int q, .int p, .ref 3]) (h' := zN sg7) (Ps := [zOb (zN sg7) 1 5 ∧ (zN sg7).2.2 1 1 = true]) rfl (zA ⟨zob_1, rfl⟩ trivial) ?_
    refine zG_calls (As := [.ref 3, .int p, .int q, .int r]) (rest := []) (N2 := 411) bdShe_lettersMove_45 okShe_changeSides lk5_115 (And.intro (by decide) (by decide)) rfl rfl (Nat.le_of_ble_eq_true rfl) (Nat.le_of_ble_eq_true rfl) (Nat.le_refl 411) (Nat.le_refl 411) (cShe_changeSides_3 (lo := p) (mi := q) (hi := r) (by lia) (by lia) (by lia) (by lia)) ?_
    rintro rr h' ⟨sg10, rfl, rfl, fy9, ty9⟩ -
    refine K _ ?_ ?_ ?_ ?_
    · intro c j hc; rw [fy9 c j (by omega), fy6 c j (by omega)]
    · intro c j h2 h3; rw [fy9 c j h3, fy6 c j h2]
    · intro j h5 h6; rw [fy9 2 j (by decide), ty6 j]; exact lMv_of2 p0 p1 (by lia) (by lia) h5 (by lia)
    · intro j h5 h6; rw [ty9 j, fy6 3 _ (by decide), fy6 3 _ (by decide), fy6 3 _ (by decide)]; exact lMv_of2 p0 p1 (by lia) (by lia) h5 (by lia)
  · skip
    refine zG_run bkShe_lettersMove_5 (lv' := [(0, .ref 1), (1, .int p), (2, .int q), (3, .int r)]) (st' := [.int q, .int p, .int r, .ref 2]) (h' := zN sg) (Ps := [zOb (zN sg) 1 5 ∧ (zN sg).2.2 1 0 = true]) rfl (zA ⟨zob_1, rfl⟩ trivial) ?_
    refine zG_calls (As := [.ref 2, .int r, .int p, .int q]) (rest := []) (N2 := 411) bdShe_lettersMove_12 okShe_changeSides lk5_115 (And.intro (by decide) (by decide)) rfl rfl (Nat.le_of_ble_eq_true rfl) (Nat.le_of_ble_eq_true rfl) (Nat.le_refl 411) (Nat.le_refl 411) (cShe_changeSides_2 (lo := r) (mi := p) (hi := q) (by lia) (by lia) (by lia) (by lia)) ?_
    rintro rr h' ⟨sg13, rfl, rfl, fy12, ty12⟩ -
    refine zG_run bkShe_lettersMove_15 (lv' := [(0, .ref 1), (1, .int p), (2, .int q), (3, .int r)]) (st' := [.int q, .int p, .int r, .ref 3]) (h' := zN sg13) (Ps := [zOb (zN sg13) 1 5 ∧ (zN sg13).2.2 1 1 = true]) rfl (zA ⟨zob_1, rfl⟩ trivial) ?_
    refine zG_calls (As := [.ref 3, .int r, .int p, .int q]) (rest := []) (N2 := 411) bdShe_lettersMove_22 okShe_changeSides lk5_115 (And.intro (by decide) (by decide)) rfl rfl (Nat.le_of_ble_eq_true rfl) (Nat.le_of_ble_eq_true rfl) (Nat.le_refl 411) (Nat.le_refl 411) (cShe_changeSides_3 (lo := r) (mi := p) (hi := q) (by lia) (by lia) (by lia) (by lia)) ?_
    rintro rr h' ⟨sg16, rfl, rfl, fy15, ty15⟩ -
    refine zG_run bkShe_lettersMove_25 (lv' := [(0, .ref 1), (1, .int p), (2, .int q), (3, .int r)]) (st' := []) (h' := zN sg16) (Ps := []) rfl trivial ?_
    refine K _ ?_ ?_ ?_ ?_
    · intro c j hc; rw [fy15 c j (by omega), fy12 c j (by omega)]
    · intro c j h2 h3; rw [fy15 c j h3, fy12 c j h2]
    · intro j h5 h6; rw [fy15 2 j (by decide), ty12 j]; exact lMv_of1 p1 (by lia) r0 (by lia) h5 (by lia)
    · intro j h5 h6; rw [ty15 j, fy12 3 _ (by decide), fy12 3 _ (by decide), fy12 3 _ (by decide)]; exact lMv_of1 p1 (by lia) r0 (by lia) h5 (by lia)
theorem cShe_lettersMove {sg : zSig} {p q r : Int32} (n0 : 0 ≤ sg 1 2) (n1 : sg 1 2 ≤ 200) (g0 : 0 ≤ sg 1 4) (g1 : sg 1 4 ≤ 16) (a0 : 0 ≤ sg 1 6) (a1 : sg 1 6 ≤ 12) (p0 : 0 ≤ p) (p1 : p < q) (q1 : q ≤ sg 1 2) (r0 : 0 ≤ r) (r1 : r ≤ sg 1 2) (r2 : r < p ∨ q < r) : zG mShe_lettersMove 411 (fun rr h' => ∃ v sg', rr = some (.int v) ∧ h' = zN sg' ∧ v = zit (nMv sg p q) 0 (sg 1 4) ∧ hShF sg sg' (fun s x => hSpMs s x p q r) (fun s x => hAnM s x p q r) ∧ sg' 1 2 = sg 1 2 ∧ (∀ j, 0 ≤ j → j < sg 1 2 → sg' 2 j = lMv (sg 2) p q (pLd p q r) j) ∧ ∀ j, 0 ≤ j → j < sg 1 2 → sg' 3 j = lMv (sg 3) p q (pLd p q r) j) 0 [(0, .ref 1), (1, .int p), (2, .int q), (3, .int r)] [] (zN sg) := lShe_lettersMove n0 n1 g0 g1 a0 a1 p0 p1 q1 r0 r1 r2 (fun _ _ q => q)
theorem bkShe_startAnew_0 : zBk mShe_startAnew 0 [(1, 0, 1, 0, 0), (1, 1, 1, 0, 0), (5, 4, 2, 0, 2), (6, 5, 2, 0, 2)] = some 8 := by decide +kernel
theorem bkShe_startAnew_8 : zBk mShe_startAnew 8 [(1, 1, 1, 0, 0), (5, 4, 0, 1, 0), (0, 0, 0, 0, 0), (1, 0, 1, 0, 0), (5, 5, 0, 1, 0), (0, 0, 0, 0, 0), (1, 0, 1, 0, 0), (5, 5, 2, 0, 2)] = some 22 := by decide +kernel
theorem bkShe_startAnew_25 : zBk mShe_startAnew 25 [(1, 1, 1, 0, 0), (5, 4, 1, 2, 1), (0, 0, 0, 0, 0), (1, 0, 1, 0, 0), (5, 5, 1, 2, 1), (0, 0, 0, 0, 0), (1, 0, 1, 0, 0), (5, 5, 2, 0, 2)] = some 39 := by decide +kernel
theorem bkShe_startAnew_42 : zBk mShe_startAnew 42 [(1, 0, 1, 0, 0), (0, 0, 0, 0, 0), (6, 5, 4, 0, 4), (1, 0, 1, 0, 0), (0, 0, 0, 0, 0), (6, 5, 6, 0, 6)] = some 52 := by decide +kernel
theorem bdShe_startAnew_22 : decode mShe_startAnew.2.2.1 22 = .ok (.invokestatic 42, 3) := by decide +kernel
theorem bdShe_startAnew_39 : decode mShe_startAnew.2.2.1 39 = .ok (.invokestatic 42, 3) := by decide +kernel
theorem bdShe_startAnew_52 : decode mShe_startAnew.2.2.1 52 = .ok (.return_, 1) := by decide +kernel
theorem cShe_startAnew {sg : zSig}  (n0 : 0 ≤ sg 317 2) (n1 : sg 317 2 ≤ 200) : zG mShe_startAnew 411 (fun rr h' => ∃ sg', rr = none ∧ h' = zN sg' ∧ (∀ c j, c ≠ 1 → c ≠ 2 → c ≠ 3 → sg' c j = sg c j) ∧ sg' 1 2 = sg 317 2 ∧ sg' 1 4 = 0 ∧ sg' 1 6 = 0 ∧ (∀ j, 0 ≤ j → j < sg 317 2 → sg' 2 j = sg 318 j) ∧ ∀ j, 0 ≤ j → j < sg 317 2 → sg' 3 j = sg 319 j) 0 [(0, .ref 1), (1, .ref 317)] [] (zN sg) := by
  refine zG_run bkShe_startAnew_0 (lv' := [(0, .ref 1), (1, .ref 317)]) (st' := []) (h' := zN (zup sg 1 2 (sg 317 2))) (Ps := [zOb (zN sg) 317 4, zOb (zN sg) 1 5]) rfl (zA zob_317 (zA zob_1 trivial)) ?_
  refine zG_nm (sg := zup sg 1 2 (sg 317 2)) (fun sg1 e1 => ?_)
  have f1 : ∀ c j, c ≠ 1 → sg1 c j = sg c j := fun c j h => by rw [e1]; exact zup_a h
  have s1 : sg1 1 2 = sg 317 2 := by rw [e1]; exact zup_s
  refine zG_run bkShe_startAnew_8 (lv' := [(0, .ref 1), (1, .ref 317)]) (st' := [.int (sg1 1 2), .int 0, .ref 2, .int 0, .ref 318]) (h' := zN sg1) (Ps := [zOb (zN sg1) 317 4 ∧ (zN sg1).2.2 317 0 = true, zOb (zN sg1) 1 5 ∧ (zN sg1).2.2 1 0 = true, zOb (zN sg1) 1 5]) rfl (zA ⟨zob_317, rfl⟩ (zA ⟨zob_1, rfl⟩ (zA zob_1 trivial))) ?_
  refine zs_acopy bdShe_startAnew_22 lk5_42 (And.intro (by decide) (by decide)) (Nat.le_of_ble_eq_true rfl) (zcp_318_2 (sp := 0) (dp := 0) (n := sg1 1 2) (by lia) (by lia) (by lia) (by lia) (by lia) (by lia) (by lia)) ?_
  refine zG_nm (sg := zcp sg1 318 2 0 0 (sg1 1 2)) (fun sg2 e2 => ?_)
  have f2 : ∀ c j, c ≠ 1 → c ≠ 2 → sg2 c j = sg c j := fun c j h h2 => by rw [e2, zcp_e, if_neg (fun q => h2 q.1)]; exact f1 c j h
  have s2 : sg2 1 2 = sg 317 2 := by rw [e2, zcp_e, if_neg (fun q => absurd q.1 (by decide))]; exact s1
  have l2 : ∀ j, 0 ≤ j → j < sg 317 2 → sg2 2 j = sg 318 j := fun j h1 h2 => by rw [e2, zcp_e, if_pos ⟨rfl, h1, by rw [s1]; lia⟩, f1 _ _ (by decide)]; congr 1; grind
  refine zG_run bkShe_startAnew_25 (lv' := [(0, .ref 1), (1, .ref 317)]) (st' := [.int (sg2 1 2), .int 0, .ref 3, .int 0, .ref 319]) (h' := zN sg2) (Ps := [zOb (zN sg2) 317 4 ∧ (zN sg2).2.2 317 1 = true, zOb (zN sg2) 1 5 ∧ (zN sg2).2.2 1 1 = true, zOb (zN sg2) 1 5]) rfl (zA ⟨zob_317, rfl⟩ (zA ⟨zob_1, rfl⟩ (zA zob_1 trivial))) ?_
  refine zs_acopy bdShe_startAnew_39 lk5_42 (And.intro (by decide) (by decide)) (Nat.le_of_ble_eq_true rfl) (zcp_319_3 (sp := 0) (dp := 0) (n := sg2 1 2) (by lia) (by lia) (by lia) (by lia) (by lia) (by lia) (by lia)) ?_
  refine zG_nm (sg := zcp sg2 319 3 0 0 (sg2 1 2)) (fun sg3 e3 => ?_)
  have f3 : ∀ c j, c ≠ 1 → c ≠ 2 → c ≠ 3 → sg3 c j = sg c j := fun c j h h2 h3 => by rw [e3, zcp_e, if_neg (fun q => h3 q.1)]; exact f2 c j h h2
  have s3 : sg3 1 2 = sg 317 2 := by rw [e3, zcp_e, if_neg (fun q => absurd q.1 (by decide))]; exact s2
  have l3 : ∀ j, 0 ≤ j → j < sg 317 2 → sg3 2 j = sg 318 j := fun j h1 h2 => by rw [e3, zcp_e, if_neg (fun q => absurd q.1 (by decide))]; exact l2 j h1 h2
  have p3 : ∀ j, 0 ≤ j → j < sg 317 2 → sg3 3 j = sg 319 j := fun j h1 h2 => by rw [e3, zcp_e, if_pos ⟨rfl, h1, by rw [s2]; lia⟩, f2 _ _ (by decide) (by decide)]; congr 1; grind
  refine zb_vret bkShe_startAnew_42 bdShe_startAnew_52 rfl (h' := zN (zup (zup sg3 1 4 0) 1 6 0)) (Ps := [zOb (zN sg3) 1 5, zOb (zN (zup sg3 1 4 0)) 1 5]) rfl (zA zob_1 (zA zob_1 trivial)) rfl ?_
  refine ⟨_, rfl, rfl, fun c j h1 h2 h3 => ?_, ?_, ?_, ?_, fun j h1 h2 => ?_, fun j h1 h2 => ?_⟩
  · rw [zup_a h1, zup_a h1]; exact f3 c j h1 h2 h3
  · rw [zup_i (by decide), zup_i (by decide)]; exact s3
  · rw [zup_i (by decide), zup_s]
  · exact zup_s
  · rw [zup_a (by decide), zup_a (by decide)]; exact l3 j h1 h2
  · rw [zup_a (by decide), zup_a (by decide)]; exact p3 j h1 h2
def nOv (sg : zSig) (i k a : Int32) : Int32 := if sg (zel 4 k) 0 ≠ 0 ∧ sg (zel 4 k) 1 ≤ i ∧ i < sg (zel 4 k) 2 then a + 1 else a
def nMo (sg : zSig) (i a : Int32) : Int32 := fMax a (zit (nOv sg i) 0 (sg 1 4))
theorem bkShe_mostSpansOverLetter_0 : zBk mShe_mostSpansOverLetter 0 [(0, 0, 0, 0, 0), (2, 1, 0, 0, 0), (0, 0, 0, 0, 0), (2, 2, 0, 0, 0)] = some 4 := by decide +kernel
theorem bkShe_mostSpansOverLetter_4 : zBk mShe_mostSpansOverLetter 4 [(1, 2, 0, 0, 0), (1, 0, 1, 0, 0), (5, 5, 2, 0, 2)] = some 9 := by decide +kernel
theorem bkShe_mostSpansOverLetter_61 : zBk mShe_mostSpansOverLetter 61 [(1, 1, 0, 0, 0)] = some 62 := by decide +kernel
theorem bkShe_mostSpansOverLetter_12 : zBk mShe_mostSpansOverLetter 12 [(0, 0, 0, 0, 0), (2, 3, 0, 0, 0), (0, 0, 0, 0, 0), (2, 4, 0, 0, 0)] = some 17 := by decide +kernel
theorem bkShe_mostSpansOverLetter_17 : zBk mShe_mostSpansOverLetter 17 [(1, 4, 0, 0, 0), (1, 0, 1, 0, 0), (5, 5, 4, 0, 4)] = some 23 := by decide +kernel
theorem bkShe_mostSpansOverLetter_49 : zBk mShe_mostSpansOverLetter 49 [(1, 1, 0, 0, 0), (1, 3, 0, 0, 0)] = some 51 := by decide +kernel
theorem bkShe_mostSpansOverLetter_54 : zBk mShe_mostSpansOverLetter 54 [(2, 1, 0, 0, 0), (3, 2, 0, 0, 1), (22, 4, 0, 0, 0)] = some 4 := by decide +kernel
theorem bkShe_mostSpansOverLetter_26 : zBk mShe_mostSpansOverLetter 26 [(1, 0, 1, 0, 0), (5, 5, 3, 3, 3), (1, 4, 0, 0, 0), (9, 0, 0, 0, 0), (1, 2, 0, 0, 0)] = some 34 := by decide +kernel
theorem bkShe_mostSpansOverLetter_37 : zBk mShe_mostSpansOverLetter 37 [] = some 37 := by decide +kernel
theorem bkShe_mostSpansOverLetter_43 : zBk mShe_mostSpansOverLetter 43 [(3, 4, 0, 0, 1), (22, 17, 0, 0, 0)] = some 17 := by decide +kernel
theorem bkShe_mostSpansOverLetter_40 : zBk mShe_mostSpansOverLetter 40 [(3, 3, 0, 0, 1), (3, 4, 0, 0, 1), (22, 17, 0, 0, 0)] = some 17 := by decide +kernel
theorem bdShe_mostSpansOverLetter_9 : decode mShe_mostSpansOverLetter.2.2.1 9 = .ok (.if_icmp .ge 52, 3) := by decide +kernel
theorem bdShe_mostSpansOverLetter_23 : decode mShe_mostSpansOverLetter.2.2.1 23 = .ok (.if_icmp .ge 26, 3) := by decide +kernel
theorem bdShe_mostSpansOverLetter_34 : decode mShe_mostSpansOverLetter.2.2.1 34 = .ok (.invokevirtual 68, 3) := by decide +kernel
theorem bdShe_mostSpansOverLetter_37 : decode mShe_mostSpansOverLetter.2.2.1 37 = .ok (.ifCond .eq 6, 3) := by decide +kernel
theorem bdShe_mostSpansOverLetter_51 : decode mShe_mostSpansOverLetter.2.2.1 51 = .ok (.invokestatic 72, 3) := by decide +kernel
theorem bdShe_mostSpansOverLetter_62 : decode mShe_mostSpansOverLetter.2.2.1 62 = .ok (.ireturn, 1) := by decide +kernel
theorem lShe_mostSpansOverLetter {sg : zSig}  (n0 : 0 ≤ sg 1 2) (n1 : sg 1 2 ≤ 200) (g0 : 0 ≤ sg 1 4) (g1 : sg 1 4 ≤ 16) {Q : Option Value → zHp → Prop} (hq : ∀ rr h', (rr = some (.int (zit (nMo sg) 0 (sg 1 2))) ∧ h' = zN sg) → Q rr h') : zG mShe_mostSpansOverLetter 411 Q 0 [(0, .ref 1)] [] (zN sg) := by
  refine zG_run bkShe_mostSpansOverLetter_0 (lv' := [(2, .int 0), (1, .int 0), (0, .ref 1)]) (st' := []) (h' := zN sg) (Ps := []) rfl trivial ?_
  refine zG_pick (lv' := [(0, .ref 1), (1, .int 0), (2, .int 0)]) [2, 1, 0] rfl ?_
  refine zlp2 (fun (n : Int32) (i : Int32) => zG mShe_mostSpansOverLetter 411 Q 4 [(0, .ref 1), (1, .int n), (2, .int i)] [] (zN sg)) (fun (n : Int32) (i : Int32) => (0 ≤ i) ∧ (i ≤ sg 1 2) ∧ (n = zit (nMo sg) 0 i)) (fun (n : Int32) (i : Int32) => zmu (sg 1 2) i) ?_ 0 0 ?_
  · intro n i ho iho
    obtain ⟨i0, i1, io⟩ := ho
    refine zb_icge (tgt := 61) bkShe_mostSpansOverLetter_4 bdShe_mostSpansOverLetter_9 (by decide) (lv' := [(0, .ref 1), (1, .int n), (2, .int i)]) (st' := []) (h' := zN sg) (x := i) (y := sg 1 2) (Ps := [zOb (zN sg) 1 5]) rfl (zA zob_1 trivial) (fun c1 => ?_) (fun c1 => ?_)
    · skip
      refine zb_iret bkShe_mostSpansOverLetter_61 bdShe_mostSpansOverLetter_62 rfl (x := n) (h' := zN sg) (Ps := []) rfl trivial rfl ?_
      refine hq _ _ ?_
      rw [io, show i = sg 1 2 by lia]; exact ⟨rfl, rfl⟩
    · skip
      refine zG_run bkShe_mostSpansOverLetter_12 (lv' := [(4, .int 0), (3, .int 0), (0, .ref 1), (1, .int n), (2, .int i)]) (st' := []) (h' := zN sg) (Ps := []) rfl trivial ?_
      refine zG_pick (lv' := [(0, .ref 1), (1, .int n), (2, .int i), (3, .int 0), (4, .int 0)]) [2, 3, 4, 1, 0] rfl ?_
      refine zlp2 (fun (v : Int32) (k : Int32) => zG mShe_mostSpansOverLetter 411 Q 17 [(0, .ref 1), (1, .int n), (2, .int i), (3, .int v), (4, .int k)] [] (zN sg)) (fun (v : Int32) (k : Int32) => (0 ≤ k) ∧ (k ≤ sg 1 4) ∧ (v = zit (nOv sg i) 0 k)) (fun (v : Int32) (k : Int32) => zmu (sg 1 4) k) ?_ 0 0 ?_
      · intro v k hk ihk
        obtain ⟨k0, k1, kn⟩ := hk
        refine zb_icge (tgt := 49) bkShe_mostSpansOverLetter_17 bdShe_mostSpansOverLetter_23 (by decide) (lv' := [(0, .ref 1), (1, .int n), (2, .int i), (3, .int v), (4, .int k)]) (st' := []) (h' := zN sg) (x := k) (y := sg 1 4) (Ps := [zOb (zN sg) 1 5]) rfl (zA zob_1 trivial) (fun c2 => ?_) (fun c2 => ?_)
        · skip
          refine zG_run bkShe_mostSpansOverLetter_49 (lv' := [(0, .ref 1), (1, .int n), (2, .int i), (3, .int v), (4, .int k)]) (st' := [.int v, .int n]) (h' := zN sg) (Ps := []) rfl trivial ?_
          refine zG_calls (As := [.int n, .int v]) (rest := []) (N2 := 411) bdShe_mostSpansOverLetter_51 okMa_max lk5_72 (And.intro (by decide) (by decide)) rfl rfl (Nat.le_of_ble_eq_true rfl) (Nat.le_of_ble_eq_true rfl) (Nat.le_refl 411) (Nat.le_refl 411) cMa_max ?_
          rintro rr h' ⟨rfl, rfl⟩ -
          refine zG_run bkShe_mostSpansOverLetter_54 (lv' := [(2, .int (i + 1)), (1, .int (fMax n v)), (0, .ref 1), (3, .int v), (4, .int k)]) (st' := []) (h' := zN sg) (Ps := []) rfl trivial ?_
          refine zG_pick (lv' := [(0, .ref 1), (1, .int (fMax n v)), (2, .int (i + 1))]) [2, 1, 0] rfl ?_
          refine iho (fMax n v) (i + 1) ?_ ?_
          · refine ⟨?_, ?_, ?_⟩
            · lia
            · lia
            · rw [zit_s _ _ i0 (by lia : i < sg 1 2), ← io]; rw [kn, show k = sg 1 4 by lia]; rfl
          · exact zmu_up (by lia)
        · skip
          refine zG_run bkShe_mostSpansOverLetter_26 (lv' := [(0, .ref 1), (1, .int n), (2, .int i), (3, .int v), (4, .int k)]) (st' := [.int i, .ref (zel 4 k)]) (h' := zN sg) (Ps := [zOb (zN sg) 1 5 ∧ (zN sg).2.2 1 3 = true, zInR (zN sg) 4 k]) rfl (zA ⟨zob_1, rfl⟩ (zA (zinR_4 (i := k) (by lia) (by lia)) trivial)) ?_
          refine zG_callv (a := zel 4 k) (c := 6) (As := [.int i]) (rest := []) (N2 := 411) bdShe_mostSpansOverLetter_34 okSpa_liesOver lk5_68 (And.intro (by decide) (by decide)) (by decide) rfl rfl rfl (Nat.le_of_ble_eq_true rfl) (Nat.le_of_ble_eq_true rfl) (Nat.le_refl 411) (Nat.le_refl 411) (zel_ob4 (i := k) (by lia) (by lia)) (cSpa_liesOver (zel_ob4 (i := k) (by lia) (by lia))) ?_
          rintro rr h' ⟨rfl, rfl⟩ -
          refine zb_ifeq (tgt := 43) bkShe_mostSpansOverLetter_37 bdShe_mostSpansOverLetter_37 (by decide) (lv' := [(0, .ref 1), (1, .int n), (2, .int i), (3, .int v), (4, .int k)]) (st' := []) (h' := zN sg) (x := if sg (zel 4 k) 0 ≠ 0 ∧ sg (zel 4 k) 1 ≤ i ∧ i < sg (zel 4 k) 2 then 1 else 0) (Ps := []) rfl trivial (fun c3 => ?_) (fun c3 => ?_)
          · skip
            refine zG_run bkShe_mostSpansOverLetter_43 (lv' := [(4, .int (k + 1)), (0, .ref 1), (1, .int n), (2, .int i), (3, .int v)]) (st' := []) (h' := zN sg) (Ps := []) rfl trivial ?_
            refine zG_pick (lv' := [(0, .ref 1), (1, .int n), (2, .int i), (3, .int v), (4, .int (k + 1))]) [1, 2, 3, 4, 0] rfl ?_
            refine ihk v (k + 1) ?_ ?_
            · refine ⟨?_, ?_, ?_⟩
              · lia
              · lia
              · rw [zit_s _ _ k0 (by lia : k < sg 1 4)]; clear ihk iho hq; grind [nOv]
            · exact zmu_up (by lia)
          · skip
            refine zG_run bkShe_mostSpansOverLetter_40 (lv' := [(4, .int (k + 1)), (3, .int (v + 1)), (0, .ref 1), (1, .int n), (2, .int i)]) (st' := []) (h' := zN sg) (Ps := []) rfl trivial ?_
            refine zG_pick (lv' := [(0, .ref 1), (1, .int n), (2, .int i), (3, .int (v + 1)), (4, .int (k + 1))]) [2, 3, 4, 1, 0] rfl ?_
            refine ihk (v + 1) (k + 1) ?_ ?_
            · refine ⟨?_, ?_, ?_⟩
              · lia
              · lia
              · rw [zit_s _ _ k0 (by lia : k < sg 1 4)]; clear ihk iho hq; grind [nOv]
            · exact zmu_up (by lia)
      · refine ⟨?_, ?_, ?_⟩
        · lia
        · lia
        · rfl
  · refine ⟨?_, ?_, ?_⟩
    · lia
    · lia
    · rfl
theorem cShe_mostSpansOverLetter {sg : zSig}  (n0 : 0 ≤ sg 1 2) (n1 : sg 1 2 ≤ 200) (g0 : 0 ≤ sg 1 4) (g1 : sg 1 4 ≤ 16) : zG mShe_mostSpansOverLetter 411 (fun rr h' => rr = some (.int (zit (nMo sg) 0 (sg 1 2))) ∧ h' = zN sg) 0 [(0, .ref 1)] [] (zN sg) := lShe_mostSpansOverLetter n0 n1 g0 g1 (fun _ _ q => q)
