/-! the reference: marks are put: printed by wip/whole/p43.py -/
theorem php : ∀ (n m : Nat) (f : Nat → Nat), (∀ i, i < m → f i < n) → (∀ i j, i < m → j < m → f i = f j → i = j) → m ≤ n := by
  intro n
  induction n with
  | zero =>
    intro m f h1 _
    rcases Nat.eq_zero_or_pos m with h | h
    · omega
    · exact absurd (h1 0 h) (Nat.not_lt_zero _)
  | succ n ih =>
    intro m f h1 h2
    by_cases hx : ∃ i, i < m ∧ f i = n
    · obtain ⟨i, hi, hf⟩ := hx
      have := ih (m - 1) (fun j => if j = i then f (m - 1) else f j) (fun j hj => ?_) (fun j k hj hk h => ?_)
      · omega
      · by_cases hji : j = i
        · simp only [if_pos hji]
          have a := h1 (m - 1) (by omega)
          have b : f (m - 1) ≠ n := fun q => by have := h2 (m - 1) i (by omega) hi (q.trans hf.symm); omega
          omega
        · simp only [if_neg hji]
          have a := h1 j (by omega)
          have b : f j ≠ n := fun q => hji (h2 j i (by omega) hi (q.trans hf.symm))
          omega
      · by_cases hji : j = i
        · by_cases hki : k = i
          · omega
          · simp only [if_pos hji, if_neg hki] at h
            have := h2 (m - 1) k (by omega) (by omega) h; omega
        · by_cases hki : k = i
          · simp only [if_neg hji, if_pos hki] at h
            have := h2 j (m - 1) (by omega) (by omega) h; omega
          · simp only [if_neg hji, if_neg hki] at h
            exact h2 j k (by omega) (by omega) h
    · have := ih m f (fun i hi => by
        have a := h1 i hi
        have b : f i ≠ n := fun q => hx ⟨i, hi, q⟩
        omega) h2
      omega
theorem fKd_or (v : Int32) : fKd v = -1 ∨ (v = 98 ∧ fKd v = 0) ∨ (v = 105 ∧ fKd v = 1) ∨ (v = 117 ∧ fKd v = 2) ∨ (v = 115 ∧ fKd v = 3) ∨ (v = 99 ∧ fKd v = 4) ∨ (v = 122 ∧ fKd v = 5) := by
  unfold fKd
  by_cases h1 : v = 98
  · simp [h1]
  · by_cases h2 : v = 105
    · simp [h2]
    · by_cases h3 : v = 117
      · simp [h3]
      · by_cases h4 : v = 115
        · simp [h4]
        · by_cases h5 : v = 99
          · simp [h5]
          · by_cases h6 : v = 122
            · simp [h6]
            · simp [h1, h2, h3, h4, h5, h6]
theorem fKd_n {v : Int32} (h : fKd v ≠ -1) : (fKd v).toNatClampNeg < 6 := by
  rcases fKd_or v with q | ⟨-, q⟩ | ⟨-, q⟩ | ⟨-, q⟩ | ⟨-, q⟩ | ⟨-, q⟩ | ⟨-, q⟩
  · exact absurd q h
  all_goals rw [q]; decide
theorem fKd_nn {v : Int32} (h : fKd v ≠ -1) : 0 ≤ fKd v := by
  rcases fKd_or v with q | ⟨-, q⟩ | ⟨-, q⟩ | ⟨-, q⟩ | ⟨-, q⟩ | ⟨-, q⟩ | ⟨-, q⟩
  · exact absurd q h
  all_goals rw [q]; decide
theorem fKd_inj {a b : Int32} (ha : fKd a ≠ -1) (h : fKd a = fKd b) : a = b := by
  rcases fKd_or a with q | ⟨p, q⟩ | ⟨p, q⟩ | ⟨p, q⟩ | ⟨p, q⟩ | ⟨p, q⟩ | ⟨p, q⟩
  · exact absurd q ha
  all_goals
    rw [q] at h
    rcases fKd_or b with g | ⟨g1, g⟩ | ⟨g1, g⟩ | ⟨g1, g⟩ | ⟨g1, g⟩ | ⟨g1, g⟩ | ⟨g1, g⟩ <;> rw [g] at h <;> first | exact absurd h (by decide) | rw [p, g1]
theorem php_i {S : Int32 → Int32} {m : Int32} (m0 : 0 ≤ m) (m9 : m ≤ 9) (hk : ∀ j, 0 ≤ j → j < m → fKd (S j) ≠ -1) (hd : ∀ i j, 0 ≤ i → i < j → j < m → S i ≠ S j) : m ≤ 6 := by
  obtain ⟨q, hq, rfl⟩ := znn m0
  have hq9 : q ≤ 9 := (nI_leI hq (by omega)).mp m9
  have hi : ∀ i, i < q → 0 ≤ nI i ∧ nI i < nI q := fun i hi => ⟨nI_pos' (by omega), nI_lt (by omega) (by omega)⟩
  have h6 := php 6 q (fun i => (fKd (S (nI i))).toNatClampNeg) (fun i hiq => fKd_n (hk _ (hi i hiq).1 (hi i hiq).2)) (fun i j hiq hjq h => ?_)
  · exact nI_le h6 (by decide)
  · have hin := hk _ (hi i hiq).1 (hi i hiq).2
    have hjn := hk _ (hi j hjq).1 (hi j hjq).2
    have e : S (nI i) = S (nI j) := by
      refine fKd_inj hin ?_
      obtain ⟨x, hx, ex⟩ := znn (fKd_nn hin)
      obtain ⟨y, hy, ey⟩ := znn (fKd_nn hjn)
      simp only [ex, ey, nI_clamp hx, nI_clamp hy] at h
      rw [ex, ey, h]
    rcases Nat.lt_trichotomy i j with g | g | g
    · exact absurd e (hd _ _ (hi i hiq).1 (nI_lt g (by omega)) (hi j hjq).2)
    · exact g
    · exact absurd e.symm (hd _ _ (hi j hjq).1 (nI_lt g (by omega)) (hi i hiq).2)
def okO (sg : zSig) : Prop := (0 ≤ sg 393 25 ∧ sg 393 25 ≤ 8) ∧ (∀ j, 0 ≤ j → j < sg 393 25 → fKd (sg 406 j) ≠ -1) ∧ ∀ i j, 0 ≤ i → i < j → j < sg 393 25 → sg 406 i ≠ sg 406 j
theorem okO_6 {sg : zSig} (h : okO sg) : sg 393 25 ≤ 6 := by
  have h1 := h.1
  exact php_i (S := sg 406) h.1.1 (by lia) h.2.1 h.2.2
theorem okO_5 {sg : zSig} {c : Int32} (h : okO sg) (hc : fKd c ≠ -1) (hn : ∀ j, 0 ≤ j → j < sg 393 25 → sg 406 j ≠ c) : sg 393 25 ≤ 5 := by
  have h1 := h.1
  have := php_i (S := fun j => if j = sg 393 25 then c else sg 406 j) (m := sg 393 25 + 1) (by lia) (by lia) (fun j j0 j1 => ?_) (fun i j i0 i1 j1 => ?_)
  · lia
  · by_cases hj : j = sg 393 25
    · simp only [if_pos hj]; exact hc
    · simp only [if_neg hj]; exact h.2.1 j j0 (by lia)
  · have hi : i ≠ sg 393 25 := by lia
    simp only [if_neg hi]
    by_cases hj : j = sg 393 25
    · simp only [if_pos hj]; exact hn i i0 (by lia)
    · simp only [if_neg hj]; exact h.2.2 i j i0 i1 (by lia)
def hPu (sg : zSig) (v : Int32) : zSig := zup (zup sg 408 (sg 393 27) v.toInt8.toInt32) 393 27 (sg 393 27 + 1)
theorem puf {sg : zSig} {v : Int32} {c : Nat} {j : Int32} (h : c ≠ 408) (h2 : c ≠ 393 ∨ j ≠ 27) : hPu sg v c j = sg c j := by
  unfold hPu
  rw [zup_e, if_neg (by rintro ⟨q1, q2⟩; exact h2.elim (fun g => g q1) (fun g => g q2)), zup_a h]
theorem pu27 {sg : zSig} {v : Int32} : hPu sg v 393 27 = sg 393 27 + 1 := zup_s
theorem pu25 {sg : zSig} {v : Int32} : hPu sg v 393 25 = sg 393 25 := puf (by decide) (by decide)
theorem pu6 {sg : zSig} {v j : Int32} : hPu sg v 406 j = sg 406 j := puf (by decide) (Or.inl (by decide))
theorem pu7 {sg : zSig} {v j : Int32} : hPu sg v 407 j = sg 407 j := puf (by decide) (Or.inl (by decide))
theorem bkMo_put_0 : zBk mMo_put 0 [(1, 0, 1, 0, 0), (5, 10, 26, 15, 26), (1, 0, 1, 0, 0), (5, 10, 27, 0, 27), (1, 1, 0, 0, 0), (13, 0, 0, 0, 0), (8, 1, 0, 0, 0), (1, 0, 1, 0, 0), (18, 0, 0, 0, 0), (5, 10, 27, 0, 27), (0, 0, 0, 0, 1), (4, 0, 0, 0, 0), (6, 10, 27, 0, 27)] = some 21 := by decide +kernel
theorem bdMo_put_21 : decode mMo_put.2.2.1 21 = .ok (.return_, 1) := by decide +kernel
theorem cMo_put {sg : zSig} {v : Int32} (w0 : 0 ≤ sg 393 27) (w1 : sg 393 27 < 10000) : zG mMo_put 411 (fun rr h' => rr = none ∧ h' = zN (hPu sg v)) 0 [(0, .ref 393), (1, .int v)] [] (zN sg) := by
  refine zb_vret bkMo_put_0 bdMo_put_21 rfl (h' := zN (zup (zup sg 408 (sg 393 27) v.toInt8.toInt32.toInt8.toInt32) 393 27 (((zup sg 408 (sg 393 27) v.toInt8.toInt32.toInt8.toInt32) 393 27) + 1))) (Ps := [zOb (zN sg) 393 10 ∧ (zN sg).2.2 393 26 = true, zOb (zN sg) 393 10, zIn (zN sg) 408 1 (sg 393 27), zOb (zN (zup sg 408 (sg 393 27) v.toInt8.toInt32.toInt8.toInt32)) 393 10, zOb (zN (zup sg 408 (sg 393 27) v.toInt8.toInt32.toInt8.toInt32)) 393 10]) rfl (zA ⟨zob_393, rfl⟩ (zA zob_393 (zA (zin_408 (i := sg 393 27) (by lia) (by lia)) (zA zob_393 (zA zob_393 trivial))))) rfl ?_
  refine ⟨rfl, ?_⟩
  unfold hPu
  rw [zi8i, zup_a (by decide)]
def mHs (t : z3) (sg : zSig) (k : Int32) : Bool := decide ((sg 406 k = 99 ∧ t.2.1 = sg 407 k) ∨ (sg 406 k = 122 ∧ t.2.2 = sg 407 k) ∨ (sg 406 k ≠ 99 ∧ sg 406 k ≠ 122 ∧ ¬ t.1 &&& gFl (sg 406 k) = 0))
theorem bkMo_has_0 : zBk mMo_has 0 [(1, 0, 1, 0, 0), (5, 10, 23, 13, 23), (1, 1, 0, 0, 0), (7, 0, 0, 0, 0), (0, 0, 0, 0, 99)] = some 8 := by decide +kernel
theorem bkMo_has_32 : zBk mMo_has 32 [(1, 0, 1, 0, 0), (5, 10, 23, 13, 23), (1, 1, 0, 0, 0), (7, 0, 0, 0, 0), (0, 0, 0, 0, 122)] = some 40 := by decide +kernel
theorem bkMo_has_64 : zBk mMo_has 64 [(1, 0, 1, 0, 0), (5, 10, 16, 0, 16), (1, 0, 1, 0, 0), (5, 10, 23, 13, 23), (1, 1, 0, 0, 0), (7, 0, 0, 0, 0)] = some 74 := by decide +kernel
theorem bkMo_has_77 : zBk mMo_has 77 [(4, 3, 0, 0, 0)] = some 78 := by decide +kernel
theorem bkMo_has_85 : zBk mMo_has 85 [(0, 0, 0, 0, 0)] = some 86 := by decide +kernel
theorem bkMo_has_81 : zBk mMo_has 81 [(0, 0, 0, 0, 1), (22, 86, 0, 0, 0)] = some 86 := by decide +kernel
theorem bkMo_has_43 : zBk mMo_has 43 [(1, 0, 1, 0, 0), (5, 10, 18, 0, 18), (1, 0, 1, 0, 0), (5, 10, 24, 14, 24), (1, 1, 0, 0, 0), (7, 0, 0, 0, 0)] = some 53 := by decide +kernel
theorem bkMo_has_60 : zBk mMo_has 60 [(0, 0, 0, 0, 0), (22, 86, 0, 0, 0)] = some 86 := by decide +kernel
theorem bkMo_has_56 : zBk mMo_has 56 [(0, 0, 0, 0, 1), (22, 86, 0, 0, 0)] = some 86 := by decide +kernel
theorem bkMo_has_11 : zBk mMo_has 11 [(1, 0, 1, 0, 0), (5, 10, 17, 0, 17), (1, 0, 1, 0, 0), (5, 10, 24, 14, 24), (1, 1, 0, 0, 0), (7, 0, 0, 0, 0)] = some 21 := by decide +kernel
theorem bkMo_has_28 : zBk mMo_has 28 [(0, 0, 0, 0, 0), (22, 86, 0, 0, 0)] = some 86 := by decide +kernel
theorem bkMo_has_24 : zBk mMo_has 24 [(0, 0, 0, 0, 1), (22, 86, 0, 0, 0)] = some 86 := by decide +kernel
theorem bdMo_has_8 : decode mMo_has.2.2.1 8 = .ok (.if_icmp .ne 24, 3) := by decide +kernel
theorem bdMo_has_21 : decode mMo_has.2.2.1 21 = .ok (.if_icmp .ne 7, 3) := by decide +kernel
theorem bdMo_has_40 : decode mMo_has.2.2.1 40 = .ok (.if_icmp .ne 24, 3) := by decide +kernel
theorem bdMo_has_53 : decode mMo_has.2.2.1 53 = .ok (.if_icmp .ne 7, 3) := by decide +kernel
theorem bdMo_has_74 : decode mMo_has.2.2.1 74 = .ok (.invokestatic 213, 3) := by decide +kernel
theorem bdMo_has_78 : decode mMo_has.2.2.1 78 = .ok (.ifCond .eq 7, 3) := by decide +kernel
theorem bdMo_has_86 : decode mMo_has.2.2.1 86 = .ok (.ireturn, 1) := by decide +kernel
theorem cMo_has {sg : zSig} {k : Int32} (k0 : 0 ≤ k) (k1 : k < 8) : zG mMo_has 411 (fun rr h' => ∃ v, rr = some (.int v) ∧ h' = zN sg ∧ ((v = 1 ∧ mHs (mT sg) sg k = true) ∨ (v = 0 ∧ mHs (mT sg) sg k = false))) 0 [(0, .ref 393), (1, .int k)] [] (zN sg) := by
  refine zb_icne (tgt := 32) bkMo_has_0 bdMo_has_8 (by decide) (lv' := [(0, .ref 393), (1, .int k)]) (st' := []) (h' := zN sg) (x := sg 406 k) (y := 99) (Ps := [zOb (zN sg) 393 10 ∧ (zN sg).2.2 393 23 = true, zInL (zN sg) 406 k]) rfl (zA ⟨zob_393, rfl⟩ (zA (zinL_406 (i := k) (by lia) (by lia)) trivial)) (fun c1 => ?_) (fun c1 => ?_)
  · skip
    refine zb_icne (tgt := 64) bkMo_has_32 bdMo_has_40 (by decide) (lv' := [(0, .ref 393), (1, .int k)]) (st' := []) (h' := zN sg) (x := sg 406 k) (y := 122) (Ps := [zOb (zN sg) 393 10 ∧ (zN sg).2.2 393 23 = true, zInL (zN sg) 406 k]) rfl (zA ⟨zob_393, rfl⟩ (zA (zinL_406 (i := k) (by lia) (by lia)) trivial)) (fun c2 => ?_) (fun c2 => ?_)
    · skip
      refine zG_run bkMo_has_64 (lv' := [(0, .ref 393), (1, .int k)]) (st' := [.int (sg 406 k), .int (sg 393 16)]) (h' := zN sg) (Ps := [zOb (zN sg) 393 10, zOb (zN sg) 393 10 ∧ (zN sg).2.2 393 23 = true, zInL (zN sg) 406 k]) rfl (zA zob_393 (zA ⟨zob_393, rfl⟩ (zA (zinL_406 (i := k) (by lia) (by lia)) trivial))) ?_
      refine zG_calls (As := [.int (sg 406 k)]) (rest := [.int (sg 393 16)]) (N2 := 411) bdMo_has_74 okMo_flagOf lk10_213 (And.intro (by decide) (by decide)) rfl rfl (Nat.le_of_ble_eq_true rfl) (Nat.le_of_ble_eq_true rfl) (Nat.le_refl 411) (Nat.le_refl 411) cMo_flagOf ?_
      rintro rr h' ⟨rfl, rfl⟩ -
      refine zb_ifeq (tgt := 85) bkMo_has_77 bdMo_has_78 (by decide) (lv' := [(0, .ref 393), (1, .int k)]) (st' := []) (h' := zN sg) (x := (sg 393 16) &&& (gFl (sg 406 k))) (Ps := []) rfl trivial (fun c3 => ?_) (fun c3 => ?_)
      · skip
        refine zb_zret bkMo_has_85 bdMo_has_86 rfl (x := 0) (h' := zN sg) (Ps := []) rfl trivial rfl (Or.inl rfl) ?_
        refine ⟨_, rfl, rfl, ?_⟩
        unfold mHs mT
        exact Or.inr ⟨rfl, decide_eq_false (by grind)⟩
      · skip
        refine zb_zret bkMo_has_81 bdMo_has_86 rfl (x := 1) (h' := zN sg) (Ps := []) rfl trivial rfl (Or.inr rfl) ?_
        refine ⟨_, rfl, rfl, ?_⟩
        unfold mHs mT
        exact Or.inl ⟨rfl, decide_eq_true (by grind)⟩
    · skip
      refine zb_icne (tgt := 60) bkMo_has_43 bdMo_has_53 (by decide) (lv' := [(0, .ref 393), (1, .int k)]) (st' := []) (h' := zN sg) (x := sg 393 18) (y := sg 407 k) (Ps := [zOb (zN sg) 393 10, zOb (zN sg) 393 10 ∧ (zN sg).2.2 393 24 = true, zInL (zN sg) 407 k]) rfl (zA zob_393 (zA ⟨zob_393, rfl⟩ (zA (zinL_407 (i := k) (by lia) (by lia)) trivial))) (fun c4 => ?_) (fun c4 => ?_)
      · skip
        refine zb_zret bkMo_has_60 bdMo_has_86 rfl (x := 0) (h' := zN sg) (Ps := []) rfl trivial rfl (Or.inl rfl) ?_
        refine ⟨_, rfl, rfl, ?_⟩
        unfold mHs mT
        exact Or.inr ⟨rfl, decide_eq_false (by grind)⟩
      · skip
        refine zb_zret bkMo_has_56 bdMo_has_86 rfl (x := 1) (h' := zN sg) (Ps := []) rfl trivial rfl (Or.inr rfl) ?_
        refine ⟨_, rfl, rfl, ?_⟩
        unfold mHs mT
        exact Or.inl ⟨rfl, decide_eq_true (by grind)⟩
  · skip
    refine zb_icne (tgt := 28) bkMo_has_11 bdMo_has_21 (by decide) (lv' := [(0, .ref 393), (1, .int k)]) (st' := []) (h' := zN sg) (x := sg 393 17) (y := sg 407 k) (Ps := [zOb (zN sg) 393 10, zOb (zN sg) 393 10 ∧ (zN sg).2.2 393 24 = true, zInL (zN sg) 407 k]) rfl (zA zob_393 (zA ⟨zob_393, rfl⟩ (zA (zinL_407 (i := k) (by lia) (by lia)) trivial))) (fun c5 => ?_) (fun c5 => ?_)
    · skip
      refine zb_zret bkMo_has_28 bdMo_has_86 rfl (x := 0) (h' := zN sg) (Ps := []) rfl trivial rfl (Or.inl rfl) ?_
      refine ⟨_, rfl, rfl, ?_⟩
      unfold mHs mT
      exact Or.inr ⟨rfl, decide_eq_false (by grind)⟩
    · skip
      refine zb_zret bkMo_has_24 bdMo_has_86 rfl (x := 1) (h' := zN sg) (Ps := []) rfl trivial rfl (Or.inr rfl) ?_
      refine ⟨_, rfl, rfl, ?_⟩
      unfold mHs mT
      exact Or.inl ⟨rfl, decide_eq_true (by grind)⟩
theorem bkMo_hasAll_0 : zBk mMo_hasAll 0 [(0, 0, 0, 0, 1), (2, 1, 0, 0, 0), (0, 0, 0, 0, 0), (2, 2, 0, 0, 0)] = some 4 := by decide +kernel
theorem bkMo_hasAll_4 : zBk mMo_hasAll 4 [(1, 2, 0, 0, 0), (1, 0, 1, 0, 0), (5, 10, 25, 0, 25)] = some 9 := by decide +kernel
theorem bkMo_hasAll_36 : zBk mMo_hasAll 36 [(1, 1, 0, 0, 0)] = some 37 := by decide +kernel
theorem bkMo_hasAll_12 : zBk mMo_hasAll 12 [(1, 1, 0, 0, 0)] = some 13 := by decide +kernel
theorem bkMo_hasAll_28 : zBk mMo_hasAll 28 [(0, 0, 0, 0, 0), (2, 1, 0, 0, 0), (3, 2, 0, 0, 1), (22, 4, 0, 0, 0)] = some 4 := by decide +kernel
theorem bkMo_hasAll_16 : zBk mMo_hasAll 16 [(1, 0, 1, 0, 0), (1, 2, 0, 0, 0)] = some 18 := by decide +kernel
theorem bkMo_hasAll_21 : zBk mMo_hasAll 21 [] = some 21 := by decide +kernel
theorem bkMo_hasAll_24 : zBk mMo_hasAll 24 [(0, 0, 0, 0, 1), (22, 29, 0, 0, 0), (2, 1, 0, 0, 0), (3, 2, 0, 0, 1), (22, 4, 0, 0, 0)] = some 4 := by decide +kernel
theorem bdMo_hasAll_9 : decode mMo_hasAll.2.2.1 9 = .ok (.if_icmp .ge 27, 3) := by decide +kernel
theorem bdMo_hasAll_13 : decode mMo_hasAll.2.2.1 13 = .ok (.ifCond .eq 15, 3) := by decide +kernel
theorem bdMo_hasAll_18 : decode mMo_hasAll.2.2.1 18 = .ok (.invokevirtual 234, 3) := by decide +kernel
theorem bdMo_hasAll_21 : decode mMo_hasAll.2.2.1 21 = .ok (.ifCond .eq 7, 3) := by decide +kernel
theorem bdMo_hasAll_37 : decode mMo_hasAll.2.2.1 37 = .ok (.ireturn, 1) := by decide +kernel
theorem lMo_hasAll {sg : zSig}  (u0 : 0 ≤ sg 393 25) (u1 : sg 393 25 ≤ 8) {Q : Option Value → zHp → Prop} (hq : ∀ rr h', (∃ v, rr = some (.int v) ∧ h' = zN sg ∧ ((v = 1 ∧ ∀ j, 0 ≤ j → j < sg 393 25 → mHs (mT sg) sg j = true) ∨ (v = 0 ∧ ∃ j, 0 ≤ j ∧ j < sg 393 25 ∧ mHs (mT sg) sg j = false))) → Q rr h') : zG mMo_hasAll 411 Q 0 [(0, .ref 393)] [] (zN sg) := by
  refine zG_run bkMo_hasAll_0 (lv' := [(2, .int 0), (1, .int 1), (0, .ref 393)]) (st' := []) (h' := zN sg) (Ps := []) rfl trivial ?_
  refine zG_pick (lv' := [(0, .ref 393), (1, .int 1), (2, .int 0)]) [2, 1, 0] rfl ?_
  refine zlp2 (fun (b : Int32) (k : Int32) => zG mMo_hasAll 411 Q 4 [(0, .ref 393), (1, .int b), (2, .int k)] [] (zN sg)) (fun (b : Int32) (k : Int32) => (0 ≤ k) ∧ (k ≤ sg 393 25) ∧ ((b = 1 ∧ ∀ j, 0 ≤ j → j < k → mHs (mT sg) sg j = true) ∨ (b = 0 ∧ ∃ j, 0 ≤ j ∧ j < k ∧ mHs (mT sg) sg j = false))) (fun (b : Int32) (k : Int32) => zmu (sg 393 25) k) ?_ 1 0 ?_
  · intro b k hI ih
    obtain ⟨k0, k1, kz⟩ := hI
    refine zb_icge (tgt := 36) bkMo_hasAll_4 bdMo_hasAll_9 (by decide) (lv' := [(0, .ref 393), (1, .int b), (2, .int k)]) (st' := []) (h' := zN sg) (x := k) (y := sg 393 25) (Ps := [zOb (zN sg) 393 10]) rfl (zA zob_393 trivial) (fun c1 => ?_) (fun c1 => ?_)
    · skip
      refine zb_zret bkMo_hasAll_36 bdMo_hasAll_37 rfl (x := b) (h' := zN sg) (Ps := []) rfl trivial rfl (by rcases kz with ⟨h, -⟩ | ⟨h, -⟩ <;> simp [h]) ?_
      refine hq _ _ ?_
      refine ⟨b, rfl, rfl, ?_⟩
      rw [show k = sg 393 25 by lia] at kz; exact kz
    · skip
      refine zb_ifeq (tgt := 28) bkMo_hasAll_12 bdMo_hasAll_13 (by decide) (lv' := [(0, .ref 393), (1, .int b), (2, .int k)]) (st' := []) (h' := zN sg) (x := b) (Ps := []) rfl trivial (fun c2 => ?_) (fun c2 => ?_)
      · skip
        refine zG_run bkMo_hasAll_28 (lv' := [(2, .int (k + 1)), (1, .int 0), (0, .ref 393)]) (st' := []) (h' := zN sg) (Ps := []) rfl trivial ?_
        refine zG_pick (lv' := [(0, .ref 393), (1, .int 0), (2, .int (k + 1))]) [2, 1, 0] rfl ?_
        refine ih 0 (k + 1) ?_ ?_
        · refine ⟨?_, ?_, ?_⟩
          · lia
          · lia
          · refine Or.inr ⟨rfl, ?_⟩
            rcases kz with ⟨kb, -⟩ | ⟨-, j, j0, j1, hj⟩
            · first | exact ⟨k, k0, by lia, hvh.elim (fun h => absurd h.1 (by lia)) (fun h => h.2)⟩ | (exfalso; lia)
            · exact ⟨j, j0, by lia, hj⟩
        · exact zmu_up (by lia)
      · skip
        refine zG_run bkMo_hasAll_16 (lv' := [(0, .ref 393), (1, .int b), (2, .int k)]) (st' := [.int k, .ref 393]) (h' := zN sg) (Ps := []) rfl trivial ?_
        refine zG_callv (a := 393) (c := 10) (As := [.int k]) (rest := []) (N2 := 411) bdMo_hasAll_18 okMo_has lk10_234 (And.intro (by decide) (by decide)) (by decide) rfl rfl rfl (Nat.le_of_ble_eq_true rfl) (Nat.le_of_ble_eq_true rfl) (Nat.le_refl 411) (Nat.le_refl 411) zob_393 (cMo_has (k := k) (by lia) (by lia)) ?_
        rintro rr h' ⟨vh, rfl, rfl, hvh⟩ -
        refine zb_ifeq (tgt := 28) bkMo_hasAll_21 bdMo_hasAll_21 (by decide) (lv' := [(0, .ref 393), (1, .int b), (2, .int k)]) (st' := []) (h' := zN sg) (x := vh) (Ps := []) rfl trivial (fun c3 => ?_) (fun c3 => ?_)
        · skip
          refine zG_run bkMo_hasAll_28 (lv' := [(2, .int (k + 1)), (1, .int 0), (0, .ref 393)]) (st' := []) (h' := zN sg) (Ps := []) rfl trivial ?_
          refine zG_pick (lv' := [(0, .ref 393), (1, .int 0), (2, .int (k + 1))]) [2, 1, 0] rfl ?_
          refine ih 0 (k + 1) ?_ ?_
          · refine ⟨?_, ?_, ?_⟩
            · lia
            · lia
            · refine Or.inr ⟨rfl, ?_⟩
              rcases kz with ⟨kb, -⟩ | ⟨-, j, j0, j1, hj⟩
              · first | exact ⟨k, k0, by lia, hvh.elim (fun h => absurd h.1 (by lia)) (fun h => h.2)⟩ | (exfalso; lia)
              · exact ⟨j, j0, by lia, hj⟩
          · exact zmu_up (by lia)
        · skip
          refine zG_run bkMo_hasAll_24 (lv' := [(2, .int (k + 1)), (1, .int 1), (0, .ref 393)]) (st' := []) (h' := zN sg) (Ps := []) rfl trivial ?_
          refine zG_pick (lv' := [(0, .ref 393), (1, .int 1), (2, .int (k + 1))]) [2, 1, 0] rfl ?_
          refine ih 1 (k + 1) ?_ ?_
          · refine ⟨?_, ?_, ?_⟩
            · lia
            · lia
            · refine Or.inl ⟨rfl, fun j j0 j1 => ?_⟩
              by_cases hj : j = k
              · rw [hj]; exact hvh.elim (fun h => h.2) (fun h => absurd h.1 (by assumption))
              · exact kz.elim (fun h => h.2 j j0 (by lia)) (fun h => absurd h.1 (by assumption))
          · exact zmu_up (by lia)
  · refine ⟨?_, ?_, ?_⟩
    · lia
    · lia
    · exact Or.inl ⟨rfl, fun j j0 j1 => by exfalso; lia⟩
theorem cMo_hasAll {sg : zSig}  (u0 : 0 ≤ sg 393 25) (u1 : sg 393 25 ≤ 8) : zG mMo_hasAll 411 (fun rr h' => ∃ v, rr = some (.int v) ∧ h' = zN sg ∧ ((v = 1 ∧ ∀ j, 0 ≤ j → j < sg 393 25 → mHs (mT sg) sg j = true) ∨ (v = 0 ∧ ∃ j, 0 ≤ j ∧ j < sg 393 25 ∧ mHs (mT sg) sg j = false))) 0 [(0, .ref 393)] [] (zN sg) := lMo_hasAll u0 u1 (fun _ _ q => q)
def mIo (sg : zSig) (c : Int32) : Int32 := zit (fun j a => if sg 406 j = c then 1 else a) 0 (sg 393 25)
theorem mIo_or {sg : zSig} {c : Int32} (h : 0 ≤ sg 393 25) : (mIo sg c = 1 ∧ ∃ j, 0 ≤ j ∧ j < sg 393 25 ∧ sg 406 j = c) ∨ (mIo sg c = 0 ∧ ∀ j, 0 ≤ j → j < sg 393 25 → ¬ sg 406 j = c) := zit_ex (fun j => sg 406 j = c) h
theorem bkMo_isOpen_0 : zBk mMo_isOpen 0 [(0, 0, 0, 0, 0), (2, 2, 0, 0, 0), (0, 0, 0, 0, 0), (2, 3, 0, 0, 0)] = some 4 := by decide +kernel
theorem bkMo_isOpen_4 : zBk mMo_isOpen 4 [(1, 3, 0, 0, 0), (1, 0, 1, 0, 0), (5, 10, 25, 0, 25)] = some 9 := by decide +kernel
theorem bkMo_isOpen_38 : zBk mMo_isOpen 38 [(1, 2, 0, 0, 0)] = some 39 := by decide +kernel
theorem bkMo_isOpen_12 : zBk mMo_isOpen 12 [(1, 2, 0, 0, 0)] = some 13 := by decide +kernel
theorem bkMo_isOpen_26 : zBk mMo_isOpen 26 [(0, 0, 0, 0, 1), (22, 31, 0, 0, 0), (2, 2, 0, 0, 0), (3, 3, 0, 0, 1), (22, 4, 0, 0, 0)] = some 4 := by decide +kernel
theorem bkMo_isOpen_16 : zBk mMo_isOpen 16 [(1, 0, 1, 0, 0), (5, 10, 23, 13, 23), (1, 3, 0, 0, 0), (7, 0, 0, 0, 0), (1, 1, 0, 0, 0)] = some 23 := by decide +kernel
theorem bkMo_isOpen_30 : zBk mMo_isOpen 30 [(0, 0, 0, 0, 0), (2, 2, 0, 0, 0), (3, 3, 0, 0, 1), (22, 4, 0, 0, 0)] = some 4 := by decide +kernel
theorem bdMo_isOpen_9 : decode mMo_isOpen.2.2.1 9 = .ok (.if_icmp .ge 29, 3) := by decide +kernel
theorem bdMo_isOpen_13 : decode mMo_isOpen.2.2.1 13 = .ok (.ifCond .ne 13, 3) := by decide +kernel
theorem bdMo_isOpen_23 : decode mMo_isOpen.2.2.1 23 = .ok (.if_icmp .ne 7, 3) := by decide +kernel
theorem bdMo_isOpen_39 : decode mMo_isOpen.2.2.1 39 = .ok (.ireturn, 1) := by decide +kernel
theorem lMo_isOpen {sg : zSig} {c : Int32} (u0 : 0 ≤ sg 393 25) (u1 : sg 393 25 ≤ 8) {Q : Option Value → zHp → Prop} (hq : ∀ rr h', (rr = some (.int (mIo sg c)) ∧ h' = zN sg) → Q rr h') : zG mMo_isOpen 411 Q 0 [(0, .ref 393), (1, .int c)] [] (zN sg) := by
  refine zG_run bkMo_isOpen_0 (lv' := [(3, .int 0), (2, .int 0), (0, .ref 393), (1, .int c)]) (st' := []) (h' := zN sg) (Ps := []) rfl trivial ?_
  refine zG_pick (lv' := [(0, .ref 393), (1, .int c), (2, .int 0), (3, .int 0)]) [2, 3, 1, 0] rfl ?_
  refine zlp2 (fun (b : Int32) (k : Int32) => zG mMo_isOpen 411 Q 4 [(0, .ref 393), (1, .int c), (2, .int b), (3, .int k)] [] (zN sg)) (fun (b : Int32) (k : Int32) => (0 ≤ k) ∧ (k ≤ sg 393 25) ∧ ((b = 1 ∧ ∃ j, 0 ≤ j ∧ j < k ∧ sg 406 j = c) ∨ (b = 0 ∧ ∀ j, 0 ≤ j → j < k → ¬ sg 406 j = c))) (fun (b : Int32) (k : Int32) => zmu (sg 393 25) k) ?_ 0 0 ?_
  · intro b k hI ih
    obtain ⟨k0, k1, kz⟩ := hI
    refine zb_icge (tgt := 38) bkMo_isOpen_4 bdMo_isOpen_9 (by decide) (lv' := [(0, .ref 393), (1, .int c), (2, .int b), (3, .int k)]) (st' := []) (h' := zN sg) (x := k) (y := sg 393 25) (Ps := [zOb (zN sg) 393 10]) rfl (zA zob_393 trivial) (fun c1 => ?_) (fun c1 => ?_)
    · skip
      refine zb_zret bkMo_isOpen_38 bdMo_isOpen_39 rfl (x := b) (h' := zN sg) (Ps := []) rfl trivial rfl (by rcases kz with ⟨h, -⟩ | ⟨h, -⟩ <;> simp [h]) ?_
      refine hq _ _ ?_
      refine ⟨?_, rfl⟩
      rw [show k = sg 393 25 by lia] at kz
      rcases kz with ⟨h1, j, j0, j1, hj⟩ | ⟨h1, h2⟩ <;> rcases mIo_or (c := c) u0 with ⟨g1, i, i0, i1, hi⟩ | ⟨g1, g2⟩
      · rw [g1, h1]
      · exact absurd hj (g2 j j0 j1)
      · exact absurd hi (h2 i i0 i1)
      · rw [g1, h1]
    · skip
      refine zb_ifne (tgt := 26) bkMo_isOpen_12 bdMo_isOpen_13 (by decide) (lv' := [(0, .ref 393), (1, .int c), (2, .int b), (3, .int k)]) (st' := []) (h' := zN sg) (x := b) (Ps := []) rfl trivial (fun c2 => ?_) (fun c2 => ?_)
      · skip
        refine zG_run bkMo_isOpen_26 (lv' := [(3, .int (k + 1)), (2, .int 1), (0, .ref 393), (1, .int c)]) (st' := []) (h' := zN sg) (Ps := []) rfl trivial ?_
        refine zG_pick (lv' := [(0, .ref 393), (1, .int c), (2, .int 1), (3, .int (k + 1))]) [2, 3, 1, 0] rfl ?_
        refine ih 1 (k + 1) ?_ ?_
        · refine ⟨?_, ?_, ?_⟩
          · lia
          · lia
          · refine Or.inl ⟨rfl, ?_⟩
            first | exact ⟨k, k0, by lia, by assumption⟩ | exact kz.elim (fun h => h.2.elim (fun j hj => ⟨j, hj.1, by have := hj.2.1; lia, hj.2.2⟩)) (fun h => absurd h.1 (by assumption))
        · exact zmu_up (by lia)
      · skip
        refine zb_icne (tgt := 30) bkMo_isOpen_16 bdMo_isOpen_23 (by decide) (lv' := [(0, .ref 393), (1, .int c), (2, .int b), (3, .int k)]) (st' := []) (h' := zN sg) (x := sg 406 k) (y := c) (Ps := [zOb (zN sg) 393 10 ∧ (zN sg).2.2 393 23 = true, zInL (zN sg) 406 k]) rfl (zA ⟨zob_393, rfl⟩ (zA (zinL_406 (i := k) (by lia) (by lia)) trivial)) (fun c3 => ?_) (fun c3 => ?_)
        · skip
          refine zG_run bkMo_isOpen_30 (lv' := [(3, .int (k + 1)), (2, .int 0), (0, .ref 393), (1, .int c)]) (st' := []) (h' := zN sg) (Ps := []) rfl trivial ?_
          refine zG_pick (lv' := [(0, .ref 393), (1, .int c), (2, .int 0), (3, .int (k + 1))]) [2, 3, 1, 0] rfl ?_
          refine ih 0 (k + 1) ?_ ?_
          · refine ⟨?_, ?_, ?_⟩
            · lia
            · lia
            · refine Or.inr ⟨rfl, fun j j0 j1 => ?_⟩
              by_cases hj : j = k
              · rw [hj]; assumption
              · exact kz.elim (fun h => absurd h.1 (by lia)) (fun h => h.2 j j0 (by lia))
          · exact zmu_up (by lia)
        · skip
          refine zG_run bkMo_isOpen_26 (lv' := [(3, .int (k + 1)), (2, .int 1), (0, .ref 393), (1, .int c)]) (st' := []) (h' := zN sg) (Ps := []) rfl trivial ?_
          refine zG_pick (lv' := [(0, .ref 393), (1, .int c), (2, .int 1), (3, .int (k + 1))]) [2, 3, 1, 0] rfl ?_
          refine ih 1 (k + 1) ?_ ?_
          · refine ⟨?_, ?_, ?_⟩
            · lia
            · lia
            · refine Or.inl ⟨rfl, ?_⟩
              first | exact ⟨k, k0, by lia, by assumption⟩ | exact kz.elim (fun h => h.2.elim (fun j hj => ⟨j, hj.1, by have := hj.2.1; lia, hj.2.2⟩)) (fun h => absurd h.1 (by assumption))
          · exact zmu_up (by lia)
  · refine ⟨?_, ?_, ?_⟩
    · lia
    · lia
    · exact Or.inr ⟨rfl, fun j j0 j1 => by exfalso; lia⟩
theorem cMo_isOpen {sg : zSig} {c : Int32} (u0 : 0 ≤ sg 393 25) (u1 : sg 393 25 ≤ 8) : zG mMo_isOpen 411 (fun rr h' => rr = some (.int (mIo sg c)) ∧ h' = zN sg) 0 [(0, .ref 393), (1, .int c)] [] (zN sg) := lMo_isOpen u0 u1 (fun _ _ q => q)
def hCl (sg : zSig) : zSig := hPu (hPu (hPu (hPu (zup sg 393 25 (sg 393 25 - 1)) 91) 47) (sg 406 (sg 393 25 - 1))) 93
theorem cl25 {sg : zSig} : hCl sg 393 25 = sg 393 25 - 1 := by unfold hCl; simp only [pu25]; exact zup_s
theorem cl27 {sg : zSig} : hCl sg 393 27 = sg 393 27 + 1 + 1 + 1 + 1 := by unfold hCl; simp only [pu27]; rw [zup_i (by decide)]
theorem clf {sg : zSig} {c : Nat} {j : Int32} (h : c ≠ 408) (h2 : c ≠ 393 ∨ (j ≠ 25 ∧ j ≠ 27)) : hCl sg c j = sg c j := by
  have h3 : c ≠ 393 ∨ j ≠ 27 := h2.elim Or.inl (fun q => Or.inr q.2)
  unfold hCl; rw [puf h h3, puf h h3, puf h h3, puf h h3, zup_e, if_neg (by rintro ⟨q1, q2⟩; exact h2.elim (fun g => g q1) (fun g => g.1 q2))]
theorem bkMo_closes_0 : zBk mMo_closes 0 [(1, 0, 1, 0, 0), (18, 0, 0, 0, 0), (5, 10, 25, 0, 25), (0, 0, 0, 0, 1), (4, 1, 0, 0, 0), (6, 10, 25, 0, 25)] = some 10 := by decide +kernel
theorem bkMo_closes_10 : zBk mMo_closes 10 [(1, 0, 1, 0, 0), (0, 0, 0, 0, 91)] = some 13 := by decide +kernel
theorem bkMo_closes_16 : zBk mMo_closes 16 [(1, 0, 1, 0, 0), (0, 0, 0, 0, 47)] = some 19 := by decide +kernel
theorem bkMo_closes_22 : zBk mMo_closes 22 [(1, 0, 1, 0, 0), (1, 0, 1, 0, 0), (5, 10, 23, 13, 23), (1, 0, 1, 0, 0), (5, 10, 25, 0, 25), (7, 0, 0, 0, 0)] = some 32 := by decide +kernel
theorem bkMo_closes_35 : zBk mMo_closes 35 [(1, 0, 1, 0, 0), (0, 0, 0, 0, 93)] = some 38 := by decide +kernel
theorem bkMo_closes_41 : zBk mMo_closes 41 [] = some 41 := by decide +kernel
theorem bdMo_closes_13 : decode mMo_closes.2.2.1 13 = .ok (.invokevirtual 237, 3) := by decide +kernel
theorem bdMo_closes_19 : decode mMo_closes.2.2.1 19 = .ok (.invokevirtual 237, 3) := by decide +kernel
theorem bdMo_closes_32 : decode mMo_closes.2.2.1 32 = .ok (.invokevirtual 237, 3) := by decide +kernel
theorem bdMo_closes_38 : decode mMo_closes.2.2.1 38 = .ok (.invokevirtual 237, 3) := by decide +kernel
theorem bdMo_closes_41 : decode mMo_closes.2.2.1 41 = .ok (.return_, 1) := by decide +kernel
theorem cMo_closes {sg : zSig}  (u0 : 0 < sg 393 25) (u1 : sg 393 25 ≤ 8) (w0 : 0 ≤ sg 393 27) (w1 : sg 393 27 ≤ 9990) : zG mMo_closes 411 (fun rr h' => rr = none ∧ h' = zN (hCl sg)) 0 [(0, .ref 393)] [] (zN sg) := by
  refine zG_run bkMo_closes_0 (lv' := [(0, .ref 393)]) (st' := []) (h' := zN (zup sg 393 25 ((sg 393 25) - 1))) (Ps := [zOb (zN sg) 393 10, zOb (zN sg) 393 10]) rfl (zA zob_393 (zA zob_393 trivial)) ?_
  refine zG_nm (sg := zup sg 393 25 ((sg 393 25) - 1)) (fun s1 e1 => ?_)
  have y25 : s1 393 25 = sg 393 25 - 1 := by rw [e1]; exact zup_s
  have y27 : s1 393 27 = sg 393 27 := by rw [e1]; exact zup_i (by decide)
  have y6 : ∀ j, s1 406 j = sg 406 j := fun j => by rw [e1, zup_a (by decide)]
  refine zG_run bkMo_closes_10 (lv' := [(0, .ref 393)]) (st' := [.int 91, .ref 393]) (h' := zN s1) (Ps := []) rfl trivial ?_
  refine zG_callv (a := 393) (c := 10) (As := [.int 91]) (rest := []) (N2 := 411) bdMo_closes_13 okMo_put lk10_237 (And.intro (by decide) (by decide)) (by decide) rfl rfl rfl (Nat.le_of_ble_eq_true rfl) (Nat.le_of_ble_eq_true rfl) (Nat.le_refl 411) (Nat.le_refl 411) zob_393 (cMo_put (v := 91) (by (try simp only [pu25, pu27, pu6, pu7]); lia) (by (try simp only [pu25, pu27, pu6, pu7]); lia)) ?_
  rintro rr h' ⟨rfl, rfl⟩ -
  refine zG_run bkMo_closes_16 (lv' := [(0, .ref 393)]) (st' := [.int 47, .ref 393]) (h' := zN (hPu s1 91)) (Ps := []) rfl trivial ?_
  refine zG_callv (a := 393) (c := 10) (As := [.int 47]) (rest := []) (N2 := 411) bdMo_closes_19 okMo_put lk10_237 (And.intro (by decide) (by decide)) (by decide) rfl rfl rfl (Nat.le_of_ble_eq_true rfl) (Nat.le_of_ble_eq_true rfl) (Nat.le_refl 411) (Nat.le_refl 411) zob_393 (cMo_put (v := 47) (by (try simp only [pu25, pu27, pu6, pu7]); lia) (by (try simp only [pu25, pu27, pu6, pu7]); lia)) ?_
  rintro rr h' ⟨rfl, rfl⟩ -
  refine zG_run bkMo_closes_22 (lv' := [(0, .ref 393)]) (st' := [.int ((hPu (hPu s1 91) 47) 406 ((hPu (hPu s1 91) 47) 393 25)), .ref 393]) (h' := zN (hPu (hPu s1 91) 47)) (Ps := [zOb (zN (hPu (hPu s1 91) 47)) 393 10 ∧ (zN (hPu (hPu s1 91) 47)).2.2 393 23 = true, zOb (zN (hPu (hPu s1 91) 47)) 393 10, zInL (zN (hPu (hPu s1 91) 47)) 406 ((hPu (hPu s1 91) 47) 393 25)]) rfl (zA ⟨zob_393, rfl⟩ (zA zob_393 (zA (zinL_406 (i := (hPu (hPu s1 91) 47) 393 25) (by (try simp only [pu25, pu27, pu6, pu7]); lia) (by (try simp only [pu25, pu27, pu6, pu7]); lia)) trivial))) ?_
  refine zG_callv (a := 393) (c := 10) (As := [.int ((hPu (hPu s1 91) 47) 406 ((hPu (hPu s1 91) 47) 393 25))]) (rest := []) (N2 := 411) bdMo_closes_32 okMo_put lk10_237 (And.intro (by decide) (by decide)) (by decide) rfl rfl rfl (Nat.le_of_ble_eq_true rfl) (Nat.le_of_ble_eq_true rfl) (Nat.le_refl 411) (Nat.le_refl 411) zob_393 (cMo_put (v := (hPu (hPu s1 91) 47) 406 ((hPu (hPu s1 91) 47) 393 25)) (by (try simp only [pu25, pu27, pu6, pu7]); lia) (by (try simp only [pu25, pu27, pu6, pu7]); lia)) ?_
  rintro rr h' ⟨rfl, rfl⟩ -
  refine zG_run bkMo_closes_35 (lv' := [(0, .ref 393)]) (st' := [.int 93, .ref 393]) (h' := zN (hPu (hPu (hPu s1 91) 47) ((hPu (hPu s1 91) 47) 406 ((hPu (hPu s1 91) 47) 393 25)))) (Ps := []) rfl trivial ?_
  refine zG_callv (a := 393) (c := 10) (As := [.int 93]) (rest := []) (N2 := 411) bdMo_closes_38 okMo_put lk10_237 (And.intro (by decide) (by decide)) (by decide) rfl rfl rfl (Nat.le_of_ble_eq_true rfl) (Nat.le_of_ble_eq_true rfl) (Nat.le_refl 411) (Nat.le_refl 411) zob_393 (cMo_put (v := 93) (by (try simp only [pu25, pu27, pu6, pu7]); lia) (by (try simp only [pu25, pu27, pu6, pu7]); lia)) ?_
  rintro rr h' ⟨rfl, rfl⟩ -
  refine zb_vret bkMo_closes_41 bdMo_closes_41 rfl (h' := zN (hPu (hPu (hPu (hPu s1 91) 47) ((hPu (hPu s1 91) 47) 406 ((hPu (hPu s1 91) 47) 393 25))) 93)) (Ps := []) rfl trivial rfl ?_
  refine ⟨rfl, ?_⟩
  simp only [pu25, pu6, y25, y6]
  rw [e1]; rfl
def hPn (sg : zSig) (c d : Int32) : zSig := hPu (hPu (zup (zup (zup sg 406 (sg 393 25) c) 407 (sg 393 25) d) 393 25 (sg 393 25 + 1)) 91) c
def hOpn (c d : Int32) (sg : zSig) : zSig := if mIo sg c ≠ 0 then sg else hPu (if gFl c = 0 then hPu (hPn sg c d) (48 + d) else hPn sg c d) 93
theorem pn25 {sg : zSig} {c d : Int32} : hPn sg c d 393 25 = sg 393 25 + 1 := by unfold hPn; rw [pu25, pu25, zup_s]
theorem pn27 {sg : zSig} {c d : Int32} : hPn sg c d 393 27 = sg 393 27 + 1 + 1 := by unfold hPn; rw [pu27, pu27, zup_i (by decide), zup_a (by decide), zup_a (by decide)]
theorem pn6 {sg : zSig} {c d j : Int32} : hPn sg c d 406 j = if j = sg 393 25 then c else sg 406 j := by unfold hPn; rw [pu6, pu6, zup_a (by decide), zup_a (by decide), zup_e]; simp only [true_and]
theorem pn7 {sg : zSig} {c d j : Int32} : hPn sg c d 407 j = if j = sg 393 25 then d else sg 407 j := by unfold hPn; rw [pu7, pu7, zup_a (by decide), zup_e, zup_a (by decide)]; simp only [true_and]
theorem pnf {sg : zSig} {v d : Int32} {c : Nat} {j : Int32} (h1 : c ≠ 406) (h2 : c ≠ 407) (h : c ≠ 408) (h3 : c ≠ 393 ∨ (j ≠ 25 ∧ j ≠ 27)) : hPn sg v d c j = sg c j := by
  have h4 : c ≠ 393 ∨ j ≠ 27 := h3.elim Or.inl (fun q => Or.inr q.2)
  unfold hPn; rw [puf h h4, puf h h4, zup_e, if_neg (by rintro ⟨q1, q2⟩; exact h3.elim (fun g => g q1) (fun g => g.1 q2)), zup_a h2, zup_a h1]
theorem op_or (c d : Int32) (sg : zSig) : (mIo sg c ≠ 0 ∧ hOpn c d sg = sg) ∨ (mIo sg c = 0 ∧ hOpn c d sg 393 25 = sg 393 25 + 1 ∧ (hOpn c d sg 393 27 = sg 393 27 + 3 ∨ hOpn c d sg 393 27 = sg 393 27 + 4) ∧ (∀ j, hOpn c d sg 406 j = if j = sg 393 25 then c else sg 406 j) ∧ (∀ j, hOpn c d sg 407 j = if j = sg 393 25 then d else sg 407 j) ∧ ∀ x j, x ≠ 406 → x ≠ 407 → x ≠ 408 → (x ≠ 393 ∨ (j ≠ 25 ∧ j ≠ 27)) → hOpn c d sg x j = sg x j) := by
  by_cases h : mIo sg c ≠ 0
  · exact Or.inl ⟨h, by unfold hOpn; rw [if_pos h]⟩
  · refine Or.inr ⟨Classical.not_not.mp h, ?_⟩
    unfold hOpn; rw [if_neg h]
    by_cases hg : gFl c = 0
    · rw [if_pos hg]
      exact ⟨by rw [pu25, pu25, pn25], Or.inr (by rw [pu27, pu27, pn27]; grind), fun j => by rw [pu6, pu6, pn6], fun j => by rw [pu7, pu7, pn7], fun x j h1 h2 h3 h4 => by rw [puf h3 (h4.elim Or.inl (fun q => Or.inr q.2)), puf h3 (h4.elim Or.inl (fun q => Or.inr q.2)), pnf h1 h2 h3 h4]⟩
    · rw [if_neg hg]
      exact ⟨by rw [pu25, pn25], Or.inl (by rw [pu27, pn27]; grind), fun j => by rw [pu6, pn6], fun j => by rw [pu7, pn7], fun x j h1 h2 h3 h4 => by rw [puf h3 (h4.elim Or.inl (fun q => Or.inr q.2)), pnf h1 h2 h3 h4]⟩
def okWm (sg S : zSig) (b : Int32) : Prop := okO S ∧ (∀ c j, c ≠ 406 → c ≠ 407 → c ≠ 408 → (c ≠ 393 ∨ (j ≠ 25 ∧ j ≠ 27)) → S c j = sg c j) ∧ 0 ≤ S 393 27 ∧ S 393 27 ≤ b
theorem okWm_o {sg S : zSig} {b c d : Int32} (b0 : 0 ≤ b) (b1 : b ≤ 10000) (hc : fKd c ≠ -1) (h : okWm sg S b) : okWm sg (hOpn c d S) (b + 4) := by
  obtain ⟨⟨⟨o0, o1⟩, o2, o3⟩, hf, w0, w1⟩ := h
  rcases op_or c d S with ⟨-, e⟩ | ⟨hm, e5, e7, e6, -, ef⟩
  · rw [e]; exact ⟨⟨⟨o0, o1⟩, o2, o3⟩, hf, w0, by lia⟩
  · have hn : ∀ j, 0 ≤ j → j < S 393 25 → ¬ S 406 j = c := by
      rcases mIo_or (c := c) o0 with ⟨g, -⟩ | ⟨-, g⟩
      · rw [hm] at g; exact absurd g (by decide)
      · exact g
    have h5 := okO_5 (sg := S) ⟨⟨o0, o1⟩, o2, o3⟩ hc hn
    refine ⟨⟨⟨by lia, by lia⟩, fun j j0 j1 => ?_, fun i j i0 i1 j1 => ?_⟩, fun x j h1 h2 h3 h4 => by rw [ef x j h1 h2 h3 h4]; exact hf x j h1 h2 h3 h4, ?_, ?_⟩
    · rw [e6]; by_cases hj : j = S 393 25
      · rw [if_pos hj]; exact hc
      · rw [if_neg hj]; exact o2 j j0 (by lia)
    · rw [e6, e6, if_neg (by lia)]
      by_cases hj : j = S 393 25
      · rw [if_pos hj]; exact hn i i0 (by lia)
      · rw [if_neg hj]; exact o3 i j i0 i1 (by lia)
    · rcases e7 with e | e <;> lia
    · rcases e7 with e | e <;> lia
theorem bkMo_opens_0 : zBk mMo_opens 0 [(1, 0, 1, 0, 0), (1, 1, 0, 0, 0)] = some 2 := by decide +kernel
theorem bkMo_opens_5 : zBk mMo_opens 5 [] = some 5 := by decide +kernel
theorem bkMo_opens_9 : zBk mMo_opens 9 [(1, 0, 1, 0, 0), (5, 10, 23, 13, 23), (1, 0, 1, 0, 0), (5, 10, 25, 0, 25), (1, 1, 0, 0, 0), (8, 0, 0, 0, 0), (1, 0, 1, 0, 0), (5, 10, 24, 14, 24), (1, 0, 1, 0, 0), (5, 10, 25, 0, 25), (1, 2, 0, 0, 0), (8, 0, 0, 0, 0), (1, 0, 1, 0, 0), (18, 0, 0, 0, 0), (5, 10, 25, 0, 25), (0, 0, 0, 0, 1), (4, 0, 0, 0, 0), (6, 10, 25, 0, 25)] = some 39 := by decide +kernel
theorem bkMo_opens_39 : zBk mMo_opens 39 [(1, 0, 1, 0, 0), (0, 0, 0, 0, 91)] = some 42 := by decide +kernel
theorem bkMo_opens_45 : zBk mMo_opens 45 [(1, 0, 1, 0, 0), (1, 1, 0, 0, 0)] = some 47 := by decide +kernel
theorem bkMo_opens_50 : zBk mMo_opens 50 [(1, 1, 0, 0, 0)] = some 51 := by decide +kernel
theorem bkMo_opens_54 : zBk mMo_opens 54 [] = some 54 := by decide +kernel
theorem bkMo_opens_65 : zBk mMo_opens 65 [(1, 0, 1, 0, 0), (0, 0, 0, 0, 93)] = some 68 := by decide +kernel
theorem bkMo_opens_71 : zBk mMo_opens 71 [] = some 71 := by decide +kernel
theorem bkMo_opens_57 : zBk mMo_opens 57 [(1, 0, 1, 0, 0), (0, 0, 0, 0, 48), (1, 2, 0, 0, 0), (4, 0, 0, 0, 0)] = some 62 := by decide +kernel
theorem bkMo_opens_8 : zBk mMo_opens 8 [] = some 8 := by decide +kernel
theorem bdMo_opens_2 : decode mMo_opens.2.2.1 2 = .ok (.invokevirtual 240, 3) := by decide +kernel
theorem bdMo_opens_5 : decode mMo_opens.2.2.1 5 = .ok (.ifCond .eq 4, 3) := by decide +kernel
theorem bdMo_opens_8 : decode mMo_opens.2.2.1 8 = .ok (.return_, 1) := by decide +kernel
theorem bdMo_opens_42 : decode mMo_opens.2.2.1 42 = .ok (.invokevirtual 237, 3) := by decide +kernel
theorem bdMo_opens_47 : decode mMo_opens.2.2.1 47 = .ok (.invokevirtual 237, 3) := by decide +kernel
theorem bdMo_opens_51 : decode mMo_opens.2.2.1 51 = .ok (.invokestatic 213, 3) := by decide +kernel
theorem bdMo_opens_54 : decode mMo_opens.2.2.1 54 = .ok (.ifCond .ne 11, 3) := by decide +kernel
theorem bdMo_opens_62 : decode mMo_opens.2.2.1 62 = .ok (.invokevirtual 237, 3) := by decide +kernel
theorem bdMo_opens_68 : decode mMo_opens.2.2.1 68 = .ok (.invokevirtual 237, 3) := by decide +kernel
theorem bdMo_opens_71 : decode mMo_opens.2.2.1 71 = .ok (.return_, 1) := by decide +kernel
theorem cMo_opens {sg : zSig} {c d : Int32} (ok : okO sg) (hc : fKd c ≠ -1) (w0 : 0 ≤ sg 393 27) (w1 : sg 393 27 ≤ 9990) : zG mMo_opens 411 (fun rr h' => rr = none ∧ h' = zN (hOpn c d sg)) 0 [(0, .ref 393), (1, .int c), (2, .int d)] [] (zN sg) := by
  have u0 := ok.1.1
  have u1 := ok.1.2
  refine zG_run bkMo_opens_0 (lv' := [(0, .ref 393), (1, .int c), (2, .int d)]) (st' := [.int c, .ref 393]) (h' := zN sg) (Ps := []) rfl trivial ?_
  refine zG_callv (a := 393) (c := 10) (As := [.int c]) (rest := []) (N2 := 411) bdMo_opens_2 okMo_isOpen lk10_240 (And.intro (by decide) (by decide)) (by decide) rfl rfl rfl (Nat.le_of_ble_eq_true rfl) (Nat.le_of_ble_eq_true rfl) (Nat.le_refl 411) (Nat.le_refl 411) zob_393 (cMo_isOpen (by lia) (by lia)) ?_
  rintro rr h' ⟨rfl, rfl⟩ -
  refine zb_ifeq (tgt := 9) bkMo_opens_5 bdMo_opens_5 (by decide) (lv' := [(0, .ref 393), (1, .int c), (2, .int d)]) (st' := []) (h' := zN sg) (x := mIo sg c) (Ps := []) rfl trivial (fun c1 => ?_) (fun c1 => ?_)
  · skip
    have o5 : sg 393 25 ≤ 5 := okO_5 ok hc ((mIo_or (c := c) u0).elim (fun g => absurd g.1 (by lia)) (fun g => g.2))
    refine zG_run bkMo_opens_9 (lv' := [(0, .ref 393), (1, .int c), (2, .int d)]) (st' := []) (h' := zN (zup (zup (zup sg 406 (sg 393 25) c) 407 ((zup sg 406 (sg 393 25) c) 393 25) d) 393 25 (((zup (zup sg 406 (sg 393 25) c) 407 ((zup sg 406 (sg 393 25) c) 393 25) d) 393 25) + 1))) (Ps := [zOb (zN sg) 393 10 ∧ (zN sg).2.2 393 23 = true, zOb (zN sg) 393 10, zIn (zN sg) 406 0 (sg 393 25), zOb (zN (zup sg 406 (sg 393 25) c)) 393 10 ∧ (zN (zup sg 406 (sg 393 25) c)).2.2 393 24 = true, zOb (zN (zup sg 406 (sg 393 25) c)) 393 10, zIn (zN (zup sg 406 (sg 393 25) c)) 407 0 ((zup sg 406 (sg 393 25) c) 393 25), zOb (zN (zup (zup sg 406 (sg 393 25) c) 407 ((zup sg 406 (sg 393 25) c) 393 25) d)) 393 10, zOb (zN (zup (zup sg 406 (sg 393 25) c) 407 ((zup sg 406 (sg 393 25) c) 393 25) d)) 393 10]) rfl (zA ⟨zob_393, rfl⟩ (zA zob_393 (zA (zin_406 (i := sg 393 25) (by (try simp only [pu25, pu27, pu6, pu7, zup_a (show (393 : Nat) ≠ 406 by decide), zup_a (show (393 : Nat) ≠ 407 by decide)]); lia) (by (try simp only [pu25, pu27, pu6, pu7, zup_a (show (393 : Nat) ≠ 406 by decide), zup_a (show (393 : Nat) ≠ 407 by decide)]); lia)) (zA ⟨zob_393, rfl⟩ (zA zob_393 (zA (zin_407 (i := (zup sg 406 (sg 393 25) c) 393 25) (by (try simp only [pu25, pu27, pu6, pu7, zup_a (show (393 : Nat) ≠ 406 by decide), zup_a (show (393 : Nat) ≠ 407 by decide)]); lia) (by (try simp only [pu25, pu27, pu6, pu7, zup_a (show (393 : Nat) ≠ 406 by decide), zup_a (show (393 : Nat) ≠ 407 by decide)]); lia)) (zA zob_393 (zA zob_393 trivial)))))))) ?_
    refine zG_nm (sg := zup (zup (zup sg 406 (sg 393 25) c) 407 ((zup sg 406 (sg 393 25) c) 393 25) d) 393 25 (((zup (zup sg 406 (sg 393 25) c) 407 ((zup sg 406 (sg 393 25) c) 393 25) d) 393 25) + 1)) (fun s1 e0 => ?_)
    have e1 : s1 = zup (zup (zup sg 406 (sg 393 25) c) 407 (sg 393 25) d) 393 25 (sg 393 25 + 1) := by rw [e0]; simp only [zup_a (show (393 : Nat) ≠ 406 by decide), zup_a (show (393 : Nat) ≠ 407 by decide)]
    have y27 : s1 393 27 = sg 393 27 := by rw [e1, zup_i (by decide), zup_a (by decide), zup_a (by decide)]
    refine zG_run bkMo_opens_39 (lv' := [(0, .ref 393), (1, .int c), (2, .int d)]) (st' := [.int 91, .ref 393]) (h' := zN s1) (Ps := []) rfl trivial ?_
    refine zG_callv (a := 393) (c := 10) (As := [.int 91]) (rest := []) (N2 := 411) bdMo_opens_42 okMo_put lk10_237 (And.intro (by decide) (by decide)) (by decide) rfl rfl rfl (Nat.le_of_ble_eq_true rfl) (Nat.le_of_ble_eq_true rfl) (Nat.le_refl 411) (Nat.le_refl 411) zob_393 (cMo_put (v := 91) (by (try simp only [pu25, pu27, pu6, pu7]); lia) (by (try simp only [pu25, pu27, pu6, pu7]); lia)) ?_
    rintro rr h' ⟨rfl, rfl⟩ -
    refine zG_run bkMo_opens_45 (lv' := [(0, .ref 393), (1, .int c), (2, .int d)]) (st' := [.int c, .ref 393]) (h' := zN (hPu s1 91)) (Ps := []) rfl trivial ?_
    refine zG_callv (a := 393) (c := 10) (As := [.int c]) (rest := []) (N2 := 411) bdMo_opens_47 okMo_put lk10_237 (And.intro (by decide) (by decide)) (by decide) rfl rfl rfl (Nat.le_of_ble_eq_true rfl) (Nat.le_of_ble_eq_true rfl) (Nat.le_refl 411) (Nat.le_refl 411) zob_393 (cMo_put (v := c) (by (try simp only [pu25, pu27, pu6, pu7]); lia) (by (try simp only [pu25, pu27, pu6, pu7]); lia)) ?_
    rintro rr h' ⟨rfl, rfl⟩ -
    refine zG_run bkMo_opens_50 (lv' := [(0, .ref 393), (1, .int c), (2, .int d)]) (st' := [.int c]) (h' := zN (hPu (hPu s1 91) c)) (Ps := []) rfl trivial ?_
    refine zG_calls (As := [.int c]) (rest := []) (N2 := 411) bdMo_opens_51 okMo_flagOf lk10_213 (And.intro (by decide) (by decide)) rfl rfl (Nat.le_of_ble_eq_true rfl) (Nat.le_of_ble_eq_true rfl) (Nat.le_refl 411) (Nat.le_refl 411) cMo_flagOf ?_
    rintro rr h' ⟨rfl, rfl⟩ -
    refine zb_ifne (tgt := 65) bkMo_opens_54 bdMo_opens_54 (by decide) (lv' := [(0, .ref 393), (1, .int c), (2, .int d)]) (st' := []) (h' := zN (hPu (hPu s1 91) c)) (x := gFl c) (Ps := []) rfl trivial (fun c2 => ?_) (fun c2 => ?_)
    · skip
      refine zG_run bkMo_opens_65 (lv' := [(0, .ref 393), (1, .int c), (2, .int d)]) (st' := [.int 93, .ref 393]) (h' := zN (hPu (hPu s1 91) c)) (Ps := []) rfl trivial ?_
      refine zG_callv (a := 393) (c := 10) (As := [.int 93]) (rest := []) (N2 := 411) bdMo_opens_68 okMo_put lk10_237 (And.intro (by decide) (by decide)) (by decide) rfl rfl rfl (Nat.le_of_ble_eq_true rfl) (Nat.le_of_ble_eq_true rfl) (Nat.le_refl 411) (Nat.le_refl 411) zob_393 (cMo_put (v := 93) (by (try simp only [pu25, pu27, pu6, pu7]); lia) (by (try simp only [pu25, pu27, pu6, pu7]); lia)) ?_
      rintro rr h' ⟨rfl, rfl⟩ -
      refine zb_vret bkMo_opens_71 bdMo_opens_71 rfl (h' := zN (hPu (hPu (hPu s1 91) c) 93)) (Ps := []) rfl trivial rfl ?_
      refine ⟨rfl, ?_⟩
      unfold hOpn hPn
      rw [if_neg (fun q => q (by assumption)), if_neg (by assumption), e1]
    · skip
      refine zG_run bkMo_opens_57 (lv' := [(0, .ref 393), (1, .int c), (2, .int d)]) (st' := [.int (48 + d), .ref 393]) (h' := zN (hPu (hPu s1 91) c)) (Ps := []) rfl trivial ?_
      refine zG_callv (a := 393) (c := 10) (As := [.int (48 + d)]) (rest := []) (N2 := 411) bdMo_opens_62 okMo_put lk10_237 (And.intro (by decide) (by decide)) (by decide) rfl rfl rfl (Nat.le_of_ble_eq_true rfl) (Nat.le_of_ble_eq_true rfl) (Nat.le_refl 411) (Nat.le_refl 411) zob_393 (cMo_put (v := 48 + d) (by (try simp only [pu25, pu27, pu6, pu7]); lia) (by (try simp only [pu25, pu27, pu6, pu7]); lia)) ?_
      rintro rr h' ⟨rfl, rfl⟩ -
      refine zG_run bkMo_opens_65 (lv' := [(0, .ref 393), (1, .int c), (2, .int d)]) (st' := [.int 93, .ref 393]) (h' := zN (hPu (hPu (hPu s1 91) c) (48 + d))) (Ps := []) rfl trivial ?_
      refine zG_callv (a := 393) (c := 10) (As := [.int 93]) (rest := []) (N2 := 411) bdMo_opens_68 okMo_put lk10_237 (And.intro (by decide) (by decide)) (by decide) rfl rfl rfl (Nat.le_of_ble_eq_true rfl) (Nat.le_of_ble_eq_true rfl) (Nat.le_refl 411) (Nat.le_refl 411) zob_393 (cMo_put (v := 93) (by (try simp only [pu25, pu27, pu6, pu7]); lia) (by (try simp only [pu25, pu27, pu6, pu7]); lia)) ?_
      rintro rr h' ⟨rfl, rfl⟩ -
      refine zb_vret bkMo_opens_71 bdMo_opens_71 rfl (h' := zN (hPu (hPu (hPu (hPu s1 91) c) (48 + d)) 93)) (Ps := []) rfl trivial rfl ?_
      refine ⟨rfl, ?_⟩
      unfold hOpn hPn
      rw [if_neg (fun q => q (by assumption)), if_pos (by assumption), e1]
  · skip
    refine zb_vret bkMo_opens_8 bdMo_opens_8 rfl (h' := zN sg) (Ps := []) rfl trivial rfl ?_
    exact ⟨rfl, by unfold hOpn; rw [if_pos (by assumption)]⟩
