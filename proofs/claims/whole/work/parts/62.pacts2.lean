/-! pairs of calls: paint, fast, end, undo, image, back -/
theorem leR_3 {s t : zSig} (h : SR s 1 (t 395)) {i : Int32} (i0 : 0 ≤ i) (i1 : i < t 395 0) : s 3 i = f3 (mRw t i) ∧ inR (mRw t i) := ⟨(h.2.2.1 i i0 i1).2.2.1, (h.2.2.1 i i0 i1).2.2.2⟩
theorem J_paint {s t : zSig} (h : SR s 1 (t 395)) {f u on of co gr : Int32} (u0 : 0 ≤ u) (u1 : u ≤ t 395 0) (on0 : 0 ≤ on ∧ on ≤ 15) (of0 : 0 ≤ of ∧ of ≤ 15) (co0 : -1 ≤ co ∧ co ≤ 7) : zit (nPm t f on of co gr) 0 u = zit (nPt s f on of co gr) 0 u := by
  refine zit_congr u0 (fun i x i0 i1 => ?_)
  obtain ⟨l1, l2⟩ := leR_3 h i0 (Int32.lt_of_lt_of_le i1 u1)
  have l3 := mLk_R (gr := gr) l2 on0 of0 co0
  unfold nPm nPt
  rw [l1, f3_br l2]
  by_cases hf : f ≤ i
  · rw [if_pos hf]
    by_cases he : mRw t i = mLk on of co gr (mRw t i)
    · rw [if_pos he, if_neg (fun q => q.2 (congrArg f3 he.symm)), z0p]
    · rw [if_neg he, if_pos ⟨hf, fun q => he (f3_inj l3 l2 q).symm⟩]
  · rw [if_neg hf, if_neg (fun q => hf q.1)]
theorem n01 {n : Int32} (h : 0 ≤ n ∧ n ≤ 1) : n < 2 := by lia
theorem hL_u {s s1 : zSig} {n : Int32} (h0 : 0 ≤ s 36 2) (h1 : s 36 2 < 8) (e : s1 36 2 = hL s 1) (n0 : 1 ≤ n) (n1 : n ≤ 7) : hL s1 n = hL s (n + 1) := by
  unfold hL at e ⊢
  by_cases h : s 36 2 - 1 < 0
  · rw [if_pos h] at e
    rw [e, if_neg (by lia), if_pos (by lia)]; lia
  · rw [if_neg h] at e
    rw [e]
    by_cases h2 : s 36 2 - 1 - n < 0
    · rw [if_pos h2, if_pos (by lia)]; lia
    · rw [if_neg h2, if_neg (by lia)]; lia
theorem i311 {k n : Int32} (k0 : 0 ≤ k) (k1 : k < 2) (n0 : 0 ≤ n) (n1 : n < 2) (h : k ≠ n) : zel 311 k + 33 ≤ zel 311 n ∨ zel 311 n + 33 ≤ zel 311 k := by
  obtain ⟨i, hi, ei, e1⟩ := zel_311 k0 k1
  obtain ⟨j, hj, ej, e2⟩ := zel_311 n0 n1
  have : i ≠ j := fun q => h (by rw [ei, ej, q])
  rw [e1, e2]; omega
theorem o995 {k n j : Int32} (k0 : 0 ≤ k) (k1 : k < 2) (n0 : 0 ≤ n) (n1 : n < 2) (h : k ≠ n) (j0 : 0 ≤ j) (j1 : j < 995) : ¬ (995 * n ≤ 995 * k + j ∧ 995 * k + j < 995 * n + 995) := by lia
theorem i995 {n j : Int32} (n0 : 0 ≤ n) (n1 : n < 2) (j0 : 0 ≤ j) (j1 : j < 995) : (995 * n ≤ 995 * n + j ∧ 995 * n + j < 995 * n + 995) ∧ 0 + (995 * n + j - 995 * n) = j := by lia
theorem j995 {j : Int32} (j0 : 0 ≤ j) (j1 : j < 995) : 0 ≤ j ∧ j < 0 + 995 := by lia
theorem b995 {n j : Int32} : 995 * n + (j - 0) = 995 * n + j := by lia
theorem u1le {x : Int32} (h : x ≠ 0) (h0 : 0 ≤ x) : 1 ≤ x := by lia
theorem u1b {x : Int32} (h : x ≠ 0) (h0 : 0 ≤ x) (h8 : x ≤ 8) : 0 ≤ x - 1 ∧ x - 1 ≤ 8 := by lia
theorem u1n {x n : Int32} (n0 : 1 ≤ n) (n1 : n ≤ x - 1) (h0 : 0 ≤ x) (h8 : x ≤ 8) : n ≤ 7 ∧ 1 ≤ n + 1 ∧ n + 1 ≤ x ∧ n + 1 ≤ 8 ∧ x - 1 - n = x - (n + 1) := by
  have a1 : x - 1 ≤ 7 := by lia
  have a2 : n ≤ 7 := Int32.le_trans n1 a1
  refine ⟨a2, by lia, by lia, by lia, by grind⟩
theorem Q_act2 {t s2 t2 : zSig} {v v' : Int32} (e : v' = v) (h : R5 s2 t2 ∧ RT s2 t2 ∧ RG s2 t2 ∧ okF s2) (hf : ∀ c j, c < 393 ∨ 411 ≤ c → t2 c j = t c j) : ∃ t3, (some (Value.int v') : Option Value) = some (.int v) ∧ zN (hTell t2) = zN t3 ∧ R2 (hGrC s2) t3 ∧ ∀ c j, c < 393 ∨ 411 ≤ c → t3 c j = t c j :=
  ⟨hTell t2, by rw [e], rfl, R2_gr h.1 h.2.1 h.2.2.1 h.2.2.2, fun c j q => by rw [hTell_f (Or.inl (by omega))]; exact hf c j q⟩
set_option maxHeartbeats 2000000 in
theorem K_paint {s : zSig} {f t on of co gr : Int32} (h : R2 s s) : Pair s (fun rr h' => (rr = some (.int (-1)) ∧ h' = zN (hRfC s (-1)) ∧ (¬ ((0 ≤ f ∧ f < t ∧ t ≤ s 1 2) ∧ (0 ≤ on ∧ on ≤ 15) ∧ (0 ≤ of ∧ of ≤ 15) ∧ (co = -1 ∨ (0 ≤ co ∧ co ≤ 7)) ∧ -3 ≤ gr ∧ gr ≤ 3))) ∨ (((0 ≤ f ∧ f < t ∧ t ≤ s 1 2) ∧ (0 ≤ on ∧ on ≤ 15) ∧ (0 ≤ of ∧ of ≤ 15) ∧ (co = -1 ∨ (0 ≤ co ∧ co ≤ 7)) ∧ -3 ≤ gr ∧ gr ≤ 3) ∧ ∃ sg1 sg2, hBeg s sg1 7 0 0 0 ∧ (∀ c j, c ≠ 3 → sg2 c j = sg1 c j) ∧ (∀ j, sg2 3 j = if f ≤ j ∧ j < t then fBr (sg1 3 j) on of co gr else sg1 3 j) ∧ rr = some (.int (zit (nPt s f on of co gr) 0 t)) ∧ h' = zN (hGrC sg2))) (fun τ => fun rr h' => (rr = some (.int (-1)) ∧ h' = zN (hRef τ (-1)) ∧ (¬ ((0 ≤ f ∧ f < t ∧ t ≤ τ 395 0) ∧ (0 ≤ on ∧ on ≤ 15) ∧ (0 ≤ of ∧ of ≤ 15) ∧ (-1 ≤ co ∧ co ≤ 7) ∧ -3 ≤ gr ∧ gr ≤ 3))) ∨ (((0 ≤ f ∧ f < t ∧ t ≤ τ 395 0) ∧ (0 ≤ on ∧ on ≤ 15) ∧ (0 ≤ of ∧ of ≤ 15) ∧ (-1 ≤ co ∧ co ≤ 7) ∧ -3 ≤ gr ∧ gr ≤ 3) ∧ ∃ sg1 sg2, mRem τ sg1 7 ∧ mPn sg1 sg2 f t (fun i => mLk on of co gr (mRw sg1 i)) ∧ rr = some (.int (zit (nPm sg1 f on of co gr) 0 t)) ∧ h' = zN (hTell sg2))) := by
  rintro rr h' (⟨rfl, rfl, a⟩ | ⟨a, s1, s2, hb, hf, h3, rfl, rfl⟩)
  · refine ⟨_, _, rfl, rfl, hRfC_m, ?_⟩
    rintro t' rr2 h2 hR hM
    rw [hR.1.1.2.1.1, col_i] at a
    rcases hM with ⟨rfl, rfl, b⟩ | ⟨b, -⟩
    · exact Q_ref hR
    · exact absurd b a
  · have fs : ∀ c j, c < 1 ∨ 34 ≤ c → s2 c j = s1 c j := fun c j q => hf c j (by omega)
    refine ⟨_, _, rfl, rfl, act_m h hb fs, ?_⟩
    rintro t' rr2 h2 hR hM
    rw [hR.1.1.2.1.1, col_i] at a
    rcases hM with ⟨rfl, rfl, b⟩ | ⟨b, t1, t2, hm, hp, rfl, rfl⟩
    · exact absurd a b
    · obtain ⟨g1, g2, g3⟩ := R_mid hR hb hm
      have e1 : t1 395 = t' 395 := funext g2
      have hs := S_paint g1 (fun c j q _ _ => hf c j q) (fun i i0 i1 => ⟨fun w => by
        obtain ⟨l1, l2⟩ := leR_3 g1 i0 i1
        rw [h3, if_pos w, l1]
        exact ⟨f3_br l2, mLk_R l2 b.2.1 b.2.2.1 b.2.2.2.1⟩, fun w => by rw [h3, if_neg w]⟩) hp b.1.1 (by rw [g2]; exact b.1.2.2)
      have gs : SR s 1 (t1 395) := by rw [e1]; exact hR.1.1
      exact Q_act (J_paint gs (Int32.le_trans b.1.1 (Int32.le_of_lt b.1.2.1)) (by rw [g2]; exact b.1.2.2) b.2.1 b.2.2.1 b.2.2.2.1) (R_act0 hR hb hm (by decide) (by decide) (by decide) (by decide) hs fs (fun c j q _ _ _ w => hp.1 c j q w))
set_option maxHeartbeats 2000000 in
theorem K_fast {s : zSig} (h : R2 s s) : Pair s (fun rr h' => ∃ sg0 sg1 sg3, hLk s sg0 ∧ hBeg sg0 sg1 8 0 0 0 ∧ (∀ c j, c ≠ 3 → (c < 6 ∨ 22 ≤ c) → sg3 c j = sg1 c j) ∧ (∀ j, 0 ≤ j → j < s 1 2 → sg3 3 j = cS s (-1) (-1) 0 j) ∧ (∀ k, 0 ≤ k → k < 16 → sg3 (zel 4 k) 0 = 0) ∧ rr = some (.int (zit (nSp s) 0 (s 1 4))) ∧ h' = zN sg3) (fun τ => fun rr h' => ∃ sg1 sg2 sg3, mRem τ sg1 8 ∧ mPn sg1 sg2 0 (τ 395 0) (mS sg1 (-1)) ∧ mZs sg2 sg3 ∧ rr = some (.int (zit (mNs sg1) 0 (τ 395 1))) ∧ h' = zN sg3) := by
  rintro rr h' ⟨s0, s1, s3, hl, hb, hf, h3, hz, rfl, rfl⟩
  have hq := hLk_Q h.1.1.1 hl
  have h0 := R2_q h hq
  have fs : ∀ c j, c < 1 ∨ 34 ≤ c → s3 c j = s1 c j := fun c j q => hf c j (by omega) (by omega)
  refine ⟨_, _, rfl, rfl, fun c j q => ?_, ?_⟩
  · rw [fs c j (by omega), (beg_fr h0.1.2.1.1.1 h0.1.2.1.1.2 hb).1 c j (by omega) (Or.inl (by omega))]
    exact hQ_m hq c j q
  rintro t' rr2 h2 hR ⟨t1, t2, t3, hm, hp, hz', rfl, rfl⟩
  have hR0 := R2_q hR hq
  obtain ⟨g1, g2, g3⟩ := R_mid hR0 hb hm
  have e1 : t1 395 = t' 395 := funext g2
  have gs : SR s 1 (t1 395) := by rw [e1]; exact hR.1.1
  obtain ⟨sI, eI⟩ : ∃ sI : zSig, sI = fun c => if c = 3 then s3 3 else s1 c := ⟨_, rfl⟩
  have f1 : ∀ c j, c ≠ 3 → sI c j = s1 c j := fun c j q => by rw [eI]; simp only [if_neg q]
  have f2 : ∀ j, sI 3 j = s3 3 j := fun j => by rw [eI]; rfl
  rw [← g2] at hp
  have hs1 : SR sI 1 (t2 395) := by
    refine S_paint g1 (fun c j q _ _ => f1 c j q) (fun i i0 i1 => ⟨fun _ => ?_, fun w => absurd ⟨i0, i1⟩ w⟩) hp (by decide) (Int32.le_refl _)
    rw [f2, h3 i i0 (by rw [gs.2.1.1]; exact i1)]
    exact SR_style gs i0 i1
  have hs : SR s3 1 (t3 395) := S_none hs1 (fun c j q _ _ => by
    by_cases hc : c = 3
    · rw [hc, f2]
    · rw [f1 c j hc]; exact hf c j hc q) hz hz'
  have e := J_spans gs
  rw [g2] at e
  have ra := R_act0 hR0 hb hm (by decide) (by decide) (by decide) (by decide) hs fs (fun c j q _ _ _ w => by rw [hz'.1 c j q]; exact hp.1 c j q w)
  exact ⟨t3, by rw [e], rfl, ra.1, ra.2.2⟩
set_option maxHeartbeats 2000000 in
theorem K_end {s : zSig} {n : Int32} (h : R2 s s) : Pair s (fun rr h' => (rr = some (.int (-1)) ∧ h' = zN s ∧ ¬ (0 ≤ n ∧ n ≤ s 34 1)) ∨ (rr = some (.int n) ∧ h' = zN (zup s 34 1 n) ∧ 0 ≤ n ∧ n ≤ s 34 1)) (fun τ => fun rr h' => (rr = some (.int (-1)) ∧ h' = zN τ ∧ ¬ (0 ≤ n ∧ n ≤ τ 393 11)) ∨ (rr = some (.int n) ∧ h' = zN (zup τ 393 11 n) ∧ 0 ≤ n ∧ n ≤ τ 393 11)) := by
  rintro rr h' (⟨rfl, rfl, a⟩ | ⟨rfl, rfl, a⟩)
  · refine ⟨_, _, rfl, rfl, fun _ _ _ => rfl, ?_⟩
    rintro t' rr2 h2 hR hM
    rw [← hR.2.1.2.1] at a
    rcases hM with ⟨rfl, rfl, b⟩ | ⟨rfl, rfl, b⟩
    · exact ⟨_, rfl, rfl, hR, fun _ _ _ => rfl⟩
    · exact absurd b a
  · refine ⟨_, _, rfl, rfl, fun c j q => zup_a (by omega), ?_⟩
    rintro t' rr2 h2 hR hM
    have a0 := a
    rw [← hR.2.1.2.1] at a
    rcases hM with ⟨rfl, rfl, b⟩ | ⟨rfl, rfl, b⟩
    · exact absurd a b
    · refine ⟨_, rfl, rfl, ⟨R5_c (fun c j q => zup_a (by omega)) (fun c j q1 q2 => zup_a (by omega)) (zup_i (by decide)) hR.1, ?_, RG_c (zup_a (by decide)) (fun k => zup_a (by decide)) (zup_a (by decide)) (zup_i (by decide)) (fun k => zup_a (by decide)) (zup_i (by decide)) hR.2.2.1, okF_c hR.2.2.2 hR.1.1.1 (fun c j q1 q2 => zup_a (by omega)) (zup_a (by decide)) (zup_a (by decide)) (fun j => zup_a (by decide))⟩, fun c j q => zup_a (by omega)⟩
      unfold RT
      rw [zup_s, zup_s]
      refine ⟨⟨a0.1, Int32.le_trans a0.2 hR.2.1.1.2⟩, rfl, fun j j0 j1 => ?_⟩
      rw [zup_a (by decide), zup_a (by decide)]
      exact hR.2.1.2.2 j j0 (Int32.lt_of_lt_of_le j1 a0.2)
set_option maxHeartbeats 2000000 in
theorem K_undo {s : zSig} (h : R2 s s) : Pair s (fun rr h' => (rr = some (.int (-4)) ∧ h' = zN (hRfC s (-4)) ∧ (s 36 3 = 0)) ∨ (s 36 3 ≠ 0 ∧ ∃ sg1, (∀ c j, (c < 1 ∨ 34 ≤ c) → c ≠ 36 → sg1 c j = zup s 0 11 0 c j) ∧ hSC s sg1 1 (zel 37 (hL s 1)) ∧ sg1 36 2 = hL s 1 ∧ sg1 36 3 = s 36 3 - 1 ∧ rr = some (.int (s (zel 38 (hL s 1)) 0)) ∧ h' = zN (hGrC sg1))) (fun τ => fun rr h' => (rr = some (.int (-4)) ∧ h' = zN (hRef τ (-4)) ∧ (τ 393 6 = 0)) ∨ (τ 393 6 ≠ 0 ∧ rr = some (.int (τ 397 (τ 393 6 - 1))) ∧ h' = zN (hTell (zcp (zup τ 393 6 (τ 393 6 - 1)) 396 395 (995 * (τ 393 6 - 1)) 0 995)))) := by
  rintro rr h' (⟨rfl, rfl, a⟩ | ⟨a, s1, hf, hc, q2, q3, rfl, rfl⟩)
  · refine ⟨_, _, rfl, rfl, hRfC_m, ?_⟩
    rintro t' rr2 h2 hR hM
    rw [← hR.1.2.1.2.2.1] at a
    rcases hM with ⟨rfl, rfl, b⟩ | ⟨b, -⟩
    · exact Q_ref hR
    · exact absurd a b
  · refine ⟨_, _, rfl, rfl, fun c j q => ?_, ?_⟩
    · rw [hGrC_f (Or.inl (by omega)), hf c j (by omega) (by omega)]
      exact zup_a (by omega)
    rintro t' rr2 h2 hR hM
    have e6 := hR.1.2.1.2.2.1
    rcases hM with ⟨rfl, rfl, b⟩ | ⟨b, rfl, rfl⟩
    · exact absurd (by rw [← e6]; exact b) a
    · obtain ⟨⟨n0, n1⟩, ⟨k0, k1⟩, -, hh⟩ := hR.1.2.1
      obtain ⟨l1, l2⟩ := hh 1 (by decide) (u1le a k0)
      have fz : ∀ c j, (34 ≤ c) → c ≠ 36 → s1 c j = s c j := fun c j x1 x2 => by rw [hf c j (by omega) x2]; exact zup_a (by omega)
      obtain ⟨t2, et⟩ : ∃ t2, t2 = zcp (zup t' 393 6 (t' 393 6 - 1)) 396 395 (995 * (t' 393 6 - 1)) 0 995 := ⟨_, rfl⟩
      rw [← et]
      have ft : ∀ c j, c ≠ 395 → (c ≠ 393 ∨ j ≠ 6) → t2 c j = t' c j := fun c j x1 x2 => by
        rw [et, zcp_e, if_neg (fun q => x1 q.1), zup_e, if_neg (fun q => x2.elim (fun g => g q.1) (fun g => g q.2))]
      have f6 : t2 393 6 = t' 393 6 - 1 := by rw [et, zcp_e, if_neg (fun q => absurd q.1 (by decide)), zup_s]
      have hs : SR s1 1 (t2 395) := SR_sc l1 hc (fun j j0 j1 => by
        rw [et, zcp_e, if_pos ⟨rfl, j995 j0 j1⟩, zup_a (by decide), b995])
      have rh : RH s1 t2 := by
        refine ⟨by rw [q2]; exact hL_r8 n0 n1 (by decide) (by decide), by rw [q3]; exact u1b a k0 k1, by rw [f6, q3, e6], fun n g0 g1 => ?_⟩
        rw [q3] at g1
        obtain ⟨w1, w2, w3, w4, w5⟩ := u1n g0 g1 k0 k1
        obtain ⟨v1, v2⟩ := hh (n + 1) w2 w3
        rw [e6, ← w5] at v1 v2
        rw [hL_u n0 n1 q2 g0 w1, f6, e6]
        obtain ⟨x0, x1⟩ := hL_r8 (n := n + 1) n0 n1 w2 w4
        have hr := zel37_34 x0 x1
        have hr2 := zel37_rng x0 x1
        exact ⟨SR_move (zel37_s x0 x1) v1 (fun c j c0 c1 => fz c j (by omega) (by omega)) (fun j _ _ => ft 396 _ (by decide) (Or.inl (by decide))), RA_c (fun f _ _ => fz _ f (by omega) (by omega)) (ft 397 _ (by decide) (Or.inl (by decide))) (fun i _ _ => ft 398 _ (by decide) (Or.inl (by decide))) v2⟩
      have ri : RI s1 t2 := RI_c (fun c j x => fz c j (by omega) (by omega)) (fun c j x1 x2 => ft c j (by omega) (Or.inl (by omega))) hR.1.2.2.1
      have e0 : s1 0 11 = 0 := by rw [hf 0 11 (by decide) (by decide), zup_s]
      have e10 : s1 0 10 = s 0 10 := by rw [hf 0 10 (by decide) (by decide)]; exact zup_i (by decide)
      refine Q_act2 (by rw [l2.1]) ⟨⟨hs, rh, ri, okM_move hR.1.2.2.2 (fun j => fz 100000 j (by decide) (by decide))⟩, RT_c (fun c j q => fz c j (by omega) (by omega)) (ft 393 11 (by decide) (by decide)) (fun j => ft 401 j (by decide) (Or.inl (by decide))) hR.2.1, RG_c e10 (fun k => fz 326 k (by decide) (by decide)) (fz 317 3 (by decide) (by decide)) (ft 393 1 (by decide) (by decide)) (fun k => ft 394 k (by decide) (Or.inl (by decide))) (ft 393 12 (by decide) (by decide)) hR.2.2.1, okF_0 e0⟩ (fun c j q => ft c j (by omega) (Or.inl (by omega)))
set_option maxHeartbeats 2000000 in
theorem K_image {s : zSig} {n : Int32} (h : R2 s s) : Pair s (fun rr h' => (rr = some (.int (-1)) ∧ h' = zN (hRfC s (-1)) ∧ (¬ (0 ≤ n ∧ n ≤ 1))) ∨ ((0 ≤ n ∧ n ≤ 1) ∧ ∃ sg1, hSB s sg1 (zel 311 n) 1 ∧ rr = some (.int (s 1 2)) ∧ h' = zN (hGrC (zup sg1 312 n 1)))) (fun τ => fun rr h' => (rr = some (.int (-1)) ∧ h' = zN (hRef τ (-1)) ∧ (¬ (0 ≤ n ∧ n ≤ 1))) ∨ ((0 ≤ n ∧ n ≤ 1) ∧ rr = some (.int (τ 395 0)) ∧ h' = zN (hTell (zup (zcp τ 395 399 0 (995 * n) 995) 400 n 1)))) := by
  rintro rr h' (⟨rfl, rfl, a⟩ | ⟨a, s1, hc, rfl, rfl⟩)
  · refine ⟨_, _, rfl, rfl, hRfC_m, ?_⟩
    rintro t' rr2 h2 hR (⟨rfl, rfl, b⟩ | ⟨b, -⟩)
    · exact Q_ref hR
    · exact absurd b a
  · have n2 := n01 a
    have hr := zel311_rng a.1 n2
    have fz : ∀ c j, c < 327 ∨ 393 ≤ c → s1 c j = s c j := fun c j q => hc.1 c j (by omega)
    refine ⟨_, _, rfl, rfl, fun c j q => ?_, ?_⟩
    · rw [hGrC_f (Or.inl (by omega)), zup_a (by omega)]
      exact fz c j (by omega)
    rintro t' rr2 h2 hR (⟨rfl, rfl, b⟩ | ⟨b, rfl, rfl⟩)
    · exact absurd a b
    · obtain ⟨t2, et⟩ : ∃ t2, t2 = zup (zcp t' 395 399 0 (995 * n) 995) 400 n 1 := ⟨_, rfl⟩
      obtain ⟨s2, es⟩ : ∃ s2, s2 = zup s1 312 n 1 := ⟨_, rfl⟩
      rw [← et, ← es]
      have fs : ∀ c j, c ≠ 312 → (c < 327 ∨ 393 ≤ c) → s2 c j = s c j := fun c j x1 x2 => by rw [es, zup_a x1]; exact fz c j x2
      have ft : ∀ c j, c ≠ 399 → c ≠ 400 → t2 c j = t' c j := fun c j x1 x2 => by
        rw [et, zup_a x2, zcp_e, if_neg (fun q => x1 q.1)]
      have ri : RI s2 t2 := by
        intro k k0 k1
        by_cases hk : k = n
        · subst hk
          refine ⟨by rw [es, et, zup_s, zup_s], fun _ => ?_⟩
          have hs : SR s1 (zel 311 k) (fun j => t2 399 (995 * k + j)) := SR_sc hR.1.1 (hSB_sc hc) (fun j j0 j1 => by
            rw [et, zup_a (by decide), zcp_e, if_pos ⟨rfl, (i995 k0 k1 j0 j1).1⟩, (i995 k0 k1 j0 j1).2])
          exact SR_move (zel311_s k0 k1) hs (fun c j c0 c1 => by rw [es]; exact zup_a (by omega)) (fun j _ _ => rfl)
        · obtain ⟨v1, v2⟩ := hR.1.2.2.1 k k0 k1
          have ho := i311 k0 k1 a.1 n2 hk
          have hr2 := zel311_rng k0 k1
          have e1 : s2 312 k = s 312 k := by rw [es, zup_i hk]; exact fz 312 k (by decide)
          have e2 : t2 400 k = t' 400 k := by rw [et, zup_i hk, zcp_e, if_neg (fun q => absurd q.1 (by decide))]
          rw [e1, e2]
          refine ⟨v1, fun q => SR_move (zel311_s k0 k1) (v2 q) (fun c j c0 c1 => ?_) (fun j j0 j1 => ?_)⟩
          · rw [es, zup_a (by omega)]; exact hc.1 c j (by omega)
          · rw [et, zup_a (by decide), zcp_e, if_neg (fun q => o995 k0 k1 a.1 n2 hk j0 j1 q.2)]
      refine Q_act2 hR.1.1.2.1.1.symm ⟨⟨SR_move iSh_1 hR.1.1 (fun c j c0 c1 => fs c j (by omega) (by omega)) (fun j _ _ => ft 395 j (by decide) (by decide)), RH_c (fun c j x1 x2 => fs c j (by omega) (by omega)) (fun c j x1 x2 => ft c j (by omega) (by omega)) (ft 393 6 (by decide) (by decide)) hR.1.2.1, ri, okM_move hR.1.2.2.2 (fun j => fs 100000 j (by decide) (by decide))⟩, RT_c (fun c j q => fs c j (by omega) (by omega)) (ft 393 11 (by decide) (by decide)) (fun j => ft 401 j (by decide) (by decide)) hR.2.1, RG_c (fs 0 10 (by decide) (by decide)) (fun k => fs 326 k (by decide) (by decide)) (fs 317 3 (by decide) (by decide)) (ft 393 1 (by decide) (by decide)) (fun k => ft 394 k (by decide) (by decide)) (ft 393 12 (by decide) (by decide)) hR.2.2.1, okF_c hR.2.2.2 hR.1.1.1 (fun c j x1 x2 => fs c j (by omega) (by omega)) (fs 0 11 (by decide) (by decide)) (fs 313 1 (by decide) (by decide)) (fun j => fs 314 j (by decide) (by decide))⟩ (fun c j q => ft c j (by omega) (by omega))
set_option maxHeartbeats 2000000 in
theorem K_back {s : zSig} {n : Int32} (h : R2 s s) : Pair s (fun rr h' => (rr = some (.int (-1)) ∧ h' = zN (hRfC s (-1)) ∧ (¬ (0 ≤ n ∧ n ≤ 1))) ∨ (rr = some (.int (-2)) ∧ h' = zN (hRfC s (-2)) ∧ ((0 ≤ n ∧ n ≤ 1) ∧ s 312 n = 0)) ∨ ((0 ≤ n ∧ n ≤ 1) ∧ s 312 n ≠ 0 ∧ ∃ sg1, hSB (zup s 0 11 0) sg1 1 (zel 311 n) ∧ rr = some (.int (sg1 1 2)) ∧ h' = zN (hGrC (zup sg1 36 3 0)))) (fun τ => fun rr h' => (rr = some (.int (-1)) ∧ h' = zN (hRef τ (-1)) ∧ (¬ (0 ≤ n ∧ n ≤ 1))) ∨ (rr = some (.int (-2)) ∧ h' = zN (hRef τ (-2)) ∧ ((0 ≤ n ∧ n ≤ 1) ∧ τ 400 n = 0)) ∨ ((0 ≤ n ∧ n ≤ 1) ∧ τ 400 n ≠ 0 ∧ rr = some (.int (τ 399 (995 * n))) ∧ h' = zN (hTell (zup (zcp τ 399 395 (995 * n) 0 995) 393 6 0)))) := by
  rintro rr h' (⟨rfl, rfl, a⟩ | ⟨rfl, rfl, a, a'⟩ | ⟨a, a', s1, hc, rfl, rfl⟩)
  · refine ⟨_, _, rfl, rfl, hRfC_m, ?_⟩
    rintro t' rr2 h2 hR (⟨rfl, rfl, b⟩ | ⟨rfl, rfl, b, b'⟩ | ⟨b, -⟩)
    · exact Q_ref hR
    · exact absurd b a
    · exact absurd b a
  · refine ⟨_, _, rfl, rfl, hRfC_m, ?_⟩
    rintro t' rr2 h2 hR hM
    rw [(hR.1.2.2.1 n a.1 (n01 a)).1] at a'
    rcases hM with ⟨rfl, rfl, b⟩ | ⟨rfl, rfl, b, b'⟩ | ⟨b, b', -⟩
    · exact absurd a b
    · exact Q_ref hR
    · exact absurd a' b'
  · have n2 := n01 a
    have hr := zel311_rng a.1 n2
    have fz : ∀ c j, (c < 1 ∨ 34 ≤ c) → (c ≠ 0 ∨ j ≠ 11) → s1 c j = s c j := fun c j q q2 => by
      rw [hc.1 c j (by omega), zup_e, if_neg (fun q => q2.elim (fun g => g q.1) (fun g => g q.2))]
    refine ⟨_, _, rfl, rfl, fun c j q => ?_, ?_⟩
    · rw [hGrC_f (Or.inl (by omega)), zup_a (by omega)]
      exact fz c j (by omega) (Or.inl (by omega))
    rintro t' rr2 h2 hR hM
    obtain ⟨v1, v2⟩ := hR.1.2.2.1 n a.1 n2
    rcases hM with ⟨rfl, rfl, b⟩ | ⟨rfl, rfl, b, b'⟩ | ⟨b, b', rfl, rfl⟩
    · exact absurd a b
    · exact absurd (v1.trans b') a'
    · obtain ⟨t2, et⟩ : ∃ t2, t2 = zup (zcp t' 399 395 (995 * n) 0 995) 393 6 0 := ⟨_, rfl⟩
      obtain ⟨s2, es⟩ : ∃ s2, s2 = zup s1 36 3 0 := ⟨_, rfl⟩
      rw [← et, ← es]
      have fs : ∀ c j, (c < 1 ∨ 34 ≤ c) → (c ≠ 0 ∨ j ≠ 11) → c ≠ 36 → s2 c j = s c j := fun c j x1 x2 x3 => by rw [es, zup_a x3]; exact fz c j x1 x2
      have ft : ∀ c j, c ≠ 395 → (c ≠ 393 ∨ j ≠ 6) → t2 c j = t' c j := fun c j x1 x2 => by
        rw [et, zup_e, if_neg (fun q => x2.elim (fun g => g q.1) (fun g => g q.2)), zcp_e, if_neg (fun q => x1 q.1)]
      have hv := v2 a'
      have hv1 : SR (zup s 0 11 0) (zel 311 n) (fun j => t' 399 (995 * n + j)) := SR_move (zel311_s a.1 n2) hv (fun c j c0 c1 => zup_a (by omega)) (fun j _ _ => rfl)
      have row : ∀ j, 0 ≤ j → j < 995 → t2 395 j = t' 399 (995 * n + j) := fun j j0 j1 => by
        rw [et, zup_a (by decide), zcp_e, if_pos ⟨rfl, j995 j0 j1⟩, b995]
      have hs1 : SR s1 1 (t2 395) := SR_sc hv1 (hSB_sc hc) row
      have hs : SR s2 1 (t2 395) := SR_move iSh_1 hs1 (fun c j c0 c1 => by rw [es]; exact zup_a (by omega)) (fun j _ _ => rfl)
      have rh : RH s2 t2 := by
        have e2 : s2 36 2 = s 36 2 := by rw [es, zup_i (by decide)]; exact fz 36 2 (by decide) (by decide)
        have e3 : s2 36 3 = 0 := by rw [es, zup_s]
        have e6 : t2 393 6 = 0 := by rw [et, zup_s]
        refine ⟨by rw [e2]; exact hR.1.2.1.1, by rw [e3]; decide, by rw [e6, e3], fun k g0 g1 => ?_⟩
        rw [e3] at g1
        exact absurd (Int32.le_trans g0 g1) (by decide)
      have ri : RI s2 t2 := RI_c (fun c j x => fs c j (by omega) (Or.inl (by omega)) (by omega)) (fun c j x1 x2 => ft c j (by omega) (Or.inl (by omega))) hR.1.2.2.1
      have e0 : s2 0 11 = 0 := by rw [es, zup_a (by decide), hc.1 0 11 (by decide), zup_s]
      have ev : t' 399 (995 * n) = s1 1 2 := by
        rw [hs1.2.1.1, row 0 (by decide) (by decide), ← z0a]
      exact Q_act2 ev ⟨⟨hs, rh, ri, okM_move hR.1.2.2.2 (fun j => fs 100000 j (by decide) (Or.inl (by decide)) (by decide))⟩, RT_c (fun c j q => fs c j (by omega) (Or.inl (by omega)) (by omega)) (ft 393 11 (by decide) (by decide)) (fun j => ft 401 j (by decide) (Or.inl (by decide))) hR.2.1, RG_c (fs 0 10 (by decide) (by decide) (by decide)) (fun k => fs 326 k (by decide) (Or.inl (by decide)) (by decide)) (fs 317 3 (by decide) (by decide) (by decide)) (ft 393 1 (by decide) (by decide)) (fun k => ft 394 k (by decide) (Or.inl (by decide))) (ft 393 12 (by decide) (by decide)) hR.2.2.1, okF_0 e0⟩ (fun c j q => ft c j (by omega) (Or.inl (by omega)))
