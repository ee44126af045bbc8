/-! pairs of calls: type, swap, feed -/
theorem AL_i {s t : zSig} (h : RT s t) : yAL s ↔ mAL t := by
  unfold yAL mAL
  rw [h.2.1]
  constructor
  · intro q j j0 j1
    have w := h.2.2 j j0 j1
    rw [w.2]; exact (by8 w.1.1 w.1.2).2.1.mp (q j j0 j1)
  · intro q j j0 j1
    have w := h.2.2 j j0 j1
    have := q j j0 j1
    rw [w.2] at this; exact (by8 w.1.1 w.1.2).2.1.mpr this
theorem AL_t {s t : zSig} (h : RT s t) (a : yAL s) {j : Int32} (j0 : 0 ≤ j) (j1 : j < s 34 1) : (0 ≤ s 35 j ∧ s 35 j ≤ 127) ∧ t 401 j = s 35 j := by
  have w := h.2.2 j j0 j1
  have v := (a j j0 j1).1
  have l : s 35 j ≤ 127 := Int32.le_trans v.2 (by decide)
  exact ⟨⟨w.1.1, l⟩, by rw [w.2]; exact (by8 w.1.1 w.1.2).2.2 l⟩
theorem Why_e {s t : zSig} (h : R2 s t) : yWhy s = if t 393 11 = 0 then -4 else if 200 < t 395 0 + t 393 11 then -5 else 0 := by
  unfold yWhy; rw [h.1.1.2.1.1, h.2.1.2.1]
theorem act_t {s t : zSig} (h : R5 s t ∧ RT s t ∧ RG s t ∧ okF s) : R5 (zup s 34 1 0) (zup t 393 11 0) ∧ RT (zup s 34 1 0) (zup t 393 11 0) ∧ RG (zup s 34 1 0) (zup t 393 11 0) ∧ okF (zup s 34 1 0) := by
  refine ⟨R5_c (fun c j q => zup_a (by omega)) (fun c j q1 q2 => zup_a (by omega)) (zup_i (by decide)) h.1, ?_, RG_c (zup_a (by decide)) (fun k => zup_a (by decide)) (zup_a (by decide)) (zup_i (by decide)) (fun k => zup_a (by decide)) (zup_i (by decide)) h.2.2.1, okF_c h.2.2.2 h.1.1.1 (fun c j q1 q2 => zup_a (by omega)) (zup_a (by decide)) (zup_a (by decide)) (fun j => zup_a (by decide))⟩
  unfold RT
  rw [zup_s, zup_s]
  exact ⟨by decide, rfl, fun j j0 j1 => absurd (Int32.lt_of_le_of_lt j0 j1) (by decide)⟩
theorem why4 {m n : Int32} (h : m = 0) : (if m = 0 then (-4 : Int32) else if 200 < n + m then -5 else 0) = -4 := if_pos h
theorem why5 {m n : Int32} (h : m ≠ 0) (h2 : 200 < n + m) : (if m = 0 then (-4 : Int32) else if 200 < n + m then -5 else 0) = -5 := (if_neg h).trans (if_pos h2)
theorem why0 {m n : Int32} (h : m ≠ 0) (h2 : n + m ≤ 200) : (if m = 0 then (-4 : Int32) else if 200 < n + m then -5 else 0) = 0 := (if_neg h).trans (if_neg (Int32.not_lt.mpr h2))
theorem ty_m {m n : Int32} (m0 : 0 ≤ m) (m4 : m ≤ 400) (h : m ≠ 0) (n0 : 0 ≤ n) (n1 : n ≤ 200) (h2 : n + m ≤ 200) : 0 < m ∧ m ≤ 200 := by lia
theorem sw_a {f t n m : Int32} (f0 : 0 ≤ f) (ft : f < t) (tn : t ≤ n) (n1 : n ≤ 200) (m0 : 0 < m) (m2 : m ≤ 200) (h2 : n + m ≤ 200) : (0 ≤ f + 1 ∧ f + 1 ≤ n) ∧ f < f + 1 ∧ f + 1 ≤ n + m ∧ 0 ≤ f + m ∧ (1 < t - f → f + m < t + m - 1) ∧ (1 < t - f ↔ f + m < t - 1 + m) ∧ t - 1 + m = t + m - 1 ∧ t + m - 1 ≤ n + m - (f + 1 - f) := by lia
/-! bytes -/
theorem and255_8 (x : Int32) : (x &&& 255).toInt8 = x.toInt8 := by
  apply Int8.toBitVec_inj.mp
  show ((x.toBitVec &&& 255#32).signExtend 8) = x.toBitVec.signExtend 8
  rw [BitVec.signExtend_eq_setWidth_of_le _ (by decide), BitVec.signExtend_eq_setWidth_of_le _ (by decide), BitVec.setWidth_and]
  exact BitVec.and_allOnes
theorem nI_self (x : Int32) : x = nI x.toBitVec.toNat := by
  apply Int32.toBitVec_inj.mp
  show x.toBitVec = BitVec.ofNat 32 x.toBitVec.toNat
  rw [BitVec.ofNat_toNat, BitVec.setWidth_eq]
theorem n255_all : ∀ k, k < 256 → 0 ≤ nI k ∧ nI k ≤ 255 := by decide +kernel
theorem nn255 {x : Int32} (h : x.toBitVec.toNat ≤ 255) : 0 ≤ x ∧ x ≤ 255 := by
  obtain ⟨k, hk, rfl⟩ : ∃ k : Nat, k < 256 ∧ x = nI k := ⟨x.toBitVec.toNat, by omega, nI_self x⟩
  have := n255_all k hk
  exact this
theorem and255_r (x : Int32) : 0 ≤ x &&& 255 ∧ x &&& 255 ≤ 255 := by
  have h : (x &&& 255).toBitVec.toNat ≤ 255 := by
    show (x.toBitVec &&& 255#32).toNat ≤ 255
    rw [BitVec.toNat_and]; exact Nat.and_le_right
  exact nn255 h
theorem ush24_r (v : Int32) : 0 ≤ (v.toUInt32 >>> ((24 : Int32).toUInt32 &&& Int32.toUInt32 31)).toInt32 ∧ (v.toUInt32 >>> ((24 : Int32).toUInt32 &&& Int32.toUInt32 31)).toInt32 ≤ 255 := by
  refine nn255 ?_
  show (v.toUInt32 >>> ((24 : Int32).toUInt32 &&& Int32.toUInt32 31)).toNat ≤ 255
  rw [show ((24 : Int32).toUInt32 &&& Int32.toUInt32 31) = (24 : UInt32) by decide, UInt32.toNat_shiftRight]
  have := v.toUInt32.toNat_lt
  rw [show (24 : UInt32).toNat % 32 = 24 by decide, Nat.shiftRight_eq_div_pow]
  omega
theorem af_4 {n j : Int32} (n0 : 0 ≤ n) (n1 : n ≤ 396) (j0 : 0 ≤ j) (j1 : j < n + 4) : j = n + 3 ∨ (j ≠ n + 3 ∧ j = n + 2) ∨ (j ≠ n + 3 ∧ j ≠ n + 2 ∧ j = n + 1) ∨ (j ≠ n + 3 ∧ j ≠ n + 2 ∧ j ≠ n + 1 ∧ j = n) ∨ (j ≠ n + 3 ∧ j ≠ n + 2 ∧ j ≠ n + 1 ∧ j ≠ n ∧ j < n) := by lia
theorem af_n {n : Int32} (n0 : 0 ≤ n) (n1 : n ≤ 396) : 0 ≤ n + 4 ∧ n + 4 ≤ 400 := by lia
theorem af_f {s : zSig} {v : Int32} {c : Nat} {j : Int32} (h : c ≠ 35) (h2 : c ≠ 34 ∨ j ≠ 1) : hAF s v c j = s c j := by
  unfold hAF
  rw [if_neg (fun q => h2.elim (fun g => g q.1) (fun g => g q.2)), if_neg (fun q => h q.1), if_neg (fun q => h q.1), if_neg (fun q => h q.1), if_neg (fun q => h q.1)]
theorem cm_f {s : zSig} {v : Int32} {c : Nat} {j : Int32} (h : c ≠ 401) (h2 : c ≠ 393 ∨ j ≠ 11) : hCm s v c j = s c j := by
  unfold hCm
  rw [if_neg (fun q => h2.elim (fun g => g q.1) (fun g => g q.2)), if_neg (fun q => h q.1), if_neg (fun q => h q.1), if_neg (fun q => h q.1), if_neg (fun q => h q.1)]
theorem af_1 {s : zSig} {v : Int32} : hAF s v 34 1 = s 34 1 + 4 := if_pos ⟨rfl, rfl⟩
theorem cm_1 {s : zSig} {v : Int32} : hCm s v 393 11 = s 393 11 + 4 := if_pos ⟨rfl, rfl⟩
theorem afv {s : zSig} {v j : Int32} : hAF s v 35 j = if j = s 34 1 + 3 then v &&& 255 else if j = s 34 1 + 2 then ((v.toUInt32 >>> ((8 : Int32).toUInt32 &&& Int32.toUInt32 31)).toInt32) &&& 255 else if j = s 34 1 + 1 then ((v.toUInt32 >>> ((16 : Int32).toUInt32 &&& Int32.toUInt32 31)).toInt32) &&& 255 else if j = s 34 1 then (v.toUInt32 >>> ((24 : Int32).toUInt32 &&& Int32.toUInt32 31)).toInt32 else s 35 j := by
  unfold hAF
  rw [if_neg (fun q => absurd q.1 (by decide))]
  simp only [true_and]
theorem cmv {s : zSig} {v j : Int32} : hCm s v 401 j = if j = s 393 11 + 3 then v.toInt8.toInt32 else if j = s 393 11 + 2 then ((v.toUInt32 >>> ((8 : Int32).toUInt32 &&& Int32.toUInt32 31)).toInt32).toInt8.toInt32 else if j = s 393 11 + 1 then ((v.toUInt32 >>> ((16 : Int32).toUInt32 &&& Int32.toUInt32 31)).toInt32).toInt8.toInt32 else if j = s 393 11 then ((v.toUInt32 >>> ((24 : Int32).toUInt32 &&& Int32.toUInt32 31)).toInt32).toInt8.toInt32 else s 401 j := by
  unfold hCm
  rw [if_neg (fun q => absurd q.1 (by decide))]
  simp only [true_and]
theorem RT_af {s t : zSig} {v : Int32} (h : RT s t) (hn : s 34 1 ≤ 396) : RT (hAF s v) (hCm t v) := by
  unfold RT
  rw [af_1, cm_1, h.2.1]
  refine ⟨af_n h.1.1 hn, rfl, fun j j0 j1 => ?_⟩
  rw [afv, cmv, h.2.1]
  rcases af_4 h.1.1 hn j0 j1 with a | ⟨a, b⟩ | ⟨a, b, c⟩ | ⟨a, b, c, d⟩ | ⟨a, b, c, d, e⟩
  · rw [if_pos a, if_pos a, and255_8]
    exact ⟨and255_r _, rfl⟩
  · rw [if_neg a, if_neg a, if_pos b, if_pos b, and255_8]
    exact ⟨and255_r _, rfl⟩
  · rw [if_neg a, if_neg a, if_neg b, if_neg b, if_pos c, if_pos c, and255_8]
    exact ⟨and255_r _, rfl⟩
  · rw [if_neg a, if_neg a, if_neg b, if_neg b, if_neg c, if_neg c, if_pos d, if_pos d]
    exact ⟨ush24_r _, rfl⟩
  · rw [if_neg a, if_neg a, if_neg b, if_neg b, if_neg c, if_neg c, if_neg d, if_neg d]
    exact h.2.2 j j0 e
theorem R2_af {s t : zSig} {v : Int32} (h : R2 s t) (hn : s 34 1 ≤ 396) : R2 (hAF s v) (hCm t v) :=
  ⟨R5_c (fun c j q => af_f (by omega) (Or.inl (by omega))) (fun c j q1 q2 => cm_f (by omega) (Or.inl (by omega))) (cm_f (by decide) (by decide)) h.1, RT_af h.2.1 hn, RG_c (af_f (by decide) (by decide)) (fun k => af_f (by decide) (Or.inl (by decide))) (af_f (by decide) (by decide)) (cm_f (by decide) (by decide)) (fun k => cm_f (by decide) (Or.inl (by decide))) (cm_f (by decide) (by decide)) h.2.2.1, okF_c h.2.2.2 h.1.1.1 (fun c j q1 q2 => af_f (by omega) (Or.inl (by omega))) (af_f (by decide) (by decide)) (af_f (by decide) (by decide)) (fun j => af_f (by decide) (Or.inl (by decide)))⟩
theorem fd_n {n : Int32} (n0 : 0 ≤ n) (n1 : n ≤ 380) : n ≤ 396 ∧ n + 4 ≤ 396 ∧ n + 4 + 4 ≤ 396 ∧ n + 4 + 4 + 4 ≤ 396 ∧ n + 4 + 4 + 4 + 4 ≤ 396 := by lia
set_option maxHeartbeats 2000000 in
theorem K_type {s : zSig} {p : Int32} (h : R2 s s) : Pair s (fun rr h' => (rr = some (.int (-1)) ∧ h' = zN (hRfC s (-1)) ∧ (¬ ((0 ≤ p ∧ p ≤ s 1 2) ∧ yAL s))) ∨ (rr = some (.int (yWhy s)) ∧ h' = zN (hRfC s (yWhy s)) ∧ (((0 ≤ p ∧ p ≤ s 1 2) ∧ yAL s) ∧ yWhy s ≠ 0)) ∨ ((0 ≤ p ∧ p ≤ s 1 2) ∧ yAL s ∧ yWhy s = 0 ∧ ∃ sg1 sg2, hBeg s sg1 0 p (s 34 1) 0 ∧ hPut sg1 sg2 p (s 34 1) ∧ rr = some (.int (sg2 1 2)) ∧ h' = zN (hGrC (zup sg2 34 1 0)))) (fun τ => fun rr h' => (rr = some (.int (-1)) ∧ h' = zN (hRef τ (-1)) ∧ (¬ ((0 ≤ p ∧ p ≤ τ 395 0) ∧ mAL τ))) ∨ (rr = some (.int (-4)) ∧ h' = zN (hRef τ (-4)) ∧ (((0 ≤ p ∧ p ≤ τ 395 0) ∧ mAL τ) ∧ τ 393 11 = 0)) ∨ (rr = some (.int (-5)) ∧ h' = zN (hRef τ (-5)) ∧ (((0 ≤ p ∧ p ≤ τ 395 0) ∧ mAL τ) ∧ τ 393 11 ≠ 0 ∧ 200 < τ 395 0 + τ 393 11)) ∨ (((0 ≤ p ∧ p ≤ τ 395 0) ∧ mAL τ) ∧ (τ 393 11 ≠ 0 ∧ τ 395 0 + τ 393 11 ≤ 200) ∧ ∃ sg1 sg2 sg3, mRem τ sg1 0 ∧ mMk (mNo sg1 p 0 (τ 393 11)) sg2 p (τ 393 11) 0 ∧ mCf sg2 sg3 p (τ 393 11) ∧ rr = some (.int (sg3 395 0)) ∧ h' = zN (hTell (zup sg3 393 11 0)))) := by
  rintro rr h' (⟨rfl, rfl, a⟩ | ⟨rfl, rfl, a, a'⟩ | ⟨a, aL, a', s1, s2, hb, hp, rfl, rfl⟩)
  · refine ⟨_, _, rfl, rfl, hRfC_m, ?_⟩
    rintro t' rr2 h2 hR hM
    rw [hR.1.1.2.1.1, AL_i hR.2.1] at a
    rcases hM with ⟨rfl, rfl, b⟩ | ⟨rfl, rfl, b, b'⟩ | ⟨rfl, rfl, b, b'⟩ | ⟨b, -⟩
    · exact Q_ref hR
    · exact absurd b a
    · exact absurd b a
    · exact absurd b a
  · refine ⟨_, _, rfl, rfl, hRfC_m, ?_⟩
    rintro t' rr2 h2 hR hM
    rw [hR.1.1.2.1.1, AL_i hR.2.1] at a
    rw [Why_e hR] at a' ⊢
    rcases hM with ⟨rfl, rfl, b⟩ | ⟨rfl, rfl, b, b'⟩ | ⟨rfl, rfl, b, b', b''⟩ | ⟨b, b', -⟩
    · exact absurd a b
    · rw [why4 b']; exact Q_ref hR
    · rw [why5 b' b'']; exact Q_ref hR
    · exact absurd (why0 b'.1 b'.2) a'
  · refine ⟨_, _, rfl, rfl, fun c j q => ?_, ?_⟩
    · rw [hGrC_f (Or.inl (by omega)), zup_a (by omega), hp.1.1 c j (by omega)]
      exact (beg_fr h.1.2.1.1.1 h.1.2.1.1.2 hb).1 c j (by omega) (Or.inl (by omega))
    rintro t' rr2 h2 hR hM
    have aL' := aL
    rw [hR.1.1.2.1.1] at a
    rw [AL_i hR.2.1] at aL'
    rw [Why_e hR] at a'
    rcases hM with ⟨rfl, rfl, b⟩ | ⟨rfl, rfl, b, b'⟩ | ⟨rfl, rfl, b, b', b''⟩ | ⟨b, b', t1, t2, t3, hm, hk, hf, rfl, rfl⟩
    · exact absurd ⟨a, aL'⟩ b
    · exact absurd ((why4 b').symm.trans a') (by decide)
    · exact absurd ((why5 b' b'').symm.trans a') (by decide)
    · obtain ⟨g1, g2, g3⟩ := R_mid hR hb hm
      obtain ⟨m0, m1⟩ := rem_u hR.1.2.1 hm
      have eT := hR.2.1.2.1
      have hb0 := SR_b hR.1.1
      obtain ⟨w0, w1⟩ := ty_m (by rw [eT]; exact hR.2.1.1.1) (by rw [eT]; exact hR.2.1.1.2) b'.1 hb0.1.1 hb0.1.2 b'.2
      rw [← eT] at hp hb
      obtain ⟨n1, n2, n3, n4⟩ := mNo_a (t := t1) (f := p) (u := 0) (a := t' 393 11) rfl m0 m1
      have em : mNo t1 p 0 (t' 393 11) 395 = t1 395 := funext fun j => mNo_f (by decide)
      have hs := S_put (s := s1) (t := mNo t1 p 0 (t' 393 11)) (by rw [em]; exact g1) hp hk hf a.1 (by rw [em, g2]; exact a.2) w0 (by rw [em, g2]; exact b'.2) w1 (fun j j0 j1 => by
        rw [g3 35 j (by decide) (by decide), mNo_f (by decide), rem_fr hm 401 j (by decide) (by decide) (by decide) (Or.inl (by decide))]
        exact AL_t hR.2.1 aL j0 (by rw [← eT]; exact j1))
      have ra := R_act (ta := mNo t1 p 0 (t' 393 11)) hR hb hm (fun c j q => mNo_f q) n4 ⟨fun _ => ⟨n1.symm, n3.symm⟩, fun q => absurd q (by decide), fun q => absurd q (by decide), fun q => absurd q (by decide)⟩ hs hp.1.1 (fun c j q _ _ _ _ => by rw [hf.1 c j q]; exact hk.1 c j q)
      exact Q_act2 hs.2.1.1.symm (act_t ra.1) (fun c j q => by rw [zup_a (by omega)]; exact ra.2.2 c j q)
set_option maxHeartbeats 2000000 in
theorem K_swap {s : zSig} {f t : Int32} (h : R2 s s) : Pair s (fun rr h' => (rr = some (.int (-1)) ∧ h' = zN (hRfC s (-1)) ∧ (¬ ((0 ≤ f ∧ f < t ∧ t ≤ s 1 2) ∧ yAL s))) ∨ (rr = some (.int (yWhy s)) ∧ h' = zN (hRfC s (yWhy s)) ∧ (((0 ≤ f ∧ f < t ∧ t ≤ s 1 2) ∧ yAL s) ∧ yWhy s ≠ 0)) ∨ ((0 ≤ f ∧ f < t ∧ t ≤ s 1 2) ∧ yAL s ∧ yWhy s = 0 ∧ ∃ sg1 sg2 sg3 sg4, hBeg s sg1 12 f t (s 34 1) ∧ hPut sg1 sg2 (f + 1) (s 34 1) ∧ hGo sg2 sg3 f (f + 1) ∧ hGo0 sg3 sg4 (f + s 34 1) (t - 1 + s 34 1) ∧ rr = some (.int (sg4 1 2)) ∧ h' = zN (hGrC (zup sg4 34 1 0)))) (fun τ => fun rr h' => (rr = some (.int (-1)) ∧ h' = zN (hRef τ (-1)) ∧ (¬ ((0 ≤ f ∧ f < t ∧ t ≤ τ 395 0) ∧ mAL τ))) ∨ (rr = some (.int (-4)) ∧ h' = zN (hRef τ (-4)) ∧ (((0 ≤ f ∧ f < t ∧ t ≤ τ 395 0) ∧ mAL τ) ∧ τ 393 11 = 0)) ∨ (rr = some (.int (-5)) ∧ h' = zN (hRef τ (-5)) ∧ (((0 ≤ f ∧ f < t ∧ t ≤ τ 395 0) ∧ mAL τ) ∧ τ 393 11 ≠ 0 ∧ 200 < τ 395 0 + τ 393 11)) ∨ (((0 ≤ f ∧ f < t ∧ t ≤ τ 395 0) ∧ mAL τ) ∧ (τ 393 11 ≠ 0 ∧ τ 395 0 + τ 393 11 ≤ 200) ∧ ∃ sg1 sg2 sg3 sg4 sg5, mRem τ sg1 12 ∧ mMk (mNo sg1 f t (τ 393 11)) sg2 (f + 1) (τ 393 11) 0 ∧ mCf sg2 sg3 (f + 1) (τ 393 11) ∧ mTk sg3 sg4 f (f + 1) 0 ∧ ((1 < t - f ∧ mTk sg4 sg5 (f + τ 393 11) (t + τ 393 11 - 1) 0) ∨ (¬ 1 < t - f ∧ sg5 = sg4)) ∧ rr = some (.int (sg5 395 0)) ∧ h' = zN (hTell (zup sg5 393 11 0)))) := by
  rintro rr h' (⟨rfl, rfl, a⟩ | ⟨rfl, rfl, a, a'⟩ | ⟨a, aL, a', s1, s2, s3, s4, hb, hp, hg, hg0, rfl, rfl⟩)
  · refine ⟨_, _, rfl, rfl, hRfC_m, ?_⟩
    rintro t' rr2 h2 hR hM
    rw [hR.1.1.2.1.1, AL_i hR.2.1] at a
    rcases hM with ⟨rfl, rfl, b⟩ | ⟨rfl, rfl, b, b'⟩ | ⟨rfl, rfl, b, b'⟩ | ⟨b, -⟩
    · exact Q_ref hR
    · exact absurd b a
    · exact absurd b a
    · exact absurd b a
  · refine ⟨_, _, rfl, rfl, hRfC_m, ?_⟩
    rintro t' rr2 h2 hR hM
    rw [hR.1.1.2.1.1, AL_i hR.2.1] at a
    rw [Why_e hR] at a' ⊢
    rcases hM with ⟨rfl, rfl, b⟩ | ⟨rfl, rfl, b, b'⟩ | ⟨rfl, rfl, b, b', b''⟩ | ⟨b, b', -⟩
    · exact absurd a b
    · rw [why4 b']; exact Q_ref hR
    · rw [why5 b' b'']; exact Q_ref hR
    · exact absurd (why0 b'.1 b'.2) a'
  · have f4 : ∀ c j, c < 1 ∨ 34 ≤ c → s4 c j = s3 c j := fun c j q => by
      rcases hg0 with ⟨-, x⟩ | ⟨-, x⟩
      · exact x.1.1 c j q
      · rw [x]
    have fs : ∀ c j, c < 1 ∨ 34 ≤ c → s4 c j = s1 c j := fun c j q => by rw [f4 c j q, hg.1.1 c j q]; exact hp.1.1 c j q
    refine ⟨_, _, rfl, rfl, fun c j q => ?_, ?_⟩
    · rw [hGrC_f (Or.inl (by omega)), zup_a (by omega), fs c j (by omega)]
      exact (beg_fr h.1.2.1.1.1 h.1.2.1.1.2 hb).1 c j (by omega) (Or.inl (by omega))
    rintro t' rr2 h2 hR hM
    have aL' := aL
    rw [hR.1.1.2.1.1] at a
    rw [AL_i hR.2.1] at aL'
    rw [Why_e hR] at a'
    rcases hM with ⟨rfl, rfl, b⟩ | ⟨rfl, rfl, b, b'⟩ | ⟨rfl, rfl, b, b', b''⟩ | ⟨b, b', t1, t2, t3, t4, t5, hm, hk, hf, hk2, hk3, rfl, rfl⟩
    · exact absurd ⟨a, aL'⟩ b
    · exact absurd ((why4 b').symm.trans a') (by decide)
    · exact absurd ((why5 b' b'').symm.trans a') (by decide)
    · obtain ⟨g1, g2, g3⟩ := R_mid hR hb hm
      obtain ⟨m0, m1⟩ := rem_u hR.1.2.1 hm
      have eT := hR.2.1.2.1
      have hb0 := SR_b hR.1.1
      obtain ⟨w0, w1⟩ := ty_m (by rw [eT]; exact hR.2.1.1.1) (by rw [eT]; exact hR.2.1.1.2) b'.1 hb0.1.1 hb0.1.2 b'.2
      rw [← eT] at hp hb
      rw [← eT] at hg0
      obtain ⟨n1, n2, n3, n4⟩ := mNo_a (t := t1) (f := f) (u := t) (a := t' 393 11) rfl m0 m1
      obtain ⟨⟨z1, z2⟩, z3, z4, z5, z6, z7, z8, z9⟩ := sw_a a.1 a.2.1 a.2.2 hb0.1.2 w0 w1 b'.2
      have em : mNo t1 f t (t' 393 11) 395 = t1 395 := funext fun j => mNo_f (by decide)
      have hs1 := S_put (s := s1) (t := mNo t1 f t (t' 393 11)) (by rw [em]; exact g1) hp hk hf z1 (by rw [em, g2]; exact z2) w0 (by rw [em, g2]; exact b'.2) w1 (fun j j0 j1 => by
        rw [g3 35 j (by decide) (by decide), mNo_f (by decide), rem_fr hm 401 j (by decide) (by decide) (by decide) (Or.inl (by decide))]
        exact AL_t hR.2.1 aL j0 (by rw [← eT]; exact j1))
      have l3 : t3 395 0 = t' 395 0 + t' 393 11 := by rw [← hs1.2.1.1, hp.2.1, g3 1 2 (by decide) (by decide), hR.1.1.2.1.1]
      have hs2 := S_go hs1 hg hk2 a.1 z3 (by rw [l3]; exact z4)
      have l4 : t4 395 0 = t' 395 0 + t' 393 11 - (f + 1 - f) := by rw [hk2.2.1, l3]
      have hs : SR s4 1 (t5 395) := by
        rcases hg0 with ⟨x1, x2⟩ | ⟨x1, x2⟩ <;> rcases hk3 with ⟨y1, y2⟩ | ⟨y1, y2⟩
        · rw [z8] at x2
          exact S_go hs2 x2 y2 z5 (z6 y1) (by rw [l4]; exact z9)
        · exact absurd (z7.mpr x1) y1
        · have := z7.mp y1
          rw [x1] at this
          exact (Int32.lt_irrefl this).elim
        · rw [x2, y2]; exact hs2
      have ra := R_act (ta := mNo t1 f t (t' 393 11)) hR hb hm (fun c j q => mNo_f q) n4 ⟨fun q => absurd q (by decide), fun q => absurd q (by decide), fun q => absurd q (by decide), fun _ => ⟨n1.symm, n2.symm, n3.symm, a.1, a.2.1, Int32.le_trans a.2.2 hb0.1.2⟩⟩ hs fs (fun c j q _ _ _ _ => by
        have e5 : t5 c j = t4 c j := by
          rcases hk3 with ⟨-, y2⟩ | ⟨-, y2⟩
          · exact y2.1 c j q
          · rw [y2]
        rw [e5, hk2.1 c j q, hf.1 c j q]; exact hk.1 c j q)
      exact Q_act2 hs.2.1.1.symm (act_t ra.1) (fun c j q => by rw [zup_a (by omega)]; exact ra.2.2 c j q)
set_option maxHeartbeats 2000000 in
theorem K_feed {s : zSig} {a b c d e : Int32} (h : R2 s s) : Pair s (fun rr h' => (rr = some (.int (-1)) ∧ h' = zN s ∧ 380 < s 34 1) ∨ (rr = some (.int (s 34 1 + 20)) ∧ h' = zN (hFd s a b c d e) ∧ s 34 1 ≤ 380)) (fun τ => fun rr h' => (rr = some (.int (-1)) ∧ h' = zN τ ∧ 380 < τ 393 11) ∨ (rr = some (.int (τ 393 11 + 20)) ∧ h' = zN (hFdM τ a b c d e) ∧ τ 393 11 ≤ 380)) := by
  rintro rr h' (⟨rfl, rfl, q⟩ | ⟨rfl, rfl, q⟩)
  · refine ⟨_, _, rfl, rfl, fun _ _ _ => rfl, ?_⟩
    rintro t' rr2 h2 hR hM
    rw [← hR.2.1.2.1] at q
    rcases hM with ⟨rfl, rfl, w⟩ | ⟨rfl, rfl, w⟩
    · exact ⟨_, rfl, rfl, hR, fun _ _ _ => rfl⟩
    · exact absurd w (Int32.not_le.mpr q)
  · refine ⟨_, _, rfl, rfl, fun x j w => ?_, ?_⟩
    · unfold hFd
      rw [af_f (by omega) (Or.inl (by omega)), af_f (by omega) (Or.inl (by omega)), af_f (by omega) (Or.inl (by omega)), af_f (by omega) (Or.inl (by omega)), af_f (by omega) (Or.inl (by omega))]
    rintro t' rr2 h2 hR hM
    have q0 := q
    rw [← hR.2.1.2.1] at q
    rcases hM with ⟨rfl, rfl, w⟩ | ⟨rfl, rfl, w⟩
    · exact absurd q (Int32.not_le.mpr w)
    · obtain ⟨w1, w2, w3, w4, w5⟩ := fd_n hR.2.1.1.1 q0
      refine ⟨_, by rw [hR.2.1.2.1], rfl, ?_, fun x j w => ?_⟩
      · unfold hFd hFdM
        exact R2_af (R2_af (R2_af (R2_af (R2_af hR w1) (by rw [af_1]; exact w2)) (by rw [af_1, af_1]; exact w3)) (by rw [af_1, af_1, af_1]; exact w4)) (by rw [af_1, af_1, af_1, af_1]; exact w5)
      · unfold hFdM
        rw [cm_f (by omega) (Or.inl (by omega)), cm_f (by omega) (Or.inl (by omega)), cm_f (by omega) (Or.inl (by omega)), cm_f (by omega) (Or.inl (by omega)), cm_f (by omega) (Or.inl (by omega))]
