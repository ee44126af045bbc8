/-! pairs of calls: the acts on spans, anchors, letters -/
theorem hRfC_m {s : zSig} {v : Int32} : ∀ c j, 393 ≤ c → hRfC s v c j = s c j := fun c j q => hRfC_f ⟨Or.inl (by omega), by omega⟩
theorem Q_ref {s t : zSig} {v : Int32} (h : R2 s t) : ∃ t2, (some (Value.int v) : Option Value) = some (.int v) ∧ zN (hRef t v) = zN t2 ∧ R2 (hRfC s v) t2 ∧ ∀ c j, c < 393 ∨ 411 ≤ c → t2 c j = t c j := ⟨hRef t v, rfl, rfl, R2_ref h, fun c j q => hRef_f ⟨Or.inl (by omega), by omega⟩⟩
theorem act_m {s s1 s2 : zSig} {k x y z : Int32} (h : R2 s s) (hb : hBeg s s1 k x y z) (fs : ∀ c j, c < 1 ∨ 34 ≤ c → s2 c j = s1 c j) : ∀ c j, 393 ≤ c → hGrC s2 c j = s c j := fun c j q => by
  rw [hGrC_f (Or.inl (by omega)), fs c j (by omega)]
  exact (beg_fr h.1.2.1.1.1 h.1.2.1.1.2 hb).1 c j (by omega) (Or.inl (by omega))
theorem Q_act {s t s2 t2 : zSig} {v v' : Int32} (e : v' = v) (h : (R5 s2 t2 ∧ RT s2 t2 ∧ RG s2 t2 ∧ okF s2) ∧ (∀ c j, 311 ≤ c → s2 c j = s c j) ∧ ∀ c j, c < 393 ∨ 411 ≤ c → t2 c j = t c j) : ∃ t3, (some (Value.int v') : Option Value) = some (.int v) ∧ zN (hTell t2) = zN t3 ∧ R2 (hGrC s2) t3 ∧ ∀ c j, c < 393 ∨ 411 ≤ c → t3 c j = t c j :=
  ⟨hTell t2, by rw [e], rfl, R2_gr h.1.1 h.1.2.1 h.1.2.2.1 h.1.2.2.2, fun c j q => by rw [hTell_f (Or.inl (by omega))]; exact h.2.2 c j q⟩
theorem live_i {s t : zSig} (h : SR s 1 (t 395)) {n : Int32} : ((0 ≤ n ∧ n < s 1 4) ∧ s (zel 4 n) 0 ≠ 0) ↔ ((0 ≤ n ∧ n < t 395 1) ∧ t 395 (803 + 9 * n) = 1) := by
  rw [h.2.1.2.1]
  exact ⟨fun q => ⟨q.1, (SR_st h q.1.1 q.1.2).mp q.2⟩, fun q => ⟨q.1, (SR_st h q.1.1 q.1.2).mpr q.2⟩⟩
theorem live_a {s t : zSig} (h : SR s 1 (t 395)) {n : Int32} : ((0 ≤ n ∧ n < s 1 6) ∧ s (zel 5 n) 0 ≠ 0) ↔ ((0 ≤ n ∧ n < t 395 2) ∧ t 395 (947 + 4 * n) = 1) := by
  rw [h.2.1.2.2]
  exact ⟨fun q => ⟨q.1, (SR_sta h q.1.1 q.1.2).mp q.2⟩, fun q => ⟨q.1, (SR_sta h q.1.1 q.1.2).mpr q.2⟩⟩
theorem fr_s {s : zSig} {n g v : Int32} (n0 : 0 ≤ n) (n1 : n < 16) : ∀ c j, c < 1 ∨ 34 ≤ c → zup s (zel 4 n) g v c j = s c j := fun c j q => by
  have := zel4_rng n0 n1
  exact zup_a (by omega)
theorem fr_a {s : zSig} {n g v : Int32} (n0 : 0 ≤ n) (n1 : n < 12) : ∀ c j, c < 1 ∨ 34 ≤ c → zup s (zel 5 n) g v c j = s c j := fun c j q => by
  have := zel5_rng n0 n1
  exact zup_a (by omega)
theorem R2_16 {s t : zSig} (h : R2 s t) : 0 ≤ s 1 4 ∧ s 1 4 ≤ 16 := h.1.1.1.2.1
theorem R2_12 {s t : zSig} (h : R2 s t) : 0 ≤ s 1 6 ∧ s 1 6 ≤ 12 := h.1.1.1.2.2.1
theorem lay_fr {s : zSig} {n f u la on of co gr si : Int32} (n0 : 0 ≤ n) (n1 : n < 16) : ∀ c j, c < 1 ∨ 34 ≤ c → hLay s n f u la on of co gr si c j = s c j := fun c j q => by
  have := zel4_rng n0 n1
  unfold hLay
  rw [zup_a (by omega), zup_a (by omega), zup_a (by omega), zup_a (by omega), zup_a (by omega), zup_a (by omega), zup_a (by omega), zup_a (by omega), zup_a (by omega), zup_a (by omega)]
theorem pin_fr {s : zSig} {n p l : Int32} (n0 : 0 ≤ n) (n1 : n < 12) : ∀ c j, c < 1 ∨ 34 ≤ c → hPin s n p l c j = s c j := fun c j q => by
  have := zel5_rng n0 n1
  unfold hPin
  rw [zup_a (by omega), zup_a (by omega), zup_a (by omega), zup_a (by omega), zup_a (by omega)]
theorem mLay_fr {s : zSig} {n f u la on of co gr si : Int32} : ∀ c j, c ≠ 395 → mLay s n f u la on of co gr si c j = s c j := fun c j q => by
  unfold mLay
  rw [zup_a q, zup_a q, zup_a q, zup_a q, zup_a q, zup_a q, zup_a q, zup_a q, zup_a q, zup_a q]
theorem mPin_fr {s : zSig} {n p l : Int32} : ∀ c j, c ≠ 395 → mPin s n p l c j = s c j := fun c j q => by
  unfold mPin
  rw [zup_a q, zup_a q, zup_a q, zup_a q, zup_a q]
theorem ne_803 {n : Int32} (n0 : 0 ≤ n) (n1 : n < 16) : (1 : Int32) ≠ 803 + 9 * n := by lia
theorem lt16 {n m : Int32} (h : n < m) (k : m ≤ 16) : n < 16 := by lia
theorem lt12 {n m : Int32} (h : n < m) (k : m ≤ 12) : n < 12 := by lia
theorem eq16 {m : Int32} (h : 16 ≤ m) (k : m ≤ 16) : m = 16 := by lia
theorem eq12 {m : Int32} (h : 12 ≤ m) (k : m ≤ 12) : m = 12 := by lia
theorem no16 {m : Int32} (h : m < 16) (k : m = 16) : False := by lia
theorem no12 {m : Int32} (h : m < 12) (k : m = 12) : False := by lia
theorem mNo_cg {a b : zSig} {f u x : Int32} {c : Nat} {j : Int32} (h : ∀ c j, c ≠ 402 ∧ c ≠ 403 ∧ c ≠ 404 → a c j = b c j) (hc : c ≠ 402 ∧ c ≠ 403 ∧ c ≠ 404) : mNo a f u x c j = mNo b f u x c j := by
  unfold mNo
  rw [h 393 6 (by decide)]
  simp only [zup_e]
  rw [h c j hc]
set_option maxHeartbeats 2000000 in
theorem K_lift {s : zSig} {n : Int32} (h : R2 s s) : Pair s (fun rr h' => (rr = some (.int (-2)) ∧ h' = zN (hRfC s (-2)) ∧ (¬ ((0 ≤ n ∧ n < s 1 4) ∧ s (zel 4 n) 0 ≠ 0))) ∨ (((0 ≤ n ∧ n < s 1 4) ∧ s (zel 4 n) 0 ≠ 0) ∧ ∃ sg1, hBeg s sg1 4 0 0 0 ∧ rr = some (.int (zit (nSp (zup sg1 (zel 4 n) 0 0)) 0 (s 1 4))) ∧ h' = zN (hGrC (zup sg1 (zel 4 n) 0 0)))) (fun τ => fun rr h' => (rr = some (.int (-2)) ∧ h' = zN (hRef τ (-2)) ∧ (¬ ((0 ≤ n ∧ n < τ 395 1) ∧ τ 395 (803 + 9 * n) = 1))) ∨ (((0 ≤ n ∧ n < τ 395 1) ∧ τ 395 (803 + 9 * n) = 1) ∧ ∃ sg1, mRem τ sg1 4 ∧ rr = some (.int (zit (mNs (zup sg1 395 (803 + 9 * n) 0)) 0 (τ 395 1))) ∧ h' = zN (hTell (zup sg1 395 (803 + 9 * n) 0)))) := by
  rintro rr h' (⟨rfl, rfl, a⟩ | ⟨a, s1, hb, rfl, rfl⟩)
  · refine ⟨_, _, rfl, rfl, hRfC_m, ?_⟩
    rintro t rr2 h2 hR (⟨rfl, rfl, b⟩ | ⟨b, -⟩)
    · exact Q_ref hR
    · exact absurd ((live_i hR.1.1).mpr b) a
  · have n16 := lt16 a.1.2 (R2_16 h).2
    refine ⟨_, _, rfl, rfl, act_m h hb (fr_s a.1.1 n16), ?_⟩
    rintro t rr2 h2 hR (⟨rfl, rfl, b⟩ | ⟨b, t1, hm, rfl, rfl⟩)
    · exact absurd ((live_i hR.1.1).mp a) b
    · obtain ⟨g1, g2, g3⟩ := R_mid hR hb hm
      have hs := S_lift (n := n) g1 b.1.1 (by rw [g2]; exact b.1.2)
      have e := J_spans hs
      have hz := zel4_rng a.1.1 n16
      rw [zup_i (ne_803 b.1.1 n16), g2, zup_a (by omega), g3 1 4 (by decide) (by decide)] at e
      exact Q_act e (R_act0 hR hb hm (by decide) (by decide) (by decide) (by decide) hs (fr_s a.1.1 n16) (fun c j q _ _ _ _ => zup_a q))
set_option maxHeartbeats 2000000 in
theorem K_unpin {s : zSig} {n : Int32} (h : R2 s s) : Pair s (fun rr h' => (rr = some (.int (-2)) ∧ h' = zN (hRfC s (-2)) ∧ (¬ ((0 ≤ n ∧ n < s 1 6) ∧ s (zel 5 n) 0 ≠ 0))) ∨ (((0 ≤ n ∧ n < s 1 6) ∧ s (zel 5 n) 0 ≠ 0) ∧ ∃ sg1, hBeg s sg1 10 0 0 0 ∧ rr = some (.int (s (zel 5 n) 1)) ∧ h' = zN (hGrC (zup sg1 (zel 5 n) 0 0)))) (fun τ => fun rr h' => (rr = some (.int (-2)) ∧ h' = zN (hRef τ (-2)) ∧ (¬ ((0 ≤ n ∧ n < τ 395 2) ∧ τ 395 (947 + 4 * n) = 1))) ∨ (((0 ≤ n ∧ n < τ 395 2) ∧ τ 395 (947 + 4 * n) = 1) ∧ ∃ sg1, mRem τ sg1 10 ∧ rr = some (.int (τ 395 (947 + 4 * n + 1))) ∧ h' = zN (hTell (zup sg1 395 (947 + 4 * n) 0)))) := by
  rintro rr h' (⟨rfl, rfl, a⟩ | ⟨a, s1, hb, rfl, rfl⟩)
  · refine ⟨_, _, rfl, rfl, hRfC_m, ?_⟩
    rintro t rr2 h2 hR (⟨rfl, rfl, b⟩ | ⟨b, -⟩)
    · exact Q_ref hR
    · exact absurd ((live_a hR.1.1).mpr b) a
  · have n12 := lt12 a.1.2 (R2_12 h).2
    refine ⟨_, _, rfl, rfl, act_m h hb (fr_a a.1.1 n12), ?_⟩
    rintro t rr2 h2 hR (⟨rfl, rfl, b⟩ | ⟨b, t1, hm, rfl, rfl⟩)
    · exact absurd ((live_a hR.1.1).mp a) b
    · obtain ⟨g1, g2, g3⟩ := R_mid hR hb hm
      have hs := S_unpin (n := n) g1 b.1.1 (by rw [g2]; exact b.1.2)
      exact Q_act ((SR_an hR.1.1 b.1.1 b.1.2).2.2 b.2).1.symm (R_act0 hR hb hm (by decide) (by decide) (by decide) (by decide) hs (fr_a a.1.1 n12) (fun c j q _ _ _ _ => zup_a q))
set_option maxHeartbeats 2000000 in
theorem K_stretch {s : zSig} {n f t : Int32} (h : R2 s s) : Pair s (fun rr h' => (rr = some (.int (-1)) ∧ h' = zN (hRfC s (-1)) ∧ (¬ (0 ≤ f ∧ f < t ∧ t ≤ s 1 2))) ∨ (rr = some (.int (-2)) ∧ h' = zN (hRfC s (-2)) ∧ ((0 ≤ f ∧ f < t ∧ t ≤ s 1 2) ∧ ¬ ((0 ≤ n ∧ n < s 1 4) ∧ s (zel 4 n) 0 ≠ 0))) ∨ ((0 ≤ f ∧ f < t ∧ t ≤ s 1 2) ∧ ((0 ≤ n ∧ n < s 1 4) ∧ s (zel 4 n) 0 ≠ 0) ∧ ∃ sg1, hBeg s sg1 6 0 0 0 ∧ rr = some (.int 0) ∧ h' = zN (hGrC (zup (zup sg1 (zel 4 n) 1 f) (zel 4 n) 2 t)))) (fun τ => fun rr h' => (rr = some (.int (-1)) ∧ h' = zN (hRef τ (-1)) ∧ (¬ (0 ≤ f ∧ f < t ∧ t ≤ τ 395 0))) ∨ (rr = some (.int (-2)) ∧ h' = zN (hRef τ (-2)) ∧ ((0 ≤ f ∧ f < t ∧ t ≤ τ 395 0) ∧ ¬ ((0 ≤ n ∧ n < τ 395 1) ∧ τ 395 (803 + 9 * n) = 1))) ∨ ((0 ≤ f ∧ f < t ∧ t ≤ τ 395 0) ∧ ((0 ≤ n ∧ n < τ 395 1) ∧ τ 395 (803 + 9 * n) = 1) ∧ ∃ sg1, mRem τ sg1 6 ∧ rr = some (.int 0) ∧ h' = zN (hTell (zup (zup sg1 395 (803 + 9 * n + 1) f) 395 (803 + 9 * n + 2) t)))) := by
  rintro rr h' (⟨rfl, rfl, a⟩ | ⟨rfl, rfl, a, a'⟩ | ⟨a, a', s1, hb, rfl, rfl⟩)
  · refine ⟨_, _, rfl, rfl, hRfC_m, ?_⟩
    rintro t rr2 h2 hR hM
    rw [hR.1.1.2.1.1] at a
    rcases hM with ⟨rfl, rfl, b⟩ | ⟨rfl, rfl, b, b'⟩ | ⟨b, -⟩
    · exact Q_ref hR
    · exact absurd b a
    · exact absurd b a
  · refine ⟨_, _, rfl, rfl, hRfC_m, ?_⟩
    rintro t rr2 h2 hR hM
    rw [hR.1.1.2.1.1] at a
    rw [live_i hR.1.1] at a'
    rcases hM with ⟨rfl, rfl, b⟩ | ⟨rfl, rfl, b, b'⟩ | ⟨b, b', -⟩
    · exact absurd a b
    · exact Q_ref hR
    · exact absurd b' a'
  · have n16 := lt16 a'.1.2 (R2_16 h).2
    have fs : ∀ c j, c < 1 ∨ 34 ≤ c → zup (zup s1 (zel 4 n) 1 f) (zel 4 n) 2 t c j = s1 c j := fun c j q => by rw [fr_s a'.1.1 n16 c j q, fr_s a'.1.1 n16 c j q]
    refine ⟨_, _, rfl, rfl, act_m h hb fs, ?_⟩
    rintro t rr2 h2 hR hM
    rw [hR.1.1.2.1.1] at a
    rw [live_i hR.1.1] at a'
    rcases hM with ⟨rfl, rfl, b⟩ | ⟨rfl, rfl, b, b'⟩ | ⟨b, b', t1, hm, rfl, rfl⟩
    · exact absurd a b
    · exact absurd a' b'
    · obtain ⟨g1, g2, g3⟩ := R_mid hR hb hm
      have hs := S_stretch g1 b'.1.1 (by rw [g2]; exact b'.1.2) b.1 b.2.1 (by rw [g2]; exact b.2.2)
      exact Q_act rfl (R_act0 hR hb hm (by decide) (by decide) (by decide) (by decide) hs fs (fun c j q _ _ _ _ => by rw [zup_a q, zup_a q]))
set_option maxHeartbeats 2000000 in
theorem K_set {s : zSig} {n w v : Int32} (h : R2 s s) : Pair s (fun rr h' => (rr = some (.int (-1)) ∧ h' = zN (hRfC s (-1)) ∧ (¬ ((w = 0 ∧ 0 ≤ v ∧ v ≤ 9) ∨ (w = 1 ∧ 0 ≤ v ∧ v ≤ 3)))) ∨ (rr = some (.int (-2)) ∧ h' = zN (hRfC s (-2)) ∧ (((w = 0 ∧ 0 ≤ v ∧ v ≤ 9) ∨ (w = 1 ∧ 0 ≤ v ∧ v ≤ 3)) ∧ ¬ ((0 ≤ n ∧ n < s 1 4) ∧ s (zel 4 n) 0 ≠ 0))) ∨ (((w = 0 ∧ 0 ≤ v ∧ v ≤ 9) ∨ (w = 1 ∧ 0 ≤ v ∧ v ≤ 3)) ∧ ((0 ≤ n ∧ n < s 1 4) ∧ s (zel 4 n) 0 ≠ 0) ∧ ∃ sg1, hBeg s sg1 5 0 0 0 ∧ rr = some (.int (s (zel 4 n) (if w = 0 then 3 else 8))) ∧ h' = zN (hGrC (zup sg1 (zel 4 n) (if w = 0 then 3 else 8) v)))) (fun τ => fun rr h' => (rr = some (.int (-1)) ∧ h' = zN (hRef τ (-1)) ∧ (¬ ((w = 0 ∧ 0 ≤ v ∧ v ≤ 9) ∨ (w = 1 ∧ 0 ≤ v ∧ v ≤ 3)))) ∨ (rr = some (.int (-2)) ∧ h' = zN (hRef τ (-2)) ∧ (((w = 0 ∧ 0 ≤ v ∧ v ≤ 9) ∨ (w = 1 ∧ 0 ≤ v ∧ v ≤ 3)) ∧ ¬ ((0 ≤ n ∧ n < τ 395 1) ∧ τ 395 (803 + 9 * n) = 1))) ∨ (((w = 0 ∧ 0 ≤ v ∧ v ≤ 9) ∨ (w = 1 ∧ 0 ≤ v ∧ v ≤ 3)) ∧ ((0 ≤ n ∧ n < τ 395 1) ∧ τ 395 (803 + 9 * n) = 1) ∧ ∃ sg1, mRem τ sg1 5 ∧ rr = some (.int (τ 395 (803 + 9 * n + (if w = 0 then 3 else 8)))) ∧ h' = zN (hTell (zup sg1 395 (803 + 9 * n + (if w = 0 then 3 else 8)) v)))) := by
  rintro rr h' (⟨rfl, rfl, a⟩ | ⟨rfl, rfl, a, a'⟩ | ⟨a, a', s1, hb, rfl, rfl⟩)
  · refine ⟨_, _, rfl, rfl, hRfC_m, ?_⟩
    rintro t rr2 h2 hR (⟨rfl, rfl, b⟩ | ⟨rfl, rfl, b, b'⟩ | ⟨b, -⟩)
    · exact Q_ref hR
    · exact absurd b a
    · exact absurd b a
  · refine ⟨_, _, rfl, rfl, hRfC_m, ?_⟩
    rintro t rr2 h2 hR hM
    rw [live_i hR.1.1] at a'
    rcases hM with ⟨rfl, rfl, b⟩ | ⟨rfl, rfl, b, b'⟩ | ⟨b, b', -⟩
    · exact absurd a b
    · exact Q_ref hR
    · exact absurd b' a'
  · have n16 := lt16 a'.1.2 (R2_16 h).2
    refine ⟨_, _, rfl, rfl, act_m h hb (fr_s a'.1.1 n16), ?_⟩
    rintro t rr2 h2 hR hM
    rw [live_i hR.1.1] at a'
    rcases hM with ⟨rfl, rfl, b⟩ | ⟨rfl, rfl, b, b'⟩ | ⟨b, b', t1, hm, rfl, rfl⟩
    · exact absurd a b
    · exact absurd a' b'
    · obtain ⟨g1, g2, g3⟩ := R_mid hR hb hm
      have hw : (if w = 0 then (3 : Int32) else 8) = 3 ∨ (if w = 0 then (3 : Int32) else 8) = 8 := by
        by_cases hw : w = 0
        · exact Or.inl (if_pos hw)
        · exact Or.inr (if_neg hw)
      have hs := S_set (n := n) (v := v) g1 b'.1.1 (by rw [g2]; exact b'.1.2) hw
      have p2 := ((SR_sp hR.1.1 b'.1.1 b'.1.2).2.2 b'.2).1
      have e : t 395 (803 + 9 * n + (if w = 0 then 3 else 8)) = s (zel 4 n) (if w = 0 then 3 else 8) := by
        rcases hw with hw | hw
        · rw [hw]; exact p2.2.2.1.symm
        · rw [hw]; exact p2.2.2.2.2.2.2.2.symm
      exact Q_act e (R_act0 hR hb hm (by decide) (by decide) (by decide) (by decide) hs (fr_s b'.1.1 n16) (fun c j q _ _ _ _ => zup_a q))
set_option maxHeartbeats 2000000 in
theorem K_lay {s : zSig} {f t la on of co gr si : Int32} (h : R2 s s) : Pair s (fun rr h' => (rr = some (.int (-1)) ∧ h' = zN (hRfC s (-1)) ∧ (¬ ((0 ≤ f ∧ f < t ∧ t ≤ s 1 2) ∧ (0 ≤ la ∧ la ≤ 9) ∧ (0 ≤ si ∧ si ≤ 3) ∧ (0 ≤ on ∧ on ≤ 15) ∧ (0 ≤ of ∧ of ≤ 15) ∧ (co = -1 ∨ (0 ≤ co ∧ co ≤ 7)) ∧ -3 ≤ gr ∧ gr ≤ 3))) ∨ (rr = some (.int (-5)) ∧ h' = zN (hRfC s (-5)) ∧ (((0 ≤ f ∧ f < t ∧ t ≤ s 1 2) ∧ (0 ≤ la ∧ la ≤ 9) ∧ (0 ≤ si ∧ si ≤ 3) ∧ (0 ≤ on ∧ on ≤ 15) ∧ (0 ≤ of ∧ of ≤ 15) ∧ (co = -1 ∨ (0 ≤ co ∧ co ≤ 7)) ∧ -3 ≤ gr ∧ gr ≤ 3) ∧ 16 ≤ s 1 4)) ∨ (((0 ≤ f ∧ f < t ∧ t ≤ s 1 2) ∧ (0 ≤ la ∧ la ≤ 9) ∧ (0 ≤ si ∧ si ≤ 3) ∧ (0 ≤ on ∧ on ≤ 15) ∧ (0 ≤ of ∧ of ≤ 15) ∧ (co = -1 ∨ (0 ≤ co ∧ co ≤ 7)) ∧ -3 ≤ gr ∧ gr ≤ 3) ∧ s 1 4 < 16 ∧ ∃ sg1, hBeg s sg1 3 0 0 0 ∧ rr = some (.int (s 1 4)) ∧ h' = zN (hGrC (hLay sg1 (s 1 4) f t la on of co gr si)))) (fun τ => fun rr h' => (rr = some (.int (-1)) ∧ h' = zN (hRef τ (-1)) ∧ (¬ ((0 ≤ f ∧ f < t ∧ t ≤ τ 395 0) ∧ (0 ≤ la ∧ la ≤ 9) ∧ (0 ≤ si ∧ si ≤ 3) ∧ (0 ≤ on ∧ on ≤ 15) ∧ (0 ≤ of ∧ of ≤ 15) ∧ (-1 ≤ co ∧ co ≤ 7) ∧ -3 ≤ gr ∧ gr ≤ 3))) ∨ (rr = some (.int (-5)) ∧ h' = zN (hRef τ (-5)) ∧ (((0 ≤ f ∧ f < t ∧ t ≤ τ 395 0) ∧ (0 ≤ la ∧ la ≤ 9) ∧ (0 ≤ si ∧ si ≤ 3) ∧ (0 ≤ on ∧ on ≤ 15) ∧ (0 ≤ of ∧ of ≤ 15) ∧ (-1 ≤ co ∧ co ≤ 7) ∧ -3 ≤ gr ∧ gr ≤ 3) ∧ τ 395 1 = 16)) ∨ (((0 ≤ f ∧ f < t ∧ t ≤ τ 395 0) ∧ (0 ≤ la ∧ la ≤ 9) ∧ (0 ≤ si ∧ si ≤ 3) ∧ (0 ≤ on ∧ on ≤ 15) ∧ (0 ≤ of ∧ of ≤ 15) ∧ (-1 ≤ co ∧ co ≤ 7) ∧ -3 ≤ gr ∧ gr ≤ 3) ∧ τ 395 1 < 16 ∧ ∃ sg1, mRem τ sg1 3 ∧ rr = some (.int (τ 395 1)) ∧ h' = zN (hTell (mLay sg1 (τ 395 1) f t la on of co gr si)))) := by
  rintro rr h' (⟨rfl, rfl, a⟩ | ⟨rfl, rfl, a, a'⟩ | ⟨a, a', s1, hb, rfl, rfl⟩)
  · refine ⟨_, _, rfl, rfl, hRfC_m, ?_⟩
    rintro t rr2 h2 hR hM
    rw [hR.1.1.2.1.1, col_i] at a
    rcases hM with ⟨rfl, rfl, b⟩ | ⟨rfl, rfl, b, b'⟩ | ⟨b, -⟩
    · exact Q_ref hR
    · exact absurd b a
    · exact absurd b a
  · have l16 := (R2_16 h).2
    refine ⟨_, _, rfl, rfl, hRfC_m, ?_⟩
    rintro t rr2 h2 hR hM
    rw [hR.1.1.2.1.1, col_i] at a
    rw [hR.1.1.2.1.2.1] at a' l16
    rcases hM with ⟨rfl, rfl, b⟩ | ⟨rfl, rfl, b, b'⟩ | ⟨b, b', -⟩
    · exact absurd a b
    · exact Q_ref hR
    · exact (no16 b' (eq16 a' l16)).elim
  · have l16 := R2_16 h
    refine ⟨_, _, rfl, rfl, act_m h hb (lay_fr l16.1 a'), ?_⟩
    rintro t rr2 h2 hR hM
    have e4 := hR.1.1.2.1.2.1
    rw [hR.1.1.2.1.1, col_i] at a
    rw [e4] at a' l16 ⊢
    rcases hM with ⟨rfl, rfl, b⟩ | ⟨rfl, rfl, b, b'⟩ | ⟨b, b', t1, hm, rfl, rfl⟩
    · exact absurd a b
    · exact (no16 a' b').elim
    · obtain ⟨g1, g2, g3⟩ := R_mid hR hb hm
      have hs := S_lay (la := la) (gr := gr) (si := si) g1 (by rw [g2]; exact b') b.1.1 b.1.2.1 (by rw [g2]; exact b.1.2.2) b.2.2.2.1 b.2.2.2.2.1 b.2.2.2.2.2.1
      rw [g2 1] at hs
      exact Q_act rfl (R_act0 hR hb hm (by decide) (by decide) (by decide) (by decide) hs (lay_fr l16.1 b') (fun c j q _ _ _ _ => mLay_fr c j q))
set_option maxHeartbeats 2000000 in
theorem K_pin {s : zSig} {p l : Int32} (h : R2 s s) : Pair s (fun rr h' => (rr = some (.int (-1)) ∧ h' = zN (hRfC s (-1)) ∧ (¬ ((0 ≤ p ∧ p ≤ s 1 2) ∧ 0 ≤ l ∧ l ≤ 1))) ∨ (rr = some (.int (-5)) ∧ h' = zN (hRfC s (-5)) ∧ (((0 ≤ p ∧ p ≤ s 1 2) ∧ 0 ≤ l ∧ l ≤ 1) ∧ 12 ≤ s 1 6)) ∨ (((0 ≤ p ∧ p ≤ s 1 2) ∧ 0 ≤ l ∧ l ≤ 1) ∧ s 1 6 < 12 ∧ ∃ sg1, hBeg s sg1 9 0 0 0 ∧ rr = some (.int (s 1 6)) ∧ h' = zN (hGrC (hPin sg1 (s 1 6) p l)))) (fun τ => fun rr h' => (rr = some (.int (-1)) ∧ h' = zN (hRef τ (-1)) ∧ (¬ ((0 ≤ p ∧ p ≤ τ 395 0) ∧ 0 ≤ l ∧ l ≤ 1))) ∨ (rr = some (.int (-5)) ∧ h' = zN (hRef τ (-5)) ∧ (((0 ≤ p ∧ p ≤ τ 395 0) ∧ 0 ≤ l ∧ l ≤ 1) ∧ τ 395 2 = 12)) ∨ (((0 ≤ p ∧ p ≤ τ 395 0) ∧ 0 ≤ l ∧ l ≤ 1) ∧ τ 395 2 < 12 ∧ ∃ sg1, mRem τ sg1 9 ∧ rr = some (.int (τ 395 2)) ∧ h' = zN (hTell (mPin sg1 (τ 395 2) p l)))) := by
  rintro rr h' (⟨rfl, rfl, a⟩ | ⟨rfl, rfl, a, a'⟩ | ⟨a, a', s1, hb, rfl, rfl⟩)
  · refine ⟨_, _, rfl, rfl, hRfC_m, ?_⟩
    rintro t rr2 h2 hR hM
    rw [hR.1.1.2.1.1] at a
    rcases hM with ⟨rfl, rfl, b⟩ | ⟨rfl, rfl, b, b'⟩ | ⟨b, -⟩
    · exact Q_ref hR
    · exact absurd b a
    · exact absurd b a
  · have l12 := (R2_12 h).2
    refine ⟨_, _, rfl, rfl, hRfC_m, ?_⟩
    rintro t rr2 h2 hR hM
    rw [hR.1.1.2.1.1] at a
    rw [hR.1.1.2.1.2.2] at a' l12
    rcases hM with ⟨rfl, rfl, b⟩ | ⟨rfl, rfl, b, b'⟩ | ⟨b, b', -⟩
    · exact absurd a b
    · exact Q_ref hR
    · exact (no12 b' (eq12 a' l12)).elim
  · have l12 := R2_12 h
    refine ⟨_, _, rfl, rfl, act_m h hb (pin_fr l12.1 a'), ?_⟩
    rintro t rr2 h2 hR hM
    have e4 := hR.1.1.2.1.2.2
    rw [hR.1.1.2.1.1] at a
    rw [e4] at a' l12 ⊢
    rcases hM with ⟨rfl, rfl, b⟩ | ⟨rfl, rfl, b, b'⟩ | ⟨b, b', t1, hm, rfl, rfl⟩
    · exact absurd a b
    · exact (no12 a' b').elim
    · obtain ⟨g1, g2, g3⟩ := R_mid hR hb hm
      have hs := S_pin (l := l) g1 (by rw [g2]; exact b') b.1.1 (by rw [g2]; exact b.1.2)
      rw [g2 2] at hs
      exact Q_act rfl (R_act0 hR hb hm (by decide) (by decide) (by decide) (by decide) hs (pin_fr l12.1 b') (fun c j q _ _ _ _ => mPin_fr c j q))
set_option maxHeartbeats 2000000 in
theorem K_cut {s : zSig} {f t : Int32} (h : R2 s s) : Pair s (fun rr h' => (rr = some (.int (-1)) ∧ h' = zN (hRfC s (-1)) ∧ (¬ (0 ≤ f ∧ f < t ∧ t ≤ s 1 2))) ∨ ((0 ≤ f ∧ f < t ∧ t ≤ s 1 2) ∧ ∃ sg1 sg2, hBeg s sg1 1 f t 0 ∧ hGo sg1 sg2 f t ∧ rr = some (.int (sg2 1 2)) ∧ h' = zN (hGrC sg2))) (fun τ => fun rr h' => (rr = some (.int (-1)) ∧ h' = zN (hRef τ (-1)) ∧ (¬ (0 ≤ f ∧ f < t ∧ t ≤ τ 395 0))) ∨ ((0 ≤ f ∧ f < t ∧ t ≤ τ 395 0) ∧ ∃ sg1 sg2, mRem τ sg1 1 ∧ mTk (mNo sg1 f t 0) sg2 f t 0 ∧ rr = some (.int (sg2 395 0)) ∧ h' = zN (hTell sg2))) := by
  rintro rr h' (⟨rfl, rfl, a⟩ | ⟨a, s1, s2, hb, hg, rfl, rfl⟩)
  · refine ⟨_, _, rfl, rfl, hRfC_m, ?_⟩
    rintro t' rr2 h2 hR hM
    rw [hR.1.1.2.1.1] at a
    rcases hM with ⟨rfl, rfl, b⟩ | ⟨b, -⟩
    · exact Q_ref hR
    · exact absurd b a
  · refine ⟨_, _, rfl, rfl, act_m h hb hg.1.1, ?_⟩
    rintro t' rr2 h2 hR hM
    rw [hR.1.1.2.1.1] at a
    rcases hM with ⟨rfl, rfl, b⟩ | ⟨b, t1, t2, hm, hk, rfl, rfl⟩
    · exact absurd a b
    · obtain ⟨g1, g2, g3⟩ := R_mid hR hb hm
      obtain ⟨m0, m1⟩ := rem_u hR.1.2.1 hm
      obtain ⟨n1, n2, n3, n4⟩ := mNo_a (t := t1) (f := f) (u := t) (a := 0) rfl m0 m1
      have em : mNo t1 f t 0 395 = t1 395 := funext fun j => mNo_f (by decide)
      have hs := S_go (s := s1) (t := mNo t1 f t 0) (by rw [em]; exact g1) hg hk b.1 b.2.1 (by rw [em, g2]; exact b.2.2)
      exact Q_act hs.2.1.1.symm (R_act hR hb hm (fun c j q => mNo_f q) n4 ⟨fun q => absurd q (by decide), fun _ => ⟨n1.symm, n2.symm⟩, fun q => absurd q (by decide), fun q => absurd q (by decide)⟩ hs hg.1.1 (fun c j q _ _ _ _ => hk.1 c j q))
set_option maxHeartbeats 2000000 in
theorem K_move {s : zSig} {f t r : Int32} (h : R2 s s) : Pair s (fun rr h' => (rr = some (.int (-1)) ∧ h' = zN (hRfC s (-1)) ∧ (¬ ((0 ≤ f ∧ f < t ∧ t ≤ s 1 2) ∧ 0 ≤ r ∧ r ≤ s 1 2))) ∨ (rr = some (.int (-4)) ∧ h' = zN (hRfC s (-4)) ∧ (((0 ≤ f ∧ f < t ∧ t ≤ s 1 2) ∧ 0 ≤ r ∧ r ≤ s 1 2) ∧ f ≤ r ∧ r ≤ t)) ∨ (((0 ≤ f ∧ f < t ∧ t ≤ s 1 2) ∧ 0 ≤ r ∧ r ≤ s 1 2) ∧ ¬ (f ≤ r ∧ r ≤ t) ∧ ∃ sg1 sg2, hBeg s sg1 2 f t r ∧ hMov sg1 sg2 f t r ∧ rr = some (.int (zit (nMv sg1 f t) 0 (sg1 1 4))) ∧ h' = zN (hGrC sg2))) (fun τ => fun rr h' => (rr = some (.int (-1)) ∧ h' = zN (hRef τ (-1)) ∧ (¬ ((0 ≤ f ∧ f < t ∧ t ≤ τ 395 0) ∧ 0 ≤ r ∧ r ≤ τ 395 0))) ∨ (rr = some (.int (-4)) ∧ h' = zN (hRef τ (-4)) ∧ (((0 ≤ f ∧ f < t ∧ t ≤ τ 395 0) ∧ 0 ≤ r ∧ r ≤ τ 395 0) ∧ f ≤ r ∧ r ≤ t)) ∨ (((0 ≤ f ∧ f < t ∧ t ≤ τ 395 0) ∧ 0 ≤ r ∧ r ≤ τ 395 0) ∧ ¬ (f ≤ r ∧ r ≤ t) ∧ ∃ sg1 sg2 sg3 sg4 sg5, mRem τ sg1 2 ∧ mGo3 τ sg1 sg2 f t ∧ mTk (mNo sg2 f t (pLd f t r)) sg3 f t 1 ∧ mMk sg3 sg4 (pLd f t r) (t - f) 1 ∧ mFin sg4 sg5 f (pLd f t r) (t - f) ∧ rr = some (.int (zit (nGo τ f t) 0 16)) ∧ h' = zN (hTell sg5))) := by
  rintro rr h' (⟨rfl, rfl, a⟩ | ⟨rfl, rfl, a, a'⟩ | ⟨a, a', s1, s2, hb, hg, rfl, rfl⟩)
  · refine ⟨_, _, rfl, rfl, hRfC_m, ?_⟩
    rintro t' rr2 h2 hR hM
    rw [hR.1.1.2.1.1] at a
    rcases hM with ⟨rfl, rfl, b⟩ | ⟨rfl, rfl, b, b'⟩ | ⟨b, -⟩
    · exact Q_ref hR
    · exact absurd b a
    · exact absurd b a
  · refine ⟨_, _, rfl, rfl, hRfC_m, ?_⟩
    rintro t' rr2 h2 hR hM
    rw [hR.1.1.2.1.1] at a
    rcases hM with ⟨rfl, rfl, b⟩ | ⟨rfl, rfl, b, b'⟩ | ⟨b, b', -⟩
    · exact absurd a b
    · exact Q_ref hR
    · exact absurd a' b'
  · refine ⟨_, _, rfl, rfl, act_m h hb hg.1.1, ?_⟩
    rintro t' rr2 h2 hR hM
    rw [hR.1.1.2.1.1] at a
    rcases hM with ⟨rfl, rfl, b⟩ | ⟨rfl, rfl, b, b'⟩ | ⟨b, b', t1, t2, t3, t4, t5, hm, hg3, hk, hmk, hf, rfl, rfl⟩
    · exact absurd a b
    · exact absurd b' a'
    · obtain ⟨g1, g2, g3⟩ := R_mid hR hb hm
      obtain ⟨m0, m1⟩ := rem_u hR.1.2.1 hm
      obtain ⟨n1, n2, n3, n4⟩ := mNo_a (t := t1) (f := f) (u := t) (a := pLd f t r) rfl m0 m1
      have e1 : t1 395 = t' 395 := funext g2
      have gs : SR s1 1 (t' 395) := by rw [← e1]; exact g1
      have hs := S_move gs hg g2 hg3 hk hmk hf b.1.1 b.1.2.1 b.1.2.2 b.2.1 b.2.2 b'
      refine Q_act (J_moved gs) (R_act (ta := mNo t1 f t (pLd f t r)) hR hb hm (fun c j q => mNo_f q) n4 ⟨fun q => absurd q (by decide), fun q => absurd q (by decide), fun _ => ⟨n1.symm, n2.symm, n3⟩, fun q => absurd q (by decide)⟩ hs hg.1.1 (fun c j q q2 q3 q4 _ => ?_))
      rw [hf.1 c j q, hmk.1 c j q, hk.1 c j q]
      exact mNo_cg (fun c j w => hg3.1 c j w.1 w.2.1 w.2.2) ⟨q2, q3, q4⟩
