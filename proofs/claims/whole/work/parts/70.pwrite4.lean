/-! the pairs of calls: count, write -/
theorem zp0 {n : Int32} : 0 + n = n := by grind
theorem zm0 {j : Int32} : 0 + (j - 0) = j := by grind
theorem tb_34 {a : zSig} {n : Int32} : hTb a n 34 1 = n := by unfold hTb; rw [zcp_e, if_neg (fun q => absurd q.1 (by decide)), zup_s]
theorem tb_35 {a : zSig} {n j : Int32} (j0 : 0 ≤ j) (j1 : j < n) : hTb a n 35 j = a 323 j := by
  unfold hTb; rw [zcp_e, if_pos ⟨rfl, j0, by rw [zp0]; exact j1⟩, zup_a (by decide), zm0]
theorem tb_f {a : zSig} {n : Int32} {c : Nat} {j : Int32} (h : c ≠ 35) (h1 : c ≠ 34) : hTb a n c j = a c j := by
  unfold hTb; rw [zcp_e, if_neg (fun q => h q.1), zup_a h1]
theorem lt4 {n j : Int32} (h : j < n) (h1 : n ≤ 400) : j < 400 := by lia
theorem lk5 {s sg0 s5 : zSig} (h : R2 s s) (hl : hLk s sg0) (hf : ∀ c j, (c < 322 ∨ 326 ≤ c) → s5 c j = sg0 c j) : hQ s s5 := by
  have hq := hLk_Q h.1.1.1 hl
  refine ⟨fun c j a b d => by rw [hf c j b]; exact hq.1 c j a b d, ?_⟩
  have o1 : okS sg0 1 := (R2_q h hq).1.1.1
  exact okF_c hq.2 o1 (fun c j _ _ => hf c j (by omega)) (hf 0 11 (by decide)) (hf 313 1 (by decide)) (fun j => hf 314 j (by decide))
set_option maxHeartbeats 2000000 in
theorem K_count {s : zSig} {w : Int32} : Pair s (fun rr h' => ∃ v sg', rr = some (.int v) ∧ h' = zN sg' ∧ hQ s sg' ∧ qCt s w v) (fun τ => fun rr h' => ∃ v sg', rr = some (.int v) ∧ h' = zN sg' ∧ mQ τ sg' ∧ mCt τ w v) := by
  exact Pair_B (fun s1 t v v' h a b => J_count h (fun sg0 hl => (W_all h hl).2.1.1) a b)
set_option maxHeartbeats 2000000 in
theorem K_write {s : zSig} (h : R2 s s) : Pair s (fun rr h' => ∃ sg0 s5, hLk s sg0 ∧ s5 = wAll sg0 ∧ (∀ c j, (c < 322 ∨ 326 ≤ c) → s5 c j = sg0 c j) ∧ ((400 < s5 322 1 ∧ rr = some (.int (-5)) ∧ h' = zN (hRfC s5 (-5))) ∨ (s5 322 1 ≤ 400 ∧ rr = some (.int (s5 322 1)) ∧ h' = zN (hGrC (hTb s5 (s5 322 1)))))) (fun τ => fun rr h' => ∃ sW, sW = mWall τ ∧ mQ τ sW ∧ 0 ≤ sW 393 27 ∧ sW 393 27 ≤ 10000 ∧ ((400 < sW 393 27 ∧ rr = some (.int (-5)) ∧ h' = zN (hRef sW (-5))) ∨ (sW 393 27 ≤ 400 ∧ ∃ s', rr = some (.int (sW 393 27)) ∧ h' = zN (hTell s') ∧ (∀ c j, c ≠ 401 → (c ≠ 393 ∨ j ≠ 11) → s' c j = sW c j) ∧ s' 393 11 = sW 393 27 ∧ ∀ j, 0 ≤ j → j < sW 393 27 → s' 401 j = (sW 408 j).toInt8.toInt32))) := by
  rintro rr h' ⟨sg0, s5, hl, e5, hf, hc⟩
  have hq := lk5 h hl hf
  rcases hc with ⟨a, rfl, rfl⟩ | ⟨a, rfl, rfl⟩
  · refine ⟨_, _, rfl, rfl, fun c j q => by rw [hRfC_m c j q]; exact hQ_m hq c j q, ?_⟩
    rintro t rr2 h2 hR ⟨sW, eW, mq, -, -, hm⟩
    have w := W_all hR hl
    rw [← e5, ← eW] at w
    rw [w.2.1.1] at a
    rcases hm with ⟨b, rfl, rfl⟩ | ⟨b, -⟩
    · obtain ⟨t2, x1, x2, x3, x4⟩ := Q_ref (v := -5) (R2_mq (R2_q hR hq) mq)
      refine ⟨t2, x1, x2, x3, fun c j q => ?_⟩
      rw [x4 c j q]; exact mQ_m mq c j q
    · exact absurd b (Int32.not_le.mpr a)
  · refine ⟨_, _, rfl, rfl, fun c j q => ?_, ?_⟩
    · rw [hGrC_f (Or.inl (by omega)), tb_f (by omega) (by omega)]; exact hQ_m hq c j q
    rintro t rr2 h2 hR ⟨sW, eW, mq, -, -, hm⟩
    have w := W_all hR hl
    rw [← e5, ← eW] at w
    have e1 := w.2.1.1
    rw [e1] at a
    rcases hm with ⟨b, rfl, rfl⟩ | ⟨b, t1, rfl, rfl, g1, g2, g3⟩
    · exact absurd a (Int32.not_le.mpr b)
    · have r2 := R2_mq (R2_q hR hq) mq
      rw [e1]
      refine Q_act2 rfl ⟨R5_c (fun c j q => tb_f (by omega) (by omega)) (fun c j q1 q2 => g1 c j (by omega) (Or.inl (by omega))) (g1 393 6 (by decide) (by decide)) r2.1, ?_, RG_c (tb_f (by decide) (by decide)) (fun k => tb_f (by decide) (by decide)) (tb_f (by decide) (by decide)) (g1 393 1 (by decide) (by decide)) (fun k => g1 394 k (by decide) (Or.inl (by decide))) (g1 393 12 (by decide) (by decide)) r2.2.2.1, okF_c r2.2.2.2 r2.1.1.1 (fun c j q1 q2 => tb_f (by omega) (by omega)) (tb_f (by decide) (by decide)) (tb_f (by decide) (by decide)) (fun j => tb_f (by decide) (by decide))⟩ (fun c j q => ?_)
      · unfold RT
        rw [tb_34, g2]
        refine ⟨⟨w.2.1.2.1, a⟩, rfl, fun j j0 j1 => ?_⟩
        obtain ⟨v1, v2⟩ := w.2.2.1 j j0 j1 (lt4 j1 a)
        have v3 : s5 323 j ≤ 255 := Int32.le_trans v1.2 (by decide)
        have v4 := (by8 v1.1 v3).2.2 v1.2
        rw [tb_35 j0 j1, g3 j j0 j1, v2, v4]
        exact ⟨⟨v1.1, v3⟩, v4⟩
      · rw [g1 c j (by omega) (Or.inl (by omega))]; exact mQ_m mq c j q
