/-! the pair of calls: read -/
set_option maxHeartbeats 2000000 in
theorem rd_end {s t : zSig} (hT : RT s t) {n k : Nat} {X : Int32 × zSig} {sgP sF : zSig} (hX : X = zitN (fun _ => rSt) (0, rI s) n) (hst : ¬ (X.1 < X.2 34 1 ∧ X.2 317 3 = -1)) (hP : sgP = rEnd X.2) (hJ : JR s k sF) (ho : okMr t sF) (hst2 : ¬ (¬ sF 393 20 = 0 ∧ sF 393 19 < sF 393 11)) : sgP 317 3 = mREnd sF 393 12 ∧ (mREnd sF 393 20 = 0 ↔ sgP 317 3 ≠ -1) ∧ (¬ mREnd sF 393 20 = 0 → JS sgP (mREnd sF)) ∧ mRdF t (mREnd sF) := by
  obtain ⟨i, σ, hx, hf, e12, e20, hj⟩ := hJ
  have e11 : sF 393 11 = σ 34 1 := by
    rw [ho.1 393 11 (by decide) (by decide) (by decide) (by decide), hT.2.1, hf 34 1 (by decide)]
  have h2 : ¬ ((zitN (fun _ => rSt) (0, rI s) k).1 < (zitN (fun _ => rSt) (0, rI s) k).2 34 1 ∧ (zitN (fun _ => rSt) (0, rI s) k).2 317 3 = -1) := by
    rw [hx]
    rintro ⟨a, b⟩
    have hn : ¬ sF 393 20 = 0 := fun q => (e20.mp q) b
    exact hst2 ⟨hn, by rw [← (hj hn).1, e11]; exact a⟩
  rw [hX] at hst
  have eX := stop_eq hst h2
  rw [hx] at eX
  rw [hX, eX] at hP
  have hP : sgP = rEnd σ := hP
  have s0 : ¬ σ 34 1 = -1 := by
    rw [hf 34 1 (by decide)]; exact ne1 hT.1.1
  by_cases hn : sF 393 20 = 0
  · have eR : rEnd σ = σ := if_neg (fun q => e20.mp hn q.1)
    have eM : mREnd sF = sF := if_neg (fun q => q.1 hn)
    rw [hP, eR, eM]
    exact ⟨e12, e20, fun q => absurd hn q, ho.1⟩
  · have f3' : σ 317 3 = -1 := Decidable.byContradiction (fun q => hn (e20.mpr q))
    obtain ⟨ei, js⟩ := hj hn
    by_cases hz : 0 < sF 393 25
    · have eR : rEnd σ = zup σ 317 3 (σ 34 1) := if_pos ⟨f3', by rw [js.2.1.1]; exact hz⟩
      have eM : mREnd sF = hWr sF (sF 393 11) := if_pos ⟨hn, hz⟩
      have m20 : hWr sF (sF 393 11) 393 20 = 0 := by unfold hWr; rw [zup_s]
      have m12 : hWr sF (sF 393 11) 393 12 = sF 393 11 := by unfold hWr; rw [zup_i (by decide), zup_s, if_neg hn]
      rw [hP, eR, eM, m20, m12, zup_s]
      refine ⟨e11.symm, ⟨fun _ => s0, fun _ => rfl⟩, fun q => absurd rfl q, fun c j a1 a2 a3 a4 => ?_⟩
      rw [← ho.1 c j a1 a2 a3 a4]
      unfold hWr
      rw [zup_e, if_neg (fun q => a4.elim (fun g => g q.1) (fun g => g.2.2.2.2.2.1 q.2)), zup_e, if_neg (fun q => a4.elim (fun g => g q.1) (fun g => g.1 q.2))]
    · have eR : rEnd σ = σ := if_neg (fun q => hz (by rw [← js.2.1.1]; exact q.2))
      have eM : mREnd sF = sF := if_neg (fun q => hz q.2)
      rw [hP, eR, eM]
      exact ⟨e12, e20, fun _ => js, ho.1⟩
theorem rd_R2 {s t a b : zSig} (h : R2 s t) (hf : ∀ c j, (c < 317 ∨ 322 ≤ c) → a c j = s c j) (hm : mRdF t b) (e : a 317 3 = b 393 12) : R2 (zup a 34 1 0) (zup b 393 11 0) := by
  have g : ∀ c j, c ≠ 34 → (c < 317 ∨ 322 ≤ c) → zup a 34 1 0 c j = s c j := fun c j q1 q2 => by rw [zup_a q1]; exact hf c j q2
  have w : ∀ c j, c ≠ 393 → c ≠ 405 → c ≠ 406 → c ≠ 407 → zup b 393 11 0 c j = t c j := fun c j q1 q2 q3 q4 => by rw [zup_a q1]; exact hm c j q2 q3 q4 (Or.inl q1)
  have w6 : zup b 393 11 0 393 6 = t 393 6 := by rw [zup_i (by decide)]; exact hm 393 6 (by decide) (by decide) (by decide) (by decide)
  have w1 : zup b 393 11 0 393 1 = t 393 1 := by rw [zup_i (by decide)]; exact hm 393 1 (by decide) (by decide) (by decide) (by decide)
  refine ⟨R5_c (fun c j q => g c j (by omega) (by omega)) (fun c j q1 q2 => w c j (by omega) (by omega) (by omega) (by omega)) w6 h.1, ?_, ?_, okF_c h.2.2.2 h.1.1.1 (fun c j q1 q2 => g c j (by omega) (by omega)) (g 0 11 (by decide) (by decide)) (g 313 1 (by decide) (by decide)) (fun j => g 314 j (by decide) (by decide))⟩
  · unfold RT
    rw [zup_s, zup_s]
    exact ⟨by decide, rfl, fun j j0 j1 => absurd (Int32.lt_of_le_of_lt j0 j1) (by decide)⟩
  · refine ⟨by rw [g 0 10 (by decide) (by decide), w1]; exact h.2.2.1.1, fun k k0 k1 => ?_, by rw [zup_a (by decide), zup_i (by decide)]; exact e⟩
    rw [g 326 k (by decide) (by decide), w 394 k (by decide) (by decide) (by decide) (by decide)]
    exact h.2.2.1.2.1 k k0 k1
set_option maxHeartbeats 2000000 in
theorem K_read {s : zSig} (h : R2 s s) : Pair s (fun rr h' => ∃ sgP, rPs s sgP ∧ ((sgP 317 3 ≠ -1 ∧ rr = some (.int (-6)) ∧ h' = zN (hRfC (zup sgP 34 1 0) (-6))) ∨ (sgP 317 3 = -1 ∧ ∃ sg1 sg2, hBeg (zup sgP 34 1 0) sg1 11 0 0 0 ∧ hNew sg1 sg2 ∧ rr = some (.int (sg2 1 2)) ∧ h' = zN (hGrC sg2)))) (fun τ => fun rr h' => ∃ k sF sP, JR s k sF ∧ okMr τ sF ∧ (¬ (¬ sF 393 20 = 0 ∧ sF 393 19 < sF 393 11)) ∧ sP = mREnd sF ∧ ((sP 393 20 = 0 ∧ rr = some (.int (-6)) ∧ h' = zN (hRef (zup sP 393 11 0) (-6))) ∨ (¬ sP 393 20 = 0 ∧ ∃ sR sE, mRem (zup sP 393 11 0) sR 11 ∧ mNw sR sE ∧ rr = some (.int (sP 393 21)) ∧ h' = zN (hTell sE)))) := by
  rintro rr h' ⟨sgP, ⟨n, X, hX, hst, hP, -, hfr⟩, hc⟩
  have fr0 : ∀ c j, 393 ≤ c → zup sgP 34 1 0 c j = s c j := fun c j q => by rw [zup_a (by omega)]; exact hfr c j (by omega)
  rcases hc with ⟨a, rfl, rfl⟩ | ⟨a, s1, s2, hb, hw, rfl, rfl⟩
  · refine ⟨_, _, rfl, rfl, fun c j q => by rw [hRfC_m c j q]; exact fr0 c j q, ?_⟩
    rintro t rr2 h2 hR ⟨k, sF, sP, hJ, ho, hst2, rfl, hm⟩
    obtain ⟨e1, e2, e3, e4⟩ := rd_end hR.2.1 hX hst hP hJ ho hst2
    rcases hm with ⟨b, rfl, rfl⟩ | ⟨b, -⟩
    · obtain ⟨t2, x1, x2, x3, x4⟩ := Q_ref (v := -6) (rd_R2 hR hfr e4 e1)
      refine ⟨t2, x1, x2, x3, fun c j q => ?_⟩
      rw [x4 c j q, zup_a (by omega)]
      exact e4 c j (by omega) (by omega) (by omega) (Or.inl (by omega))
    · exact absurd (e2.mpr a) b
  · have l36 : zup sgP 34 1 0 36 2 = s 36 2 := by rw [zup_a (by decide)]; exact hfr 36 2 (by decide)
    have bf := beg_fr (by rw [l36]; exact h.1.2.1.1.1) (by rw [l36]; exact h.1.2.1.1.2) hb
    have fs : ∀ c j, c < 1 ∨ 34 ≤ c → s2 c j = s1 c j := fun c j q => hw.1 c j (by omega) (by omega) (by omega)
    refine ⟨_, _, rfl, rfl, fun c j q => ?_, ?_⟩
    · rw [hGrC_f (Or.inl (by omega)), fs c j (by omega), bf.1 c j (by omega) (Or.inl (by omega))]
      exact fr0 c j q
    rintro t rr2 h2 hR ⟨k, sF, sP, hJ, ho, hst2, rfl, hm⟩
    obtain ⟨e1, e2, e3, e4⟩ := rd_end hR.2.1 hX hst hP hJ ho hst2
    rcases hm with ⟨b, -⟩ | ⟨b, sR, sE, hm, hn, rfl, rfl⟩
    · exact absurd a (e2.mp b)
    · have r2 := rd_R2 hR hfr e4 e1
      obtain ⟨⟨k1, k2, k3⟩, -, -, -, js⟩ := e3 b
      have c317 : ∀ c j, 317 ≤ c → s1 c j = sgP c j := fun c j q => by rw [bf.1 c j (by omega) (Or.inl (by omega)), zup_a (by omega)]
      have m5 : ∀ j, sR 405 j = mREnd sF 405 j := fun j => by rw [rem_fr hm 405 j (by decide) (by decide) (by decide) (Or.inl (by decide)), zup_a (by decide)]
      have m21 : sR 393 21 = mREnd sF 393 21 := by rw [rem_fr hm 393 21 (by decide) (by decide) (by decide) (by decide), zup_i (by decide)]
      have hs : SR s2 1 (sE 395) := S_new k2 k3 hw hn (by rw [c317 317 2 (by decide)]; exact k1) m21 (fun i i0 i1 => by
        rw [c317 318 i (by decide), c317 319 i (by decide), m5, m5, m5, m5]; exact js i i0 i1)
      have ra := R_act0 r2 hb hm (by decide) (by decide) (by decide) (by decide) hs fs (fun c j q _ _ _ _ => hn.1 c j q)
      refine Q_act2 (by rw [hs.2.1.1, hn.2.1, m21]) ra.1 (fun c j q => ?_)
      rw [ra.2.2 c j q, zup_a (by omega)]
      exact e4 c j (by omega) (by omega) (by omega) (Or.inl (by omega))
