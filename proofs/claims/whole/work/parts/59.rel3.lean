/-! pairs of calls: what must hold, and what all acts share -/
def Pair (s : zSig) (P1 : Option Value → zHp → Prop) (P2 : zSig → Option Value → zHp → Prop) : Prop := ∀ rr h', P1 rr h' → ∃ v s1, rr = some (.int v) ∧ h' = zN s1 ∧ (∀ c j, 393 ≤ c → s1 c j = s c j) ∧ ∀ t rr2 h2, R2 s t → P2 t rr2 h2 → ∃ t2, rr2 = some (.int v) ∧ h2 = zN t2 ∧ R2 s1 t2 ∧ ∀ c j, c < 393 ∨ 411 ≤ c → t2 c j = t c j
theorem RH_c {s t s' t' : zSig} (hs : ∀ c j, 36 ≤ c → c < 311 → s' c j = s c j) (ht : ∀ c j, 396 ≤ c → c ≤ 398 → t' c j = t c j) (h6 : t' 393 6 = t 393 6) (h : RH s t) : RH s' t' := by
  obtain ⟨⟨n0, n1⟩, ⟨k0, k1⟩, e6, hh⟩ := h
  have e2 := hs 36 2 (by decide) (by decide)
  have e3 := hs 36 3 (by decide) (by decide)
  refine ⟨by rw [e2]; exact ⟨n0, n1⟩, by rw [e3]; exact ⟨k0, k1⟩, by rw [h6, e3]; exact e6, fun n q0 q1 => ?_⟩
  rw [e3] at q1
  obtain ⟨g1, g2⟩ := hh n q0 q1
  rw [hL_c e2, h6]
  obtain ⟨l0, l1⟩ := hL_r8 (n := n) n0 n1 q0 (Int32.le_trans q1 k1)
  have hr := zel37_34 l0 l1
  have hr2 := zel37_rng l0 l1
  exact ⟨SR_move (zel37_s l0 l1) g1 (fun c j g1 g2 => hs c j (by omega) (by omega)) (fun j _ _ => ht 396 _ (by decide) (by decide)), RA_c (fun f _ _ => hs _ f (by omega) (by omega)) (ht 397 _ (by decide) (by decide)) (fun i _ _ => ht 398 _ (by decide) (by decide)) g2⟩
theorem RI_c {s t s' t' : zSig} (hs : ∀ c j, c = 312 ∨ (327 ≤ c ∧ c < 393) → s' c j = s c j) (ht : ∀ c j, 399 ≤ c → c ≤ 400 → t' c j = t c j) (h : RI s t) : RI s' t' := by
  intro k q0 q1
  obtain ⟨g1, g2⟩ := h k q0 q1
  rw [hs 312 k (by decide), ht 400 k (by decide) (by decide)]
  have hr := zel311_rng q0 q1
  exact ⟨g1, fun q => SR_move (zel311_s q0 q1) (g2 q) (fun c j g1 g2 => hs c j (by omega)) (fun j _ _ => ht 399 _ (by decide) (by decide))⟩
theorem R5_sh {s t s' t' : zSig} (h : R5 s t) (h1 : SR s' 1 (t' 395)) (hs : ∀ c j, (36 ≤ c ∧ c < 313) ∨ (327 ≤ c ∧ c < 393) ∨ c = 100000 → s' c j = s c j) (ht : ∀ c j, 396 ≤ c → c ≤ 400 → t' c j = t c j) (h6 : t' 393 6 = t 393 6) : R5 s' t' :=
  ⟨h1, RH_c (fun c j a b => hs c j (by omega)) (fun c j a b => ht c j (by omega) (by omega)) h6 h.2.1, RI_c (fun c j a => hs c j (by omega)) (fun c j a b => ht c j (by omega) (by omega)) h.2.2.1, okM_move h.2.2.2 (fun j => hs 100000 j (by decide))⟩
/-! an act that is granted -/
theorem R_act {s t s1 s2 t1 ta t2 : zSig} {k x y z : Int32} (h : R2 s t) (hb : hBeg s s1 k x y z) (hm : mRem t t1 k) (hta : ∀ c j, c ≠ 398 → ta c j = t1 c j) (h8 : ∀ j, j < 3 * (t1 393 6 - 1) → ta 398 j = t1 398 j) (ha : RAn k x y z (ta 398) (t1 393 6 - 1)) (hs : SR s2 1 (t2 395)) (fs : ∀ c j, c < 1 ∨ 34 ≤ c → s2 c j = s1 c j) (ft : ∀ c j, c ≠ 395 → c ≠ 402 → c ≠ 403 → c ≠ 404 → (c ≠ 393 ∨ (j ≠ 16 ∧ j ≠ 17 ∧ j ≠ 18)) → t2 c j = ta c j) : (R5 s2 t2 ∧ RT s2 t2 ∧ RG s2 t2 ∧ okF s2) ∧ (∀ c j, 311 ≤ c → s2 c j = s c j) ∧ ∀ c j, c < 393 ∨ 411 ≤ c → t2 c j = t c j := by
  obtain ⟨h5, hT, hG, hF⟩ := h
  have n0 := h5.2.1.1.1
  have n1 := h5.2.1.1.2
  have fr := beg_fr n0 n1 hb
  have r5 := R_beg h5 hb hm hta h8 ha
  have fm := rem_fr hm
  have fs' : ∀ c j, (34 ≤ c ∧ c < 36) ∨ 311 ≤ c → s2 c j = s c j := fun c j a => by rw [fs c j (by omega)]; exact fr.1 c j (by omega) (Or.inl (by omega))
  have f0 : s2 0 10 = s 0 10 := by rw [fs 0 10 (by decide)]; exact fr.1 0 10 (by decide) (by decide)
  have tf : ∀ c j, c ≠ 395 → c ≠ 396 → c ≠ 397 → c ≠ 398 → c ≠ 402 → c ≠ 403 → c ≠ 404 → (c ≠ 393 ∨ (j ≠ 16 ∧ j ≠ 17 ∧ j ≠ 18 ∧ j ≠ 6)) → t2 c j = t c j := fun c j a1 a2 a3 a4 a5 a6 a7 a8 => by
    rw [ft c j a1 a5 a6 a7 (a8.elim Or.inl (fun q => Or.inr ⟨q.1, q.2.1, q.2.2.1⟩)), hta c j a4]
    exact fm c j a2 a3 a4 (a8.elim Or.inl (fun q => Or.inr q.2.2.2))
  refine ⟨⟨R5_sh r5 hs (fun c j a => fs c j (by omega)) (fun c j a b => ft c j (by omega) (by omega) (by omega) (by omega) (Or.inl (by omega))) (ft 393 6 (by decide) (by decide) (by decide) (by decide) (by decide)), RT_c (fun c j a => fs' c j (by omega)) (tf 393 11 (by decide) (by decide) (by decide) (by decide) (by decide) (by decide) (by decide) (by decide)) (fun j => tf 401 j (by decide) (by decide) (by decide) (by decide) (by decide) (by decide) (by decide) (Or.inl (by decide))) hT, RG_c f0 (fun k => fs' 326 k (by decide)) (fs' 317 3 (by decide)) (tf 393 1 (by decide) (by decide) (by decide) (by decide) (by decide) (by decide) (by decide) (by decide)) (fun k => tf 394 k (by decide) (by decide) (by decide) (by decide) (by decide) (by decide) (by decide) (Or.inl (by decide))) (tf 393 12 (by decide) (by decide) (by decide) (by decide) (by decide) (by decide) (by decide) (by decide)) hG, okF_0 (by rw [fs 0 11 (by decide)]; exact fr.2)⟩, fun c j a => fs' c j (by omega), fun c j a => tf c j (by omega) (by omega) (by omega) (by omega) (by omega) (by omega) (by omega) (Or.inl (by omega))⟩
/-! an act without a note -/
theorem RAn_0 {k x y z m : Int32} {A : Int32 → Int32} (h0 : k ≠ 0) (h1 : k ≠ 1) (h2 : k ≠ 2) (h3 : k ≠ 12) : RAn k x y z A m := ⟨fun q => absurd q h0, fun q => absurd q h1, fun q => absurd q h2, fun q => absurd q h3⟩
theorem R_act0 {s t s1 s2 t1 t2 : zSig} {k x y z : Int32} (h : R2 s t) (hb : hBeg s s1 k x y z) (hm : mRem t t1 k) (h0 : k ≠ 0) (h1 : k ≠ 1) (h2 : k ≠ 2) (h3 : k ≠ 12) (hs : SR s2 1 (t2 395)) (fs : ∀ c j, c < 1 ∨ 34 ≤ c → s2 c j = s1 c j) (ft : ∀ c j, c ≠ 395 → c ≠ 402 → c ≠ 403 → c ≠ 404 → (c ≠ 393 ∨ (j ≠ 16 ∧ j ≠ 17 ∧ j ≠ 18)) → t2 c j = t1 c j) : (R5 s2 t2 ∧ RT s2 t2 ∧ RG s2 t2 ∧ okF s2) ∧ (∀ c j, 311 ≤ c → s2 c j = s c j) ∧ ∀ c j, c < 393 ∨ 411 ≤ c → t2 c j = t c j :=
  R_act (ta := t1) h hb hm (fun _ _ _ => rfl) (fun _ _ => rfl) (RAn_0 h0 h1 h2 h3) hs fs ft
/-! the sheet as it stands when the act has begun -/
theorem R_mid {s t s1 t1 : zSig} {k x y z : Int32} (h : R2 s t) (hb : hBeg s s1 k x y z) (hm : mRem t t1 k) : SR s1 1 (t1 395) ∧ (∀ j, t1 395 j = t 395 j) ∧ (∀ c j, 1 ≤ c → c < 36 → s1 c j = s c j) := by
  have fr := beg_fr h.1.2.1.1.1 h.1.2.1.1.2 hb
  have fm : ∀ j, t1 395 j = t 395 j := fun j => rem_fr hm 395 j (by decide) (by decide) (by decide) (Or.inl (by decide))
  exact ⟨SR_move iSh_1 h.1.1 (fun c j a b => fr.1 c j (by omega) (Or.inl (by omega))) (fun j _ _ => fm j), fm, fun c j a b => fr.1 c j (by omega) (Or.inl (by omega))⟩
theorem zN_inj {a b : zSig} (h : zN a = zN b) : a = b := congrArg Prod.fst h
theorem some_inj {a b : Int32} (h : (some (Value.int a) : Option Value) = some (.int b)) : a = b := by cases h; rfl
/-! what is noted of an act -/
theorem mNo_a {t : zSig} {f u a m : Int32} (hm : m = t 393 6 - 1) (m0 : 0 ≤ m) (m1 : m ≤ 7) : mNo t f u a 398 (3 * m) = f ∧ mNo t f u a 398 (3 * m + 1) = u ∧ mNo t f u a 398 (3 * m + 2) = a ∧ ∀ j, j < 3 * m → mNo t f u a 398 j = t 398 j := by
  unfold mNo
  rw [← hm]
  refine ⟨?_, ?_, ?_, fun j hj => ?_⟩
  · rw [zup_i (by lia), zup_i (by lia), zup_s]
  · rw [zup_o (by decide), zup_s]
  · rw [zup_s]
  · rw [zup_i (by lia), zup_i (by lia), zup_i (by lia)]
theorem rem_u {s t t1 : zSig} {k : Int32} (h : RH s t) (hm : mRem t t1 k) : 0 ≤ t1 393 6 - 1 ∧ t1 393 6 - 1 ≤ 7 := by
  have := mRem_u (by rw [h.2.2.1]; exact h.2.1.1) (by rw [h.2.2.1]; exact h.2.1.2) hm
  lia
