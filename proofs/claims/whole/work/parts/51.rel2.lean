/-! the relation whole: history, images, tape, refusals -/
def RA (s t : zSig) (a : Nat) (m : Int32) : Prop := s a 0 = t 397 m ∧ (s a 0 = 0 → s a 1 = t 398 (3 * m) ∧ s a 2 = t 398 (3 * m + 2)) ∧ (s a 0 = 1 → s a 1 = t 398 (3 * m) ∧ s a 2 = t 398 (3 * m + 1)) ∧ (s a 0 = 2 → s a 1 = t 398 (3 * m) ∧ s a 2 = t 398 (3 * m + 1) ∧ t 398 (3 * m + 2) = pLd (s a 1) (s a 2) (s a 3)) ∧ (s a 0 = 12 → s a 1 = t 398 (3 * m) ∧ s a 2 = t 398 (3 * m + 1) ∧ s a 3 = t 398 (3 * m + 2) ∧ 0 ≤ s a 1 ∧ s a 1 < s a 2 ∧ s a 2 ≤ 200)
def RH (s t : zSig) : Prop := (0 ≤ s 36 2 ∧ s 36 2 < 8) ∧ (0 ≤ s 36 3 ∧ s 36 3 ≤ 8) ∧ t 393 6 = s 36 3 ∧ ∀ n, 1 ≤ n → n ≤ s 36 3 → SR s (zel 37 (hL s n)) (fun j => t 396 (995 * (t 393 6 - n) + j)) ∧ RA s t (zel 38 (hL s n)) (t 393 6 - n)
def RI (s t : zSig) : Prop := ∀ k, 0 ≤ k → k < 2 → s 312 k = t 400 k ∧ (s 312 k ≠ 0 → SR s (zel 311 k) (fun j => t 399 (995 * k + j)))
def RT (s t : zSig) : Prop := (0 ≤ s 34 1 ∧ s 34 1 ≤ 400) ∧ t 393 11 = s 34 1 ∧ ∀ j, 0 ≤ j → j < s 34 1 → (0 ≤ s 35 j ∧ s 35 j ≤ 255) ∧ t 401 j = (s 35 j).toInt8.toInt32
def RG (s t : zSig) : Prop := s 0 10 = t 393 1 ∧ (∀ k, 1 ≤ k → k ≤ 6 → s 326 k = t 394 k) ∧ s 317 3 = t 393 12
def R5 (s t : zSig) : Prop := SR s 1 (t 395) ∧ RH s t ∧ RI s t ∧ okM s
def R2 (s t : zSig) : Prop := R5 s t ∧ RT s t ∧ RG s t ∧ okF s
theorem hL_r8 {s : zSig} {n : Int32} (h0 : 0 ≤ s 36 2) (h1 : s 36 2 < 8) (n0 : 1 ≤ n) (n1 : n ≤ 8) : 0 ≤ hL s n ∧ hL s n < 8 := by
  unfold hL; split <;> lia
theorem hL_c {s s' : zSig} {n : Int32} (h : s' 36 2 = s 36 2) : hL s' n = hL s n := by unfold hL; rw [h]
theorem RA_c {s s' t t' : zSig} {a a' : Nat} {m m' : Int32} (hs : ∀ f, 0 ≤ f → f ≤ 3 → s' a' f = s a f) (h7 : t' 397 m' = t 397 m) (h8 : ∀ i, 0 ≤ i → i < 3 → t' 398 (3 * m' + i) = t 398 (3 * m + i)) (h : RA s t a m) : RA s' t' a' m' := by
  have e0 := h8 0 (by decide) (by decide)
  rw [← z0a, ← z0a] at e0
  unfold RA
  rw [hs 0 (by decide) (by decide), hs 1 (by decide) (by decide), hs 2 (by decide) (by decide), hs 3 (by decide) (by decide), h7, e0, h8 1 (by decide) (by decide), h8 2 (by decide) (by decide)]
  exact h
theorem R5_c {s t s' t' : zSig} (hs : ∀ c j, (1 ≤ c ∧ c < 34) ∨ (36 ≤ c ∧ c < 313) ∨ (327 ≤ c ∧ c < 393) ∨ c = 100000 → s' c j = s c j) (ht : ∀ c j, 395 ≤ c → c ≤ 400 → t' c j = t c j) (h6 : t' 393 6 = t 393 6) (h : R5 s t) : R5 s' t' := by
  obtain ⟨h1, ⟨⟨n0, n1⟩, ⟨k0, k1⟩, e6, hh⟩, hi, hm⟩ := h
  have e2 := hs 36 2 (by decide)
  have e3 := hs 36 3 (by decide)
  refine ⟨SR_move iSh_1 h1 (fun c j g1 g2 => hs c j (by omega)) (fun j _ _ => ht 395 j (by decide) (by decide)), ⟨⟨by lia, by lia⟩, ⟨by lia, by lia⟩, by rw [h6, e3]; exact e6, fun n q0 q1 => ?_⟩, fun k q0 q1 => ?_, okM_move hm (fun j => hs 100000 j (by decide))⟩
  · rw [e3] at q1
    obtain ⟨g1, g2⟩ := hh n q0 q1
    rw [hL_c e2, h6]
    obtain ⟨l0, l1⟩ := hL_r8 (n := n) n0 n1 q0 (by lia)
    have hr := zel37_rng l0 l1
    exact ⟨SR_move (zel37_s l0 l1) g1 (fun c j g1 g2 => hs c j (by omega)) (fun j _ _ => ht 396 _ (by decide) (by decide)), RA_c (fun f _ _ => hs _ f (by omega)) (ht 397 _ (by decide) (by decide)) (fun i _ _ => ht 398 _ (by decide) (by decide)) g2⟩
  · obtain ⟨g1, g2⟩ := hi k q0 q1
    rw [hs 312 k (by decide), ht 400 k (by decide) (by decide)]
    have hr := zel311_rng q0 q1
    exact ⟨g1, fun q => SR_move (zel311_s q0 q1) (g2 q) (fun c j g1 g2 => hs c j (by omega)) (fun j _ _ => ht 399 _ (by decide) (by decide))⟩
theorem RT_c {s t s' t' : zSig} (hs : ∀ c j, c = 34 ∨ c = 35 → s' c j = s c j) (h1 : t' 393 11 = t 393 11) (ht : ∀ j, t' 401 j = t 401 j) (h : RT s t) : RT s' t' := by
  unfold RT
  rw [hs 34 1 (by decide), h1]
  refine ⟨h.1, h.2.1, fun j j0 j1 => ?_⟩
  rw [hs 35 j (by decide), ht]
  exact h.2.2 j j0 j1
theorem RG_c {s t s' t' : zSig} (h0 : s' 0 10 = s 0 10) (h6 : ∀ k, s' 326 k = s 326 k) (h7 : s' 317 3 = s 317 3) (t1 : t' 393 1 = t 393 1) (t4 : ∀ k, t' 394 k = t 394 k) (t2 : t' 393 12 = t 393 12) (h : RG s t) : RG s' t' := by
  unfold RG
  rw [h0, h7, t1, t2]
  exact ⟨h.1, fun k k0 k1 => by rw [h6, t4]; exact h.2.1 k k0 k1, h.2.2⟩
theorem okF_c {s s' : zSig} (h : okF s) (ob : okS s 1) (hs : ∀ c j, 1 ≤ c → c < 34 → s' c j = s c j) (h0 : s' 0 11 = s 0 11) (h3 : s' 313 1 = s 313 1) (h4 : ∀ j, s' 314 j = s 314 j) : okF s' := by
  unfold okF
  rw [h0, h3, hs 1 2 (by decide) (by decide)]
  refine ⟨h.1, fun q => ⟨(h.2 q).1, fun j j0 j1 => ?_⟩⟩
  rw [h4, cS_congr hs ob.2.1.1 ob.2.1.2]
  exact (h.2 q).2 j j0 j1
/-- another state of the reference, another of the class, with the same cells -/
theorem R2_t {s t t' : zSig} (h : R2 s t) (ht : ∀ c j, 393 ≤ c → c < 411 → (c ≠ 393 ∨ j ≠ 0) → t' c j = t c j) : R2 s t' :=
  ⟨R5_c (fun _ _ _ => rfl) (fun c j g1 g2 => ht c j (by omega) (by omega) (Or.inl (by omega))) (ht 393 6 (by decide) (by decide) (by decide)) h.1, RT_c (fun _ _ _ => rfl) (ht 393 11 (by decide) (by decide) (by decide)) (fun j => ht 401 j (by decide) (by decide) (Or.inl (by decide))) h.2.1, RG_c rfl (fun _ => rfl) rfl (ht 393 1 (by decide) (by decide) (by decide)) (fun k => ht 394 k (by decide) (by decide) (Or.inl (by decide))) (ht 393 12 (by decide) (by decide) (by decide)) h.2.2.1, h.2.2.2⟩
theorem R2_s {s s' t : zSig} (h : R2 s t) (hs : ∀ c j, c < 393 ∨ c = 100000 → s' c j = s c j) : R2 s' t :=
  ⟨R5_c (fun c j q => hs c j (by omega)) (fun _ _ _ _ => rfl) rfl h.1, RT_c (fun c j q => hs c j (by omega)) rfl (fun _ => rfl) h.2.1, RG_c (hs 0 10 (by decide)) (fun k => hs 326 k (by decide)) (hs 317 3 (by decide)) rfl (fun _ => rfl) rfl h.2.2.1, okF_c h.2.2.2 h.1.1.1 (fun c j g1 g2 => hs c j (by omega)) (hs 0 11 (by decide)) (hs 313 1 (by decide)) (fun j => hs 314 j (by decide))⟩
/-- what the class tells without changing anything -/
theorem R2_q {s s' t : zSig} (h : R2 s t) (hq : hQ s s') : R2 s' t :=
  ⟨R5_c (fun c j q => hq.1 c j (by omega) (by omega) (by omega)) (fun _ _ _ _ => rfl) rfl h.1, RT_c (fun c j q => hq.1 c j (by omega) (by omega) (by omega)) rfl (fun _ => rfl) h.2.1, RG_c (hq.1 0 10 (by decide) (by decide) (by decide)) (fun k => hq.1 326 k (by decide) (by decide) (Or.inl (by decide))) (hq.1 317 3 (by decide) (by decide) (by decide)) rfl (fun _ => rfl) rfl h.2.2.1, hq.2⟩
theorem R2_mq {s t t' : zSig} (h : R2 s t) (hq : mQ t t') : R2 s t' := by
  have e : ∀ c j, 394 ≤ c → c ≤ 405 → t' c j = t c j := fun c j g1 g2 => mQ_c hq j (by omega)
  have f : ∀ j, j ≠ 16 → j ≠ 17 → j ≠ 18 → j ≠ 25 → j ≠ 27 → j ≠ 29 → t' 393 j = t 393 j := fun j a1 a2 a3 a4 a5 a6 => hq 393 j (by decide) (by decide) (by decide) (by decide) (by decide) (Or.inr ⟨a1, a2, a3, a4, a5, a6⟩)
  exact ⟨R5_c (fun _ _ _ => rfl) (fun c j g1 g2 => e c j (by omega) (by omega)) (f 6 (by decide) (by decide) (by decide) (by decide) (by decide) (by decide)) h.1, RT_c (fun _ _ _ => rfl) (f 11 (by decide) (by decide) (by decide) (by decide) (by decide) (by decide)) (fun j => e 401 j (by decide) (by decide)) h.2.1, RG_c rfl (fun _ => rfl) rfl (f 1 (by decide) (by decide) (by decide) (by decide) (by decide) (by decide)) (fun k => e 394 k (by decide) (by decide)) (f 12 (by decide) (by decide) (by decide) (by decide) (by decide) (by decide)) h.2.2.1, h.2.2.2⟩
/-- a refusal, a grant -/
theorem RG_ref {s t : zSig} {v : Int32} (h : RG s t) : RG (hRfC s v) (hRef t v) := by
  unfold RG hRfC hRef
  refine ⟨by rw [zup_a (by decide), zup_s, zup_a (by decide), zup_s], fun k k0 k1 => ?_, by rw [zup_a (by decide), zup_a (by decide), zup_a (by decide), zup_i (by decide)]; exact h.2.2⟩
  by_cases hk : k = -v
  · rw [← hk, zup_s, zup_s, h.2.1 k k0 k1]
  · rw [zup_i hk, zup_i hk, zup_a (by decide), zup_a (by decide)]
    exact h.2.1 k k0 k1
theorem RG_gr {s t : zSig} (h : RG s t) : RG (hGrC s) (hTell t) := by
  unfold RG hGrC hTell
  exact ⟨by rw [zup_s, zup_s], fun k k0 k1 => by rw [zup_a (by decide), zup_a (by decide)]; exact h.2.1 k k0 k1, by rw [zup_a (by decide), zup_i (by decide)]; exact h.2.2⟩
theorem hRfC_f {s : zSig} {v : Int32} {c : Nat} {j : Int32} (h : (c ≠ 0 ∨ j ≠ 10) ∧ c ≠ 326) : hRfC s v c j = s c j := by
  unfold hRfC; rw [zup_a h.2, zup_e, if_neg (fun q => h.1.elim (fun g => g q.1) (fun g => g q.2))]
theorem hRef_f {s : zSig} {v : Int32} {c : Nat} {j : Int32} (h : (c ≠ 393 ∨ j ≠ 1) ∧ c ≠ 394) : hRef s v c j = s c j := by
  unfold hRef; rw [zup_a h.2, zup_e, if_neg (fun q => h.1.elim (fun g => g q.1) (fun g => g q.2))]
theorem hGrC_f {s : zSig} {c : Nat} {j : Int32} (h : c ≠ 0 ∨ j ≠ 10) : hGrC s c j = s c j := by
  unfold hGrC; rw [zup_e, if_neg (fun q => h.elim (fun g => g q.1) (fun g => g q.2))]
theorem hTell_f {s : zSig} {c : Nat} {j : Int32} (h : c ≠ 393 ∨ j ≠ 1) : hTell s c j = s c j := by
  unfold hTell; rw [zup_e, if_neg (fun q => h.elim (fun g => g q.1) (fun g => g q.2))]
theorem R2_ref {s t : zSig} {v : Int32} (h : R2 s t) : R2 (hRfC s v) (hRef t v) :=
  ⟨R5_c (fun c j q => hRfC_f (by omega)) (fun c j g1 g2 => hRef_f ⟨Or.inl (by omega), by omega⟩) (hRef_f (by decide)) h.1, RT_c (fun c j q => hRfC_f ⟨Or.inl (by omega), by omega⟩) (hRef_f (by decide)) (fun j => hRef_f ⟨Or.inl (by decide), by decide⟩) h.2.1, RG_ref h.2.2.1, okF_c h.2.2.2 h.1.1.1 (fun c j g1 g2 => hRfC_f ⟨Or.inl (by omega), by omega⟩) (hRfC_f (by decide)) (hRfC_f (by decide)) (fun j => hRfC_f ⟨Or.inl (by decide), by decide⟩)⟩
/-- an act is granted: all of the relation but what is fresh -/
theorem R2_gr {s t : zSig} (h5 : R5 s t) (ht : RT s t) (hg : RG s t) (h0 : okF s) : R2 (hGrC s) (hTell t) :=
  ⟨R5_c (fun c j q => hGrC_f (Or.inl (by omega))) (fun c j g1 g2 => hTell_f (Or.inl (by omega))) (hTell_f (by decide)) h5, RT_c (fun c j q => hGrC_f (Or.inl (by omega))) (hTell_f (by decide)) (fun j => hTell_f (Or.inl (by decide))) ht, RG_gr hg, okF_c h0 h5.1.1 (fun c j g1 g2 => hGrC_f (Or.inl (by omega))) (hGrC_f (by decide)) (hGrC_f (by decide)) (fun j => hGrC_f (Or.inl (by decide)))⟩
theorem okF_0 {s : zSig} (h : s 0 11 = 0) : okF s := ⟨Or.inl h, fun q => absurd h q⟩
theorem okS_cp {s s' : zSig} {a b : Nat} (ho : okS s b) (e2 : s' a 2 = s b 2) (e4 : s' a 4 = s b 4) (e6 : s' a 6 = s b 6) (es : ∀ k f, 0 ≤ k → k < s b 4 → 0 ≤ f → f ≤ 8 → s' (zel (a + 3) k) f = s (zel (b + 3) k) f) (ea : ∀ k f, 0 ≤ k → k < s b 6 → 0 ≤ f → f ≤ 3 → s' (zel (a + 4) k) f = s (zel (b + 4) k) f) : okS s' a := by
  obtain ⟨h1, h2, h3, h4, h5⟩ := ho
  unfold okS
  rw [e2, e4, e6]
  exact ⟨h1, h2, h3, fun k k0 k1 => by rw [es k 0 k0 k1 (by decide) (by decide)]; exact h4 k k0 k1, fun k k0 k1 => by rw [ea k 0 k0 k1 (by decide) (by decide)]; exact h5 k k0 k1⟩
theorem SR_sc {s s' : zSig} {a b : Nat} {r r' : Int32 → Int32} (h : SR s b r) (hc : hSC s s' a b) (hr : ∀ j, 0 ≤ j → j < 995 → r' j = r j) : SR s' a r' := by
  obtain ⟨e2, el, e4, es, e6, ea⟩ := hc
  exact SR_cp h (okS_cp h.1 e2 e4 e6 es ea) e2 e4 e6 el es ea hr
theorem hSB_sc {s s' : zSig} {a b : Nat} (h : hSB s s' a b) : hSC s s' a b := ⟨h.2.1, h.2.2.1, h.2.2.2.1, h.2.2.2.2.1, h.2.2.2.2.2.1, h.2.2.2.2.2.2⟩
/-- what an act says, against the row of acts -/
def RAn (k x y z : Int32) (A : Int32 → Int32) (m : Int32) : Prop := (k = 0 → x = A (3 * m) ∧ y = A (3 * m + 2)) ∧ (k = 1 → x = A (3 * m) ∧ y = A (3 * m + 1)) ∧ (k = 2 → x = A (3 * m) ∧ y = A (3 * m + 1) ∧ A (3 * m + 2) = pLd x y z) ∧ (k = 12 → x = A (3 * m) ∧ y = A (3 * m + 1) ∧ z = A (3 * m + 2) ∧ 0 ≤ x ∧ x < y ∧ y ≤ 200)
theorem hL_1 {s s1 : zSig} (h0 : 0 ≤ s 36 2) (h1 : s 36 2 < 8) (e : s1 36 2 = if s 36 2 = 7 then 0 else s 36 2 + 1) : hL s1 1 = s 36 2 := by
  unfold hL; rw [e]; by_cases h : s 36 2 = 7
  · rw [if_pos h, if_pos (by decide), h]; decide
  · rw [if_neg h, if_neg (by lia)]; lia
theorem hL_s {s s1 : zSig} {n : Int32} (h0 : 0 ≤ s 36 2) (h1 : s 36 2 < 8) (n0 : 2 ≤ n) (n1 : n ≤ 8) (e : s1 36 2 = if s 36 2 = 7 then 0 else s 36 2 + 1) : hL s1 n = hL s (n - 1) ∧ hL s (n - 1) ≠ s 36 2 := by
  unfold hL; rw [e]; by_cases h : s 36 2 = 7
  · rw [if_pos h, h, if_pos (by lia), if_neg (by lia)]; constructor <;> lia
  · rw [if_neg h]
    by_cases h2 : s 36 2 - (n - 1) < 0
    · rw [if_pos h2, if_pos (by lia)]; constructor <;> lia
    · rw [if_neg h2, if_neg (by lia)]; constructor <;> lia
theorem zel37_ne {a b : Int32} (a0 : 0 ≤ a) (a1 : a < 8) (b0 : 0 ≤ b) (b1 : b < 8) (h : a ≠ b) : zel 37 a + 34 ≤ zel 37 b ∨ zel 37 b + 34 ≤ zel 37 a := by
  obtain ⟨i, hi, ei, e1⟩ := zel_37 a0 a1
  obtain ⟨j, hj, ej, e2⟩ := zel_37 b0 b1
  have : i ≠ j := fun q => h (by rw [ei, ej, q])
  rw [e1, e2]; omega
theorem zel37_34 {i : Int32} (h0 : 0 ≤ i) (h1 : i < 8) : 39 ≤ zel 37 i ∧ zel 37 i + 34 ≤ 311 := by
  obtain ⟨j, hj, hi, he⟩ := zel_37 h0 h1
  rw [he]; omega
theorem nx_rng {x : Int32} (h0 : 0 ≤ x) (h1 : x < 8) : 0 ≤ (if x = 7 then 0 else x + 1) ∧ (if x = 7 then 0 else x + 1) < 8 := by
  by_cases h : x = 7
  · rw [if_pos h]; decide
  · rw [if_neg h]; lia
theorem beg_fr {s s1 : zSig} {k x y z : Int32} (h0 : 0 ≤ s 36 2) (h1 : s 36 2 < 8) (hb : hBeg s s1 k x y z) : (∀ c j, (c < 36 ∨ 311 ≤ c) → (c ≠ 0 ∨ j ≠ 11) → s1 c j = s c j) ∧ s1 0 11 = 0 := by
  obtain ⟨s0, hk, rfl⟩ := hb
  have hr := zel37_34 h0 h1
  refine ⟨fun c j g1 g2 => ?_, zup_s⟩
  rw [zup_e, if_neg (fun q => g2.elim (fun g => g q.1) (fun g => g q.2))]
  exact hk.1 c j (by omega) (by omega)
theorem rem_fr {t t1 : zSig} {k : Int32} (hm : mRem t t1 k) : ∀ c j, c ≠ 396 → c ≠ 397 → c ≠ 398 → (c ≠ 393 ∨ j ≠ 6) → t1 c j = t c j := hm.1
/-! an act begins: on both sides it is kept -/
set_option maxHeartbeats 8000000 in
theorem R_beg {s t s1 t1 t2 : zSig} {k x y z : Int32} (h : R5 s t) (hb : hBeg s s1 k x y z) (hm : mRem t t1 k) (ht2 : ∀ c j, c ≠ 398 → t2 c j = t1 c j) (h8 : ∀ j, j < 3 * (t1 393 6 - 1) → t2 398 j = t1 398 j) (ha : RAn k x y z (t2 398) (t1 393 6 - 1)) : R5 s1 t2 := by
  obtain ⟨hs1, ⟨⟨n0, n1⟩, ⟨k0, k1⟩, e6, hh⟩, hi, hmk⟩ := h
  have fr := beg_fr n0 n1 hb
  obtain ⟨s0, ⟨f0, hsc, ⟨a0, a1, a2, a3⟩, q2, q3⟩, es⟩ := hb
  have es0 : ∀ c j, c ≠ 0 → s1 c j = s0 c j := fun c j hc => by rw [es]; exact zup_a hc
  obtain ⟨fm, nn, d, hnn, m6, mu, mu1, ms, ms1, ma⟩ := hm
  have p2 : s1 36 2 = if s 36 2 = 7 then 0 else s 36 2 + 1 := by rw [es0 36 2 (by decide)]; exact q2
  have p3 : s1 36 3 = fMin (s 36 3 + 1) 8 := by rw [es0 36 3 (by decide)]; exact q3
  have hr := zel37_rng n0 n1
  have hk8 : s1 36 3 = nn + 1 := by
    rw [p3]; unfold fMin
    rcases hnn with ⟨g1, g2, -⟩ | ⟨g1, g2, -⟩
    · rw [if_neg (by lia)]; lia
    · rw [if_pos (by lia)]; lia
  have t6 : t2 393 6 = nn + 1 := by rw [ht2 393 6 (by decide)]; exact m6
  have m7 : t1 393 6 - 1 = nn := by rw [m6]; grind
  rw [m7] at h8 ha
  have nn0 : 0 ≤ nn ∧ nn ≤ 7 := by lia
  have row : ∀ j, t2 395 j = t 395 j := fun j => by rw [ht2 395 j (by decide)]; exact fm 395 j (by decide) (by decide) (by decide) (Or.inl (by decide))
  refine ⟨SR_move iSh_1 hs1 (fun c j g1 g2 => fr.1 c j (by omega) (by omega)) (fun j _ _ => row j), ⟨?_, by lia, by rw [t6, hk8], fun n g0 g1 => ?_⟩, fun q g0 g1 => ?_, okM_move hmk (fun j => fr.1 100000 j (by decide) (Or.inl (by decide)))⟩
  · rw [p2]; exact nx_rng n0 n1
  · rw [t6]
    by_cases hn : n = 1
    · subst hn
      rw [hL_1 n0 n1 p2, show nn + 1 - 1 = nn by grind]
      have hsc1 : hSC s s1 (zel 37 (s 36 2)) 1 := by
        obtain ⟨b1, b2, b3, b4, b5, b6⟩ := hsc
        have hz : zel 37 (s 36 2) ≠ 0 := by omega
        refine ⟨by rw [es0 _ _ hz]; exact b1, fun j j0 j1 => ⟨by rw [es0 _ _ (by omega)]; exact (b2 j j0 j1).1, by rw [es0 _ _ (by omega)]; exact (b2 j j0 j1).2⟩, by rw [es0 _ _ hz]; exact b3, fun q f g2 g3 g4 g5 => ?_, by rw [es0 _ _ hz]; exact b5, fun q f g2 g3 g4 g5 => ?_⟩
        · have e4 := hs1.1.2.1
          have := sh_s_rng (zel37_s n0 n1) g2 (by lia : q < 16)
          rw [es0 _ _ (by omega)]; exact b4 q f g2 g3 g4 g5
        · have e4 := hs1.1.2.2.1
          have := sh_a_rng (zel37_s n0 n1) g2 (by lia : q < 12)
          rw [es0 _ _ (by omega)]; exact b6 q f g2 g3 g4 g5
      refine ⟨SR_sc hs1 hsc1 (fun j j0 j1 => ?_), ?_⟩
      · rw [ht2 396 _ (by decide)]; exact mu1 j j0 j1
      · unfold RA
        rw [es0 _ 0 (by omega), es0 _ 1 (by omega), es0 _ 2 (by omega), es0 _ 3 (by omega), a0, a1, a2, a3, ht2 397 _ (by decide), ms1]
        exact ⟨rfl, ha⟩
    · obtain ⟨el, hne⟩ := hL_s (s := s) (s1 := s1) (n := n) n0 n1 (by lia) (by lia) p2
      have hnk : n - 1 ≤ s 36 3 := by lia
      obtain ⟨v1, v2⟩ := hh (n - 1) (by lia) hnk
      obtain ⟨l0, l1⟩ := hL_r8 (s := s) (n := n - 1) n0 n1 (by lia) (by lia)
      have hr2 := zel37_rng l0 l1
      have hd := zel37_ne l0 l1 n0 n1 hne
      have fc : ∀ c j, zel 37 (hL s (n - 1)) ≤ c → c < zel 37 (hL s (n - 1)) + 34 → s1 c j = s c j := fun c j c0 c1 => by
        rw [es0 c j (by omega)]; exact f0 c j (by omega) (by omega)
      have em : t 393 6 - (n - 1) = (nn + 1 - n) + d := by lia
      rw [em] at v1 v2
      rw [el]
      refine ⟨SR_move (zel37_s l0 l1) v1 (fun c j c0 c1 => fc c j c0 (by omega)) (fun j j0 j1 => ?_), RA_c (fun f _ _ => ?_) ?_ (fun i i0 i1 => ?_) v2⟩
      · rw [ht2 396 _ (by decide)]; exact mu _ j (by lia) (by lia) j0 j1
      · rw [hr2.2.2]; exact fc _ f (by omega) (by omega)
      · rw [ht2 397 _ (by decide)]; exact ms _ (by lia) (by lia)
      · rw [h8 _ (by lia)]; exact ma _ i (by lia) (by lia) i0 i1
  · obtain ⟨v1, v2⟩ := hi q g0 g1
    have hr3 := zel311_rng g0 g1
    have e0 : t2 400 q = t 400 q := by rw [ht2 400 q (by decide)]; exact fm 400 q (by decide) (by decide) (by decide) (Or.inl (by decide))
    rw [fr.1 312 q (by decide) (Or.inl (by decide)), e0]
    refine ⟨v1, fun w => SR_move (zel311_s g0 g1) (v2 w) (fun c j c0 c1 => fr.1 c j (by omega) (by omega)) (fun j _ _ => ?_)⟩
    rw [ht2 399 _ (by decide)]; exact fm 399 _ (by decide) (by decide) (by decide) (Or.inl (by decide))
