/-! pairs of calls that only tell -/
theorem hQ_m {s s1 : zSig} (h : hQ s s1) : ∀ c j, 393 ≤ c → s1 c j = s c j := fun c j q => h.1 c j (by omega) (by omega) (Or.inl (by omega))
theorem mQ_m {t t1 : zSig} (h : mQ t t1) : ∀ c j, c < 393 ∨ 411 ≤ c → t1 c j = t c j := fun c j q => h c j (by omega) (by omega) (by omega) (by omega) (by omega) (Or.inl (by omega))
theorem Pair_A {s : zSig} {V : Int32} {W : zSig → Int32} (hJ : ∀ t, R2 s t → W t = V) : Pair s (fun rr h' => rr = some (.int V) ∧ h' = zN s) (fun τ => fun rr h' => rr = some (.int (W τ)) ∧ h' = zN τ) := by
  rintro rr h' ⟨rfl, rfl⟩
  refine ⟨V, s, rfl, rfl, fun _ _ _ => rfl, ?_⟩
  rintro t rr2 h2 hR ⟨rfl, rfl⟩
  exact ⟨t, by rw [hJ t hR], rfl, hR, fun _ _ _ => rfl⟩
theorem Pair_B {s : zSig} {A : Int32 → zSig → Prop} {B : zSig → Int32 → Prop} (hJ : ∀ s1 t v v', R2 s t → A v s1 → B t v' → v' = v) : Pair s (fun rr h' => ∃ v sg', rr = some (.int v) ∧ h' = zN sg' ∧ hQ s sg' ∧ A v sg') (fun τ => fun rr h' => ∃ v sg', rr = some (.int v) ∧ h' = zN sg' ∧ mQ τ sg' ∧ B τ v) := by
  rintro rr h' ⟨v, s1, rfl, rfl, hq, hA⟩
  refine ⟨v, s1, rfl, rfl, hQ_m hq, ?_⟩
  rintro t rr2 h2 hR ⟨v', t1, rfl, rfl, hm, hB⟩
  exact ⟨t1, by rw [hJ s1 t v v' hR hA hB], rfl, R2_mq (R2_q hR hq) hm, mQ_m hm⟩
theorem Pair_C {s : zSig} {A : Int32 → zSig → Prop} {W : zSig → Int32} (hJ : ∀ s1 t v, R2 s t → A v s1 → W t = v) : Pair s (fun rr h' => ∃ v sg', rr = some (.int v) ∧ h' = zN sg' ∧ hQ s sg' ∧ A v sg') (fun τ => fun rr h' => rr = some (.int (W τ)) ∧ h' = zN τ) := by
  rintro rr h' ⟨v, s1, rfl, rfl, hq, hA⟩
  refine ⟨v, s1, rfl, rfl, hQ_m hq, ?_⟩
  rintro t rr2 h2 hR ⟨rfl, rfl⟩
  exact ⟨t, by rw [hJ s1 t v hR hA], rfl, R2_q hR hq, fun _ _ _ => rfl⟩
theorem Pair_D {s : zSig} {A : Int32 → zSig → Prop} {B : zSig → Int32 → Prop} (hJ : ∀ s1 t v v', R2 s t → A v s1 → B t v' → v' = v) : Pair s (fun rr h' => ∃ v sg', rr = some (.int v) ∧ h' = zN sg' ∧ hQ s sg' ∧ A v sg') (fun τ => fun rr h' => ∃ v, rr = some (.int v) ∧ h' = zN τ ∧ B τ v) := by
  rintro rr h' ⟨v, s1, rfl, rfl, hq, hA⟩
  refine ⟨v, s1, rfl, rfl, hQ_m hq, ?_⟩
  rintro t rr2 h2 hR ⟨v', rfl, rfl, hB⟩
  exact ⟨t, by rw [hJ s1 t v v' hR hA hB], rfl, R2_q hR hq, fun _ _ _ => rfl⟩
theorem qFs2_no {s : zSig} {f m g c lo hi v : Int32} (h : qFs2 s f m g c lo hi v) (hn : ¬ ((0 ≤ f ∧ f ≤ s 1 2) ∧ s 34 1 ≠ 0)) : v = -1 := by
  rcases h with ⟨h, -⟩ | ⟨h1, h2, -⟩
  · exact h
  · exact absurd ⟨h1, h2⟩ hn
theorem col_i {c : Int32} : (c = -1 ∨ (0 ≤ c ∧ c ≤ 7)) ↔ (-1 ≤ c ∧ c ≤ 7) := by constructor <;> intro h <;> lia
theorem K_tape {s : zSig} {i : Int32} : Pair s (fun rr h' => rr = some (.int (if 0 ≤ i ∧ i < s 34 1 then s 35 i else -1)) ∧ h' = zN s) (fun τ => fun rr h' => rr = some (.int (if 0 ≤ i ∧ i < τ 393 11 then τ 401 i &&& 255 else -1)) ∧ h' = zN τ) :=
  Pair_A (fun t h => J_tape h.2.1)
theorem K_status {s : zSig} : Pair s (fun rr h' => rr = some (.int (s 0 10)) ∧ h' = zN s) (fun τ => fun rr h' => rr = some (.int (τ 393 1)) ∧ h' = zN τ) :=
  Pair_A (fun t h => h.2.2.1.1.symm)
theorem K_fault {s : zSig} : Pair s (fun rr h' => rr = some (.int (s 317 3)) ∧ h' = zN s) (fun τ => fun rr h' => rr = some (.int (τ 393 12)) ∧ h' = zN τ) :=
  Pair_A (fun t h => h.2.2.1.2.2.symm)
theorem K_letter {s : zSig} {i : Int32} : Pair s (fun rr h' => rr = some (.int (if 0 ≤ i ∧ i < s 1 2 then s 2 i else -1)) ∧ h' = zN s) (fun τ => fun rr h' => rr = some (.int (if 0 ≤ i ∧ i < τ 395 0 then τ 395 (3 + 4 * i) else -1)) ∧ h' = zN τ) :=
  Pair_A (fun t h => J_letter h.1.1)
theorem K_anchor {s : zSig} {n w : Int32} : Pair s (fun rr h' => rr = some (.int (if ((0 ≤ n ∧ n < s 1 6) ∧ s (zel 5 n) 0 ≠ 0) ∧ 0 ≤ w ∧ w ≤ 2 then s (zel 5 n) (w + 1) else -1)) ∧ h' = zN s) (fun τ => fun rr h' => rr = some (.int (if ((0 ≤ n ∧ n < τ 395 2) ∧ τ 395 (947 + 4 * n) = 1) ∧ 0 ≤ w ∧ w ≤ 2 then τ 395 (947 + 4 * n + 1 + w) else -1)) ∧ h' = zN τ) :=
  Pair_A (fun t h => J_anchor h.1.1)
theorem K_follow {s : zSig} {x l p q b : Int32} : Pair s (fun rr h' => rr = some (.int (if (0 ≤ x ∧ x ≤ s 1 2) ∧ (0 ≤ l ∧ l ≤ 1) then (if b ≠ 0 then (if (0 ≤ p ∧ p ≤ s 1 2) ∧ 1 ≤ q ∧ q ≤ 200 then pOn x l p q else -1) else (if 0 ≤ p ∧ p < q ∧ q ≤ s 1 2 then pBk x p q else -1)) else -1)) ∧ h' = zN s) (fun τ => fun rr h' => rr = some (.int (if (0 ≤ x ∧ x ≤ τ 395 0) ∧ (0 ≤ l ∧ l ≤ 1) then (if b ≠ 0 then (if (0 ≤ p ∧ p ≤ τ 395 0) ∧ 1 ≤ q ∧ q ≤ 200 then pOn x l p q else -1) else (if 0 ≤ p ∧ p < q ∧ q ≤ τ 395 0 then pBk x p q else -1)) else -1)) ∧ h' = zN τ) :=
  Pair_A (fun t h => by rw [h.1.1.2.1.1])
theorem K_through {s : zSig} {x l n : Int32} : Pair s (fun rr h' => rr = some (.int (if (1 ≤ n ∧ n ≤ s 36 3) ∧ 0 ≤ l ∧ l ≤ 1 then qTh s x l n else -1)) ∧ h' = zN s) (fun τ => fun rr h' => rr = some (.int (if (1 ≤ n ∧ n ≤ τ 393 6) ∧ 0 ≤ l ∧ l ≤ 1 then mTh τ x l n else -1)) ∧ h' = zN τ) :=
  Pair_A (fun t h => J_through h.1.2.1)
theorem K_style {s : zSig} {i w : Int32} : Pair s (fun rr h' => ∃ v sg', rr = some (.int v) ∧ h' = zN sg' ∧ hQ s sg' ∧ v = qSt s i w) (fun τ => fun rr h' => ∃ v sg', rr = some (.int v) ∧ h' = zN sg' ∧ mQ τ sg' ∧ v = mSt τ i w) :=
  Pair_B (fun s1 t v v' h a b => by rw [a, b]; exact J_style h.1.1)
theorem K_stack {s : zSig} {i q : Int32} : Pair s (fun rr h' => ∃ v sg', rr = some (.int v) ∧ h' = zN sg' ∧ hQ s sg' ∧ ((¬ ((0 ≤ i ∧ i < s 1 2) ∧ 0 ≤ q) ∧ v = -1) ∨ ((0 ≤ i ∧ i < s 1 2) ∧ 0 ≤ q ∧ v = qSk s i q))) (fun τ => fun rr h' => ∃ v, rr = some (.int v) ∧ h' = zN τ ∧ ((¬ ((0 ≤ i ∧ i < τ 395 0) ∧ 0 ≤ q) ∧ v = -1) ∨ (((0 ≤ i ∧ i < τ 395 0) ∧ 0 ≤ q) ∧ v = mSk τ i q))) :=
  Pair_D (fun s1 t v v' h a b => by
  rw [h.1.1.2.1.1] at a
  rcases a with ⟨a1, a2⟩ | ⟨a1, a2, a3⟩ <;> rcases b with ⟨b1, b2⟩ | ⟨b1, b2⟩
  · rw [a2, b2]
  · exact absurd b1 a1
  · exact absurd ⟨a1, a2⟩ b1
  · rw [a3, b2]; exact J_stack h.1.1)
theorem K_tells {s : zSig} {i w : Int32} : Pair s (fun rr h' => ∃ v sg', rr = some (.int v) ∧ h' = zN sg' ∧ hQ s sg' ∧ v = qTl s i w) (fun τ => fun rr h' => rr = some (.int (mTl τ i w)) ∧ h' = zN τ) :=
  Pair_C (fun s1 t v h a => by rw [a]; exact J_tells h.1.1)
theorem K_crossed {s : zSig} : Pair s (fun rr h' => ∃ v sg', rr = some (.int v) ∧ h' = zN sg' ∧ hQ s sg' ∧ v = qCr s) (fun τ => fun rr h' => rr = some (.int (mCr τ)) ∧ h' = zN τ) :=
  Pair_C (fun s1 t v h a => by rw [a]; exact J_crossed h.1.1)
theorem K_run {s : zSig} {q w : Int32} : Pair s (fun rr h' => ∃ v sg', rr = some (.int v) ∧ h' = zN sg' ∧ hQ s sg' ∧ (∀ j, 0 ≤ j → j < s 1 2 → sg' 314 j = nS s j) ∧ qRun (sg' 314) (s 1 2) q w v) (fun τ => fun rr h' => ∃ v sg', rr = some (.int v) ∧ h' = zN sg' ∧ mQ τ sg' ∧ mRun τ q w v) :=
  Pair_B (fun s1 t v v' h a b => J_run h.1.1 a.1 a.2 b)
theorem K_span {s : zSig} {n w : Int32} : Pair s (fun rr h' => ∃ v sg', rr = some (.int v) ∧ h' = zN sg' ∧ hQ s sg' ∧ qSp s n w v) (fun τ => fun rr h' => ∃ v sg', rr = some (.int v) ∧ h' = zN sg' ∧ mQ τ sg' ∧ mSp τ n w v) :=
  Pair_B (fun s1 t v v' h a b => J_span h.1.1 a b)
theorem K_raised {s : zSig} {n l : Int32} : Pair s (fun rr h' => ∃ v sg', rr = some (.int v) ∧ h' = zN sg' ∧ hQ s sg' ∧ v = if ((0 ≤ n ∧ n < s 1 4) ∧ s (zel 4 n) 0 ≠ 0) ∧ 0 ≤ l ∧ l ≤ 9 then qRs s n l else -1) (fun τ => fun rr h' => ∃ v sg', rr = some (.int v) ∧ h' = zN sg' ∧ mQ τ sg' ∧ v = if ((0 ≤ n ∧ n < τ 395 1) ∧ τ 395 (803 + 9 * n) = 1) ∧ 0 ≤ l ∧ l ≤ 9 then mRs τ n l else -1) :=
  Pair_B (fun s1 t v v' h a b => by rw [a, b]; exact J_raised h.1.1)
theorem K_best {s : zSig} {n w : Int32} : Pair s (fun rr h' => ∃ v sg', rr = some (.int v) ∧ h' = zN sg' ∧ hQ s sg' ∧ v = if ((0 ≤ n ∧ n < s 1 4) ∧ s (zel 4 n) 0 ≠ 0) ∧ 0 ≤ w ∧ w ≤ 1 then (if w = 0 then (qBs s n).1 else (qBs s n).2) else -1) (fun τ => fun rr h' => ∃ v sg', rr = some (.int v) ∧ h' = zN sg' ∧ mQ τ sg' ∧ v = if ((0 ≤ n ∧ n < τ 395 1) ∧ τ 395 (803 + 9 * n) = 1) ∧ 0 ≤ w ∧ w ≤ 1 then (if w = 0 then (mBs τ n).1 else (mBs τ n).2) else -1) :=
  Pair_B (fun s1 t v v' h a b => by rw [a, b]; exact J_best h.1.1)
theorem K_idle {s : zSig} : Pair s (fun rr h' => ∃ v sg', rr = some (.int v) ∧ h' = zN sg' ∧ hQ s sg' ∧ v = zit (id1 s) 0 (s 1 4)) (fun τ => fun rr h' => ∃ v sg', rr = some (.int v) ∧ h' = zN sg' ∧ mQ τ sg' ∧ ∃ F : Int32 → Int32, (∀ j, 0 ≤ j → j < τ 395 1 → τ 395 (803 + 9 * j) = 1 → mId τ j (F j)) ∧ v = zit (mid1 τ F) 0 (τ 395 1)) :=
  Pair_B (fun s1 t v v' h a b => by obtain ⟨F, hF, b⟩ := b; rw [a, b]; exact J_idle h.1.1 hF)
theorem K_find {s : zSig} {f : Int32} : Pair s (fun rr h' => ∃ v sg', rr = some (.int v) ∧ h' = zN sg' ∧ hQ s sg' ∧ qFs2 s f 0 0 (-1) 0 9 v) (fun τ => fun rr h' => ∃ v, rr = some (.int v) ∧ h' = zN τ ∧ mFs τ f (mStd τ) v) :=
  Pair_D (fun s1 t v v' h a b => J_find h.1.1 h.2.1 a b)
theorem K_findBy {s : zSig} {f m g c lo hi : Int32} : Pair s (fun rr h' => ∃ v sg', rr = some (.int v) ∧ h' = zN sg' ∧ hQ s sg' ∧ ((¬ (((0 ≤ lo ∧ lo ≤ 9) ∧ 0 ≤ hi ∧ hi ≤ 9) ∧ (0 ≤ m ∧ m ≤ 15) ∧ (0 ≤ g ∧ g ≤ 15) ∧ (c = -1 ∨ (0 ≤ c ∧ c ≤ 7))) ∧ v = -1) ∨ ((((0 ≤ lo ∧ lo ≤ 9) ∧ 0 ≤ hi ∧ hi ≤ 9) ∧ (0 ≤ m ∧ m ≤ 15) ∧ (0 ≤ g ∧ g ≤ 15) ∧ (c = -1 ∨ (0 ≤ c ∧ c ≤ 7))) ∧ qFs2 s f m g c lo hi v))) (fun τ => fun rr h' => ∃ v sg', rr = some (.int v) ∧ h' = zN sg' ∧ mQ τ sg' ∧ ((¬ (((0 ≤ f ∧ f ≤ τ 395 0) ∧ τ 393 11 ≠ 0) ∧ (0 ≤ m ∧ m ≤ 15) ∧ (0 ≤ g ∧ g ≤ 15) ∧ (-1 ≤ c ∧ c ≤ 7) ∧ (0 ≤ lo ∧ lo ≤ 9) ∧ 0 ≤ hi ∧ hi ≤ 9) ∧ v = -1) ∨ ((((0 ≤ f ∧ f ≤ τ 395 0) ∧ τ 393 11 ≠ 0) ∧ (0 ≤ m ∧ m ≤ 15) ∧ (0 ≤ g ∧ g ≤ 15) ∧ (-1 ≤ c ∧ c ≤ 7) ∧ (0 ≤ lo ∧ lo ≤ 9) ∧ 0 ≤ hi ∧ hi ≤ 9) ∧ mFs τ f (mFy τ m g c lo hi) v))) :=
  Pair_B (fun s1 t v v' h a b => by
  rw [col_i] at a
  rcases a with ⟨a1, a2⟩ | ⟨a1, a2⟩ <;> rcases b with ⟨b1, b2⟩ | ⟨b1, b2⟩
  · rw [a2, b2]
  · exact absurd ⟨⟨b1.2.2.2.2.1, b1.2.2.2.2.2⟩, b1.2.1, b1.2.2.1, b1.2.2.2.1⟩ a1
  · rw [b2]
    exact (qFs2_no a2 (fun q => b1 ⟨by rw [← h.1.1.2.1.1, h.2.1.2.1]; exact q, a1.2.1, a1.2.2.1, a1.2.2.2, a1.1.1, a1.1.2⟩)).symm
  · exact J_findBy h.1.1 h.2.1 a1.2.1 a1.2.2.1 a2 b2)
theorem K_styled {s : zSig} {f m g c w : Int32} : Pair s (fun rr h' => ∃ v sg', rr = some (.int v) ∧ h' = zN sg' ∧ hQ s sg' ∧ ((¬ (((0 ≤ f ∧ f < s 1 2) ∧ ((0 ≤ m ∧ m ≤ 15) ∧ (0 ≤ g ∧ g ≤ 15) ∧ (c = -1 ∨ (0 ≤ c ∧ c ≤ 7)))) ∧ 0 ≤ w ∧ w ≤ 2) ∧ v = -1) ∨ ((((0 ≤ f ∧ f < s 1 2) ∧ ((0 ≤ m ∧ m ≤ 15) ∧ (0 ≤ g ∧ g ≤ 15) ∧ (c = -1 ∨ (0 ≤ c ∧ c ≤ 7)))) ∧ 0 ≤ w ∧ w ≤ 2) ∧ qSy2 s f m g c w v))) (fun τ => fun rr h' => ∃ v sg', rr = some (.int v) ∧ h' = zN sg' ∧ mQ τ sg' ∧ ((¬ (((0 ≤ f ∧ f < τ 395 0) ∧ ((0 ≤ m ∧ m ≤ 15) ∧ (0 ≤ g ∧ g ≤ 15) ∧ (-1 ≤ c ∧ c ≤ 7))) ∧ 0 ≤ w ∧ w ≤ 2) ∧ v = -1) ∨ ((((0 ≤ f ∧ f < τ 395 0) ∧ ((0 ≤ m ∧ m ≤ 15) ∧ (0 ≤ g ∧ g ≤ 15) ∧ (-1 ≤ c ∧ c ≤ 7))) ∧ 0 ≤ w ∧ w ≤ 2) ∧ mYd2 (mSo τ m g c) f (τ 395 0) w v))) :=
  Pair_B (fun s1 t v v' h a b => by
  rw [col_i, h.1.1.2.1.1] at a
  rcases a with ⟨a1, a2⟩ | ⟨a1, a2⟩ <;> rcases b with ⟨b1, b2⟩ | ⟨b1, b2⟩
  · rw [a2, b2]
  · exact absurd b1 a1
  · exact absurd a1 b1
  · exact J_styled h.1.1 a1.1.1.1 a1.1.2.1 a1.1.2.2.1 a1.2 a2 b2)
