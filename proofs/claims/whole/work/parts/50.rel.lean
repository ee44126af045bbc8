/-! the class's cells against the reference's -/
theorem zit_rel {A B : Type} (R : A → B → Prop) {f : Int32 → A → A} {g : Int32 → B → B} {a : A} {b : B} {n : Int32} (hn : 0 ≤ n) (h0 : R a b) (hs : ∀ k x y, 0 ≤ k → k < n → R x y → R (f k x) (g k y)) : R (zit f a n) (zit g b n) := by
  obtain ⟨m, hm, rfl⟩ := znn hn
  have key : ∀ j : Nat, j ≤ m → R (zitN f a j) (zitN g b j) := by
    intro j
    induction j with
    | zero => intro _; exact h0
    | succ j ih => intro hj; exact hs _ _ _ (nI_pos' (by omega)) (nI_lt (by omega) (by omega)) (ih (by omega))
  unfold zit
  rw [nI_clamp hm]
  exact key m (Nat.le_refl _)
def f3 (t : z3) : Int32 := fOf t.1 t.2.1 t.2.2
theorem fOf_all : ∀ f, f < 16 → ∀ c, c < 8 → ∀ s, s < 10 → fFl (fOf (nI f) (nI c) (nI s)) = nI f ∧ fCo (fOf (nI f) (nI c) (nI s)) = nI c ∧ fSz (fOf (nI f) (nI c) (nI s)) = nI s := by decide +kernel
theorem nIr {x : Int32} {n : Nat} (h0 : 0 ≤ x) (h1 : x < nI n) (hn : n < 2 ^ 31) : ∃ j : Nat, j < n ∧ x = nI j := by
  obtain ⟨j, hj, rfl⟩ := znn h0
  exact ⟨j, (nI_ltI hj hn).mp h1, rfl⟩
theorem fOf_in {t : z3} (h : inR t) : fFl (f3 t) = t.1 ∧ fCo (f3 t) = t.2.1 ∧ fSz (f3 t) = t.2.2 := by
  obtain ⟨a, b, c⟩ := t
  obtain ⟨⟨h1, h2⟩, ⟨h3, h4⟩, h5, h6⟩ := h
  simp only at h1 h2 h3 h4 h5 h6
  obtain ⟨x, hx, rfl⟩ := nIr (n := 16) h1 (by show a < 16; lia) (by decide)
  obtain ⟨y, hy, rfl⟩ := nIr (n := 8) h3 (by show b < 8; lia) (by decide)
  obtain ⟨z, hz, rfl⟩ := nIr (n := 10) h5 (by show c < 10; lia) (by decide)
  exact fOf_all x hx y hy z hz
theorem f3_br {t : z3} {on of co gr : Int32} (h : inR t) : fBr (f3 t) on of co gr = f3 (mLk on of co gr t) := by
  obtain ⟨e1, e2, e3⟩ := fOf_in h
  unfold fBr
  rw [e1, e2, e3]
  rfl
theorem f3_inj {a b : z3} (ha : inR a) (hb : inR b) (h : f3 a = f3 b) : a = b := by
  obtain ⟨a1, a2, a3⟩ := fOf_in ha
  obtain ⟨b1, b2, b3⟩ := fOf_in hb
  rw [h] at a1 a2 a3
  exact Prod.ext (a1.symm.trans b1) (Prod.ext (a2.symm.trans b2) (a3.symm.trans b3))
/-- a span, an anchor, a letter against the row -/
def spR (s : zSig) (z : Nat) (r : Int32 → Int32) (p n : Int32) : Prop := (s z 1 = r (p + 1) ∧ s z 2 = r (p + 2) ∧ s z 3 = r (p + 3) ∧ s z 4 = r (p + 4) ∧ s z 5 = r (p + 5) ∧ s z 6 + 1 = r (p + 6) ∧ s z 7 = r (p + 7) ∧ s z 8 = r (p + 8)) ∧ (0 ≤ r (p + 1) ∧ r (p + 1) < r (p + 2) ∧ r (p + 2) ≤ n) ∧ (0 ≤ r (p + 4) ∧ r (p + 4) ≤ 15) ∧ (0 ≤ r (p + 5) ∧ r (p + 5) ≤ 15) ∧ 0 ≤ r (p + 6) ∧ r (p + 6) ≤ 8
def anR (s : zSig) (z : Nat) (r : Int32 → Int32) (p n : Int32) : Prop := s z 1 = r (p + 1) ∧ s z 2 = r (p + 2) ∧ s z 3 = r (p + 3) ∧ 0 ≤ r (p + 1) ∧ r (p + 1) ≤ n
def leR (s : zSig) (b : Nat) (r : Int32 → Int32) (i : Int32) : Prop := s (b + 1) i = r (3 + 4 * i) ∧ (0 ≤ r (3 + 4 * i) ∧ r (3 + 4 * i) ≤ 127) ∧ s (b + 2) i = f3 (r (3 + 4 * i + 1), r (3 + 4 * i + 2), r (3 + 4 * i + 3)) ∧ inR (r (3 + 4 * i + 1), r (3 + 4 * i + 2), r (3 + 4 * i + 3))
def SR (s : zSig) (b : Nat) (r : Int32 → Int32) : Prop := okS s b ∧ (s b 2 = r 0 ∧ s b 4 = r 1 ∧ s b 6 = r 2) ∧ (∀ i, 0 ≤ i → i < r 0 → leR s b r i) ∧ (∀ k, 0 ≤ k → k < r 1 → s (zel (b + 3) k) 0 = r (803 + 9 * k) ∧ (r (803 + 9 * k) = 1 → spR s (zel (b + 3) k) r (803 + 9 * k) (r 0))) ∧ ∀ k, 0 ≤ k → k < r 2 → s (zel (b + 4) k) 0 = r (947 + 4 * k) ∧ (r (947 + 4 * k) = 1 → anR s (zel (b + 4) k) r (947 + 4 * k) (r 0))
theorem SR_b {s : zSig} {b : Nat} {r : Int32 → Int32} (h : SR s b r) : (0 ≤ r 0 ∧ r 0 ≤ 200) ∧ (0 ≤ r 1 ∧ r 1 ≤ 16) ∧ 0 ≤ r 2 ∧ r 2 ≤ 12 := by
  obtain ⟨⟨h1, h2, h3, -⟩, ⟨e1, e2, e3⟩, -⟩ := h
  rw [e1] at h1; rw [e2] at h2; rw [e3] at h3
  exact ⟨h1, h2, h3⟩
theorem spR_c {s s' : zSig} {z z' : Nat} {r r' : Int32 → Int32} {p p' n n' : Int32} (hs : ∀ f, 0 ≤ f → f ≤ 8 → s' z' f = s z f) (hr : ∀ f, 0 ≤ f → f ≤ 8 → r' (p' + f) = r (p + f)) (hn : n' = n) (h : spR s z r p n) : spR s' z' r' p' n' := by
  unfold spR
  rw [hs 1 (by decide) (by decide), hs 2 (by decide) (by decide), hs 3 (by decide) (by decide), hs 4 (by decide) (by decide), hs 5 (by decide) (by decide), hs 6 (by decide) (by decide), hs 7 (by decide) (by decide), hs 8 (by decide) (by decide), hr 1 (by decide) (by decide), hr 2 (by decide) (by decide), hr 3 (by decide) (by decide), hr 4 (by decide) (by decide), hr 5 (by decide) (by decide), hr 6 (by decide) (by decide), hr 7 (by decide) (by decide), hr 8 (by decide) (by decide), hn]
  exact h
theorem anR_c {s s' : zSig} {z z' : Nat} {r r' : Int32 → Int32} {p p' n n' : Int32} (hs : ∀ f, 0 ≤ f → f ≤ 3 → s' z' f = s z f) (hr : ∀ f, 0 ≤ f → f ≤ 3 → r' (p' + f) = r (p + f)) (hn : n' = n) (h : anR s z r p n) : anR s' z' r' p' n' := by
  unfold anR
  rw [hs 1 (by decide) (by decide), hs 2 (by decide) (by decide), hs 3 (by decide) (by decide), hr 1 (by decide) (by decide), hr 2 (by decide) (by decide), hr 3 (by decide) (by decide), hn]
  exact h
/-- a sheet that has been copied -/
theorem SR_cp {s s' : zSig} {b b' : Nat} {r r' : Int32 → Int32} (h : SR s b r) (ho : okS s' b') (e2 : s' b' 2 = s b 2) (e4 : s' b' 4 = s b 4) (e6 : s' b' 6 = s b 6) (el : ∀ j, 0 ≤ j → j < s b 2 → s' (b' + 1) j = s (b + 1) j ∧ s' (b' + 2) j = s (b + 2) j) (es : ∀ k f, 0 ≤ k → k < s b 4 → 0 ≤ f → f ≤ 8 → s' (zel (b' + 3) k) f = s (zel (b + 3) k) f) (ea : ∀ k f, 0 ≤ k → k < s b 6 → 0 ≤ f → f ≤ 3 → s' (zel (b' + 4) k) f = s (zel (b + 4) k) f) (hr : ∀ j, 0 ≤ j → j < 995 → r' j = r j) : SR s' b' r' := by
  have hb := SR_b h
  obtain ⟨h1, ⟨q2, q4, q6⟩, hl, hsp, han⟩ := h
  have r0 := hr 0 (by decide) (by decide)
  have r1 := hr 1 (by decide) (by decide)
  have r2 := hr 2 (by decide) (by decide)
  refine ⟨ho, ⟨by rw [e2, q2, r0], by rw [e4, q4, r1], by rw [e6, q6, r2]⟩, fun i i0 i1 => ?_, fun k k0 k1 => ?_, fun k k0 k1 => ?_⟩
  · rw [r0] at i1
    obtain ⟨l1, l2, l3, l4⟩ := hl i i0 i1
    have x := el i i0 (by lia)
    unfold leR
    rw [x.1, x.2, hr (3 + 4 * i) (by lia) (by lia), hr (3 + 4 * i + 1) (by lia) (by lia), hr (3 + 4 * i + 2) (by lia) (by lia), hr (3 + 4 * i + 3) (by lia) (by lia)]
    exact ⟨l1, l2, l3, l4⟩
  · rw [r1] at k1
    obtain ⟨l1, l2⟩ := hsp k k0 k1
    rw [es k 0 k0 (by lia) (by decide) (by decide), hr (803 + 9 * k) (by lia) (by lia)]
    exact ⟨l1, fun q => spR_c (fun f f0 f1 => es k f k0 (by lia) f0 f1) (fun f f0 f1 => hr _ (by lia) (by lia)) r0 (l2 q)⟩
  · rw [r2] at k1
    obtain ⟨l1, l2⟩ := han k k0 k1
    rw [ea k 0 k0 (by lia) (by decide) (by decide), hr (947 + 4 * k) (by lia) (by lia)]
    exact ⟨l1, fun q => anR_c (fun f f0 f1 => ea k f k0 (by lia) f0 f1) (fun f f0 f1 => hr _ (by lia) (by lia)) r0 (l2 q)⟩
theorem SR_move {s s' : zSig} {b : Nat} {r r' : Int32 → Int32} (hi : iSh b) (h : SR s b r) (hs : ∀ c j, b ≤ c → c < b + 33 → s' c j = s c j) (hr : ∀ j, 0 ≤ j → j < 995 → r' j = r j) : SR s' b r' := by
  have hb := SR_b h
  have q4 := h.2.1.2.1
  have q6 := h.2.1.2.2
  exact SR_cp h (okS_move hi h.1 hs) (hs b 2 (by omega) (by omega)) (hs b 4 (by omega) (by omega)) (hs b 6 (by omega) (by omega)) (fun j _ _ => ⟨hs _ _ (by omega) (by omega), hs _ _ (by omega) (by omega)⟩) (fun k f k0 k1 _ _ => by have hz := sh_s_rng hi k0 (by lia : k < 16); exact hs _ _ (by omega) (by omega)) (fun k f k0 k1 _ _ => by have hz := sh_a_rng hi k0 (by lia : k < 12); exact hs _ _ (by omega) (by omega)) hr
theorem SR_P {s t : zSig} {b : Nat} (h : SR s b (t 395)) : okP t := by
  refine ⟨fun i i0 i1 => (h.2.2.1 i i0 i1).2.2.2, fun k k0 k1 q => ?_⟩
  have := ((h.2.2.2.1 k k0 k1).2 q).2
  exact ⟨this.2.1, this.2.2.1, this.2.2.2⟩
/-- styles: the class's and the reference's -/
theorem cS_mS {s t : zSig} {wo mv mt but i : Int32} (n0 : 0 ≤ s 1 4) (n1 : s 1 4 ≤ 16) (en : s 1 4 = t 395 1) (hp : s 3 i = f3 (mRw t i) ∧ inR (mRw t i)) (hk : ∀ k, 0 ≤ k → k < s 1 4 → ((s (zel 4 k) 0 ≠ 0 ∧ k ≠ wo) ↔ (t 395 (803 + 9 * k) = 1 ∧ k ≠ but)))
    (hd : ∀ k, 0 ≤ k → k < s 1 4 → s (zel 4 k) 0 ≠ 0 → (if k = mv then mt else s (zel 4 k) 3) = t 395 (803 + 9 * k + 3) ∧ s (zel 4 k) 1 = t 395 (803 + 9 * k + 1) ∧ s (zel 4 k) 2 = t 395 (803 + 9 * k + 2) ∧ s (zel 4 k) 4 = t 395 (803 + 9 * k + 4) ∧ s (zel 4 k) 5 = t 395 (803 + 9 * k + 5) ∧ s (zel 4 k) 6 + 1 = t 395 (803 + 9 * k + 6) ∧ s (zel 4 k) 7 = t 395 (803 + 9 * k + 7) ∧ (0 ≤ t 395 (803 + 9 * k + 4) ∧ t 395 (803 + 9 * k + 4) ≤ 15) ∧ (0 ≤ t 395 (803 + 9 * k + 5) ∧ t 395 (803 + 9 * k + 5) ≤ 15) ∧ 0 ≤ t 395 (803 + 9 * k + 6) ∧ t 395 (803 + 9 * k + 6) ≤ 8) :
    cS s wo mv mt i = f3 (mS t but i) ∧ inR (mS t but i) := by
  unfold cS mS
  refine zit_rel (fun x y => x = f3 y ∧ inR y) (by decide) hp (fun lay x y _ _ hxy => ?_)
  unfold cS2 mS2
  rw [← en]
  refine zit_rel (fun x y => x = f3 y ∧ inR y) n0 hxy (fun k x y k0 k1 hxy => ?_)
  obtain ⟨rfl, hy⟩ := hxy
  unfold cS1 mS1
  have h1 := hk k k0 k1
  by_cases hz : s (zel 4 k) 0 ≠ 0
  · obtain ⟨d3, d1, d2, d4, d5, d6, d7, r4, r5, r6⟩ := hd k k0 k1 hz
    rw [d3, d1, d2]
    by_cases hc : (s (zel 4 k) 0 ≠ 0 ∧ k ≠ wo) ∧ t 395 (803 + 9 * k + 3) = lay ∧ t 395 (803 + 9 * k + 1) ≤ i ∧ i < t 395 (803 + 9 * k + 2)
    · have hm := h1.mp hc.1
      rw [if_pos ⟨hc.1.1, hc.1.2, hc.2⟩, if_pos ⟨hm.2, hc.2.1, hm.1, hc.2.2⟩, f3_br hy, d4, d5, d7, show s (zel 4 k) 6 = t 395 (803 + 9 * k + 6) - 1 by rw [← d6]; grind]
      exact ⟨rfl, mLk_R hy r4 r5 (by lia)⟩
    · rw [if_neg (fun q => hc ⟨⟨q.1, q.2.1⟩, q.2.2⟩), if_neg (fun q => hc ⟨h1.mpr ⟨q.2.2.1, q.1⟩, q.2.1, q.2.2.2⟩)]
      exact ⟨rfl, hy⟩
  · rw [if_neg (fun q => hz q.1), if_neg (fun q => hz (h1.mpr ⟨q.2.2.1, q.1⟩).1)]
    exact ⟨rfl, hy⟩
/-- what SR says of a span, in these words -/
theorem SR_sp {s : zSig} {r : Int32 → Int32} (h : SR s 1 r) {k : Int32} (k0 : 0 ≤ k) (k1 : k < r 1) : s (zel 4 k) 0 = r (803 + 9 * k) ∧ (r (803 + 9 * k) = 0 ∨ r (803 + 9 * k) = 1) ∧ (r (803 + 9 * k) = 1 → spR s (zel 4 k) r (803 + 9 * k) (r 0)) := by
  have hk := h.2.2.2.1 k k0 k1
  have e4 := h.2.1.2.1
  refine ⟨hk.1, ?_, hk.2⟩
  have := h.1.2.2.2.1 k k0 (by lia)
  rw [hk.1] at this
  exact this
theorem SR_an {s : zSig} {r : Int32 → Int32} (h : SR s 1 r) {k : Int32} (k0 : 0 ≤ k) (k1 : k < r 2) : s (zel 5 k) 0 = r (947 + 4 * k) ∧ (r (947 + 4 * k) = 0 ∨ r (947 + 4 * k) = 1) ∧ (r (947 + 4 * k) = 1 → anR s (zel 5 k) r (947 + 4 * k) (r 0)) := by
  have hk := h.2.2.2.2 k k0 k1
  have e6 := h.2.1.2.2
  refine ⟨hk.1, ?_, hk.2⟩
  have := h.1.2.2.2.2 k k0 (by lia)
  rw [hk.1] at this
  exact this
theorem SR_style {s t : zSig} (h : SR s 1 (t 395)) {but i : Int32} (i0 : 0 ≤ i) (i1 : i < t 395 0) : cS s but (-1) 0 i = f3 (mS t but i) ∧ inR (mS t but i) := by
  have hb := SR_b h
  have e4 := h.2.1.2.1
  refine cS_mS h.1.2.1.1 h.1.2.1.2 e4 ⟨(h.2.2.1 i i0 i1).2.2.1, (h.2.2.1 i i0 i1).2.2.2⟩ (fun k k0 k1 => ?_) (fun k k0 k1 q => ?_)
  · have := SR_sp h k0 (by lia)
    constructor
    · rintro ⟨q1, q2⟩; exact ⟨by lia, q2⟩
    · rintro ⟨q1, q2⟩; exact ⟨by lia, q2⟩
  · have hs := SR_sp h k0 (by lia)
    obtain ⟨⟨a1, a2, a3, a4, a5, a6, a7, a8⟩, b1, b2, b3, b4⟩ := hs.2.2 (by lia)
    rw [if_neg (by lia)]
    exact ⟨a3, a1, a2, a4, a5, a6, a7, b2, b3, b4⟩
theorem SR_raise {s t : zSig} (h : SR s 1 (t 395)) {n l i : Int32} (n0 : 0 ≤ n) (n1 : n < t 395 1) (i0 : 0 ≤ i) (i1 : i < t 395 0) : cS s (-1) n l i = f3 (mS (zup t 395 (803 + 9 * n + 3) l) (-1) i) ∧ inR (mS (zup t 395 (803 + 9 * n + 3) l) (-1) i) := by
  have hb := SR_b h
  have e4 := h.2.1.2.1
  have eo : ∀ j, j ≠ 803 + 9 * n + 3 → zup t 395 (803 + 9 * n + 3) l 395 j = t 395 j := fun j hj => zup_i hj
  have ew : ∀ k f, 0 ≤ k → k < 16 → 0 ≤ f → f ≤ 8 → f ≠ 3 → zup t 395 (803 + 9 * n + 3) l 395 (803 + 9 * k + f) = t 395 (803 + 9 * k + f) := fun k f k0 k1 f0 f1 f3 => eo _ (by lia)
  have ew0 : ∀ k, 0 ≤ k → k < 16 → zup t 395 (803 + 9 * n + 3) l 395 (803 + 9 * k) = t 395 (803 + 9 * k) := fun k k0 k1 => eo _ (by lia)
  have er : mRw (zup t 395 (803 + 9 * n + 3) l) i = mRw t i := by
    unfold mRw; rw [eo _ (by lia), eo _ (by lia), eo _ (by lia)]
  refine cS_mS h.1.2.1.1 h.1.2.1.2 (by rw [eo _ (by lia)]; exact e4) (by rw [er]; exact ⟨(h.2.2.1 i i0 i1).2.2.1, (h.2.2.1 i i0 i1).2.2.2⟩) (fun k k0 k1 => ?_) (fun k k0 k1 q => ?_)
  · have := SR_sp h k0 (by lia)
    rw [ew0 k k0 (by lia)]
    constructor
    · rintro ⟨q1, q2⟩; exact ⟨by lia, q2⟩
    · rintro ⟨q1, q2⟩; exact ⟨by lia, q2⟩
  · have hs := SR_sp h k0 (by lia)
    obtain ⟨⟨a1, a2, a3, a4, a5, a6, a7, a8⟩, b1, b2, b3, b4⟩ := hs.2.2 (by lia)
    rw [ew k 1 k0 (by lia) (by decide) (by decide) (by decide), ew k 2 k0 (by lia) (by decide) (by decide) (by decide), ew k 4 k0 (by lia) (by decide) (by decide) (by decide), ew k 5 k0 (by lia) (by decide) (by decide) (by decide), ew k 6 k0 (by lia) (by decide) (by decide) (by decide), ew k 7 k0 (by lia) (by decide) (by decide) (by decide)]
    refine ⟨?_, a1, a2, a4, a5, a6, a7, b2, b3, b4⟩
    by_cases hk : k = n
    · rw [if_pos hk, hk, zup_s]
    · rw [if_neg hk, eo _ (by lia)]; exact a3
