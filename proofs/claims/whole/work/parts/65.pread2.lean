/-! reading: step against step -/
def JS (σ m : zSig) : Prop := (σ 317 2 = m 393 21 ∧ 0 ≤ m 393 21 ∧ m 393 21 ≤ 200) ∧ (σ 317 6 = m 393 25 ∧ 0 ≤ m 393 25 ∧ m 393 25 ≤ 8) ∧ (∀ j, 0 ≤ j → j < m 393 25 → σ 320 j = fKd (m 406 j) ∧ fKd (m 406 j) ≠ -1) ∧ (∀ j, 0 ≤ j → j ≤ m 393 25 → σ 321 j = f3 (mOpF m j) ∧ inR (mOpF m j)) ∧ ∀ i, 0 ≤ i → i < m 393 21 → σ 318 i = m 405 (4 * i) ∧ (0 ≤ m 405 (4 * i) ∧ m 405 (4 * i) ≤ 127) ∧ σ 319 i = f3 (m 405 (4 * i + 1), m 405 (4 * i + 2), m 405 (4 * i + 3)) ∧ inR (m 405 (4 * i + 1), m 405 (4 * i + 2), m 405 (4 * i + 3))
def JR (s : zSig) (k : Nat) (m : zSig) : Prop := ∃ i σ, zitN (fun _ => rSt) (0, rI s) k = (i, σ) ∧ (∀ c j, c < 317 ∨ 322 ≤ c → σ c j = s c j) ∧ σ 317 3 = m 393 12 ∧ (m 393 20 = 0 ↔ σ 317 3 ≠ -1) ∧ (¬ m 393 20 = 0 → i = m 393 19 ∧ JS σ m)
theorem mOpF_c {m m' : zSig} {n : Int32} (n0 : 0 ≤ n) (h : ∀ j, 0 ≤ j → j < n → m' 406 j = m 406 j ∧ m' 407 j = m 407 j) : mOpF m' n = mOpF m n := by
  unfold mOpF
  refine zit_congr n0 (fun j x j0 j1 => ?_)
  unfold mOp1
  rw [(h j j0 j1).1, (h j j0 j1).2]
theorem le00 {j : Int32} (h : 0 ≤ j) (h1 : j ≤ 0) : j = 0 := by lia
theorem JR_0 {s t : zSig} : JR s 0 (mRI t) := by
  have a2 : rI s 317 2 = 0 := by unfold rI; rw [zup_a (by decide), zup_i (by decide), zup_i (by decide), zup_s]
  have a6 : rI s 317 6 = 0 := by unfold rI; rw [zup_a (by decide), zup_i (by decide), zup_s]
  have a3 : rI s 317 3 = -1 := by unfold rI; rw [zup_a (by decide), zup_s]
  have b12 : mRI t 393 12 = -1 := by unfold mRI; rw [zup_i (by decide), zup_i (by decide), zup_i (by decide), zup_i (by decide), zup_s]
  have b19 : mRI t 393 19 = 0 := by unfold mRI; rw [zup_i (by decide), zup_i (by decide), zup_i (by decide), zup_s]
  have b20 : mRI t 393 20 = 1 := by unfold mRI; rw [zup_i (by decide), zup_i (by decide), zup_s]
  have b21 : mRI t 393 21 = 0 := by unfold mRI; rw [zup_i (by decide), zup_s]
  have b25 : mRI t 393 25 = 0 := by unfold mRI; rw [zup_s]
  refine ⟨0, rI s, rfl, fun c j q => ?_, by rw [a3, b12], by rw [b20, a3]; decide, fun _ => ⟨b19.symm, ?_⟩⟩
  · unfold rI; rw [zup_a (by omega), zup_a (by omega), zup_a (by omega), zup_a (by omega)]
  · unfold JS
    rw [a2, a6, b21, b25]
    refine ⟨by decide, by decide, fun j j0 j1 => absurd (Int32.lt_of_le_of_lt j0 j1) (by decide), fun j j0 j1 => ?_, fun j j0 j1 => absurd (Int32.lt_of_le_of_lt j0 j1) (by decide)⟩
    rw [le00 j0 j1]
    have e : rI s 321 0 = 4 := by unfold rI; rw [zup_s]
    have e2 : mOpF (mRI t) 0 = (0, 0, 4) := zit_0 _ _
    rw [e, e2]
    unfold inR
    decide
theorem rop_320 {s : zSig} {k v j : Int32} : rOp s k v 320 j = if j = s 317 6 then k else s 320 j := by
  unfold rOp; rw [zup_a (by decide), zup_a (by decide), zup_e]; simp only [true_and]
theorem rop_321 {s : zSig} {k v j : Int32} : rOp s k v 321 j = if j = s 317 6 + 1 then fMk (s 321 (s 317 6)) k v else s 321 j := by
  unfold rOp; rw [zup_a (by decide), zup_e, zup_a (by decide)]; simp only [true_and]
theorem rop_6 {s : zSig} {k v : Int32} : rOp s k v 317 6 = s 317 6 + 1 := by
  unfold rOp; rw [zup_s]
theorem rop_o {s : zSig} {k v : Int32} {c : Nat} {j : Int32} (h : c ≠ 320) (h1 : c ≠ 321) (h2 : c ≠ 317 ∨ j ≠ 6) : rOp s k v c j = s c j := by
  unfold rOp; rw [zup_e, if_neg (fun q => h2.elim (fun g => g q.1) (fun g => g q.2)), zup_a h1, zup_a h]
theorem rlp_o {s : zSig} {t : Int32} {c : Nat} {j : Int32} (h : c ≠ 318) (h1 : c ≠ 319) (h2 : c ≠ 317 ∨ j ≠ 2) : rLp s t c j = s c j := by
  unfold rLp; rw [zup_e, if_neg (fun q => h2.elim (fun g => g q.1) (fun g => g q.2)), zup_a h1, zup_a h]
theorem rlp_318 {s : zSig} {t j : Int32} : rLp s t 318 j = if j = s 317 2 then rTp s t else s 318 j := by
  unfold rLp; rw [zup_a (by decide), zup_a (by decide), zup_e]; simp only [true_and]
theorem rlp_319 {s : zSig} {t j : Int32} : rLp s t 319 j = if j = s 317 2 then s 321 (s 317 6) else s 319 j := by
  unfold rLp; rw [zup_a (by decide), zup_e, zup_a (by decide)]; simp only [true_and]
theorem rlp_2 {s : zSig} {t : Int32} : rLp s t 317 2 = s 317 2 + 1 := by
  unfold rLp; rw [zup_s]
theorem JS_close {σ m m' : zSig} (h : JS σ m) (e21 : m' 393 21 = m 393 21) (e5 : ∀ j, m' 405 j = m 405 j) (e25 : m' 393 25 = m 393 25 - 1) (hz : m 393 25 ≠ 0) (e6 : ∀ j, m' 406 j = m 406 j) (e7 : ∀ j, m' 407 j = m 407 j) : JS (zup σ 317 6 (σ 317 6 - 1)) m' := by
  obtain ⟨h1, ⟨g1, g2, g3⟩, h3, h4, h5⟩ := h
  obtain ⟨z0, z1⟩ := o1 hz g2 g3
  unfold JS
  rw [zup_i (by decide), zup_s, e21, e25, g1]
  refine ⟨h1, ⟨rfl, z0, Int32.le_trans (Int32.le_of_lt z1) g3⟩, fun j j0 j1 => ?_, fun j j0 j1 => ?_, fun j j0 j1 => ?_⟩
  · rw [zup_a (by decide), e6]; exact h3 j j0 (Int32.lt_trans j1 z1)
  · rw [zup_a (by decide), mOpF_c j0 (fun q _ _ => ⟨e6 q, e7 q⟩)]; exact h4 j j0 (Int32.le_trans j1 (Int32.le_of_lt z1))
  · rw [zup_a (by decide), zup_a (by decide), e5, e5, e5, e5]; exact h5 j j0 j1
theorem op_b {o : Int32} (h0 : 0 ≤ o) (h8 : o ≤ 8) (h : o ≠ 8) : 0 ≤ o + 1 ∧ o + 1 ≤ 8 ∧ o < o + 1 := by lia
theorem op_j {o j : Int32} (h0 : 0 ≤ o) (h8 : o ≤ 8) (j1 : j < o + 1) (h : ¬ j = o) : j < o := by lia
theorem op_l {o j : Int32} (h0 : 0 ≤ o) (h8 : o ≤ 8) (j1 : j ≤ o + 1) (h : ¬ j = o + 1) : j ≤ o := by lia
theorem lt_ne {o j : Int32} (h : j < o) : ¬ j = o := fun q => by rw [q] at h; exact Int32.lt_irrefl h
theorem JS_open {σ m m' : zSig} {b w v : Int32} (h : JS σ m) (e21 : m' 393 21 = m 393 21) (e5 : ∀ j, m' 405 j = m 405 j) (e25 : m' 393 25 = m 393 25 + 1) (hz : m 393 25 ≠ 8) (e6 : ∀ j, m' 406 j = if j = m 393 25 then b else m 406 j) (e7 : ∀ j, m' 407 j = if j = m 393 25 then w else m 407 j) (hb : fKd b ≠ -1) (h9 : b = 99 → v = w ∧ 0 ≤ w ∧ w ≤ 7) (h2 : b = 122 → v = w ∧ 0 ≤ w ∧ w ≤ 9) : JS (rOp σ (fKd b) v) m' := by
  obtain ⟨h1, ⟨g1, g2, g3⟩, h3, h4, h5⟩ := h
  obtain ⟨z0, z1, z2⟩ := op_b g2 g3 hz
  have ec : ∀ j, 0 ≤ j → j ≤ m 393 25 → mOpF m' j = mOpF m j := fun j j0 j1 => mOpF_c j0 (fun q q0 q1 => by
    have := lt_ne (Int32.lt_of_lt_of_le q1 j1)
    rw [e6, e7, if_neg this, if_neg this]; exact ⟨rfl, rfl⟩)
  unfold JS
  rw [rop_o (by decide) (by decide) (by decide), rop_6, e21, e25, g1]
  refine ⟨h1, ⟨rfl, z0, z1⟩, fun j j0 j1 => ?_, fun j j0 j1 => ?_, fun j j0 j1 => ?_⟩
  · rw [rop_320, e6, g1]
    by_cases hj : j = m 393 25
    · rw [if_pos hj, if_pos hj]; exact ⟨rfl, hb⟩
    · rw [if_neg hj, if_neg hj]; exact h3 j j0 (op_j g2 g3 j1 hj)
  · rw [rop_321, g1]
    by_cases hj : j = m 393 25 + 1
    · rw [if_pos hj, hj]
      obtain ⟨q1, q2⟩ := h4 (m 393 25) g2 (Int32.le_refl _)
      have em : mOpF m' (m 393 25 + 1) = ((mOpF m (m 393 25)).1 ||| gFl b, if b = 99 then w else (mOpF m (m 393 25)).2.1, if b = 122 then w else (mOpF m (m 393 25)).2.2) := by
        have : mOpF m' (m 393 25 + 1) = mOp1 m' (m 393 25) (mOpF m' (m 393 25)) := zit_s _ _ g2 z2
        rw [this, ec (m 393 25) g2 (Int32.le_refl _)]
        unfold mOp1
        rw [e6, e7, if_pos rfl, if_pos rfl]
      rw [em, q1]
      exact f3_mk q2 hb h9 h2
    · rw [if_neg hj, ec j j0 (op_l g2 g3 j1 hj)]; exact h4 j j0 (op_l g2 g3 j1 hj)
  · rw [rop_o (by decide) (by decide) (Or.inl (by decide)), rop_o (by decide) (by decide) (Or.inl (by decide)), e5, e5, e5, e5]; exact h5 j j0 j1
theorem le_b {o : Int32} (h0 : 0 ≤ o) (h8 : o ≤ 200) (h : o ≠ 200) : 0 ≤ o + 1 ∧ o + 1 ≤ 200 := by lia
theorem le_j {o j : Int32} (h0 : 0 ≤ o) (h8 : o ≤ 200) (j1 : j < o + 1) (h : ¬ j = o) : j < o := by lia
theorem le_4 {o j x : Int32} (h8 : o ≤ 200) (j0 : 0 ≤ j) (j1 : j < o) (x0 : 0 ≤ x) (x1 : x < 4) : 4 * j + x < 4 * o := by lia
theorem le_40 {o j : Int32} (h8 : o ≤ 200) (j0 : 0 ≤ j) (j1 : j < o) : 4 * j < 4 * o := by lia
theorem JS_letter {σ m m' : zSig} {a i : Int32} (h : JS σ m) (e25 : m' 393 25 = m 393 25) (e6 : ∀ j, m' 406 j = m 406 j) (e7 : ∀ j, m' 407 j = m 407 j) (e21 : m' 393 21 = m 393 21 + 1) (hn : m 393 21 ≠ 200) (eo : ∀ j, j < 4 * m 393 21 → m' 405 j = m 405 j) (ea : rTp σ i = a) (a0 : 0 ≤ a ∧ a ≤ 127) (e0 : m' 405 (4 * m 393 21) = a) (e1 : m' 405 (4 * m 393 21 + 1) = (mOpF m (m 393 25)).1) (e2 : m' 405 (4 * m 393 21 + 2) = (mOpF m (m 393 25)).2.1) (e3 : m' 405 (4 * m 393 21 + 3) = (mOpF m (m 393 25)).2.2) : JS (rLp σ i) m' := by
  obtain ⟨⟨k1, k2, k3⟩, ⟨g1, g2, g3⟩, h3, h4, h5⟩ := h
  obtain ⟨z0, z1⟩ := le_b k2 k3 hn
  unfold JS
  rw [rlp_2, rlp_o (by decide) (by decide) (by decide), e21, e25, k1]
  refine ⟨⟨rfl, z0, z1⟩, ⟨g1, g2, g3⟩, fun j j0 j1 => ?_, fun j j0 j1 => ?_, fun j j0 j1 => ?_⟩
  · rw [rlp_o (by decide) (by decide) (Or.inl (by decide)), e6]; exact h3 j j0 j1
  · rw [rlp_o (by decide) (by decide) (Or.inl (by decide)), mOpF_c j0 (fun q _ _ => ⟨e6 q, e7 q⟩)]; exact h4 j j0 j1
  · rw [rlp_318, rlp_319, k1, g1]
    by_cases hj : j = m 393 21
    · rw [if_pos hj, if_pos hj, hj, e0, e1, e2, e3, ea]
      exact ⟨rfl, a0, h4 (m 393 25) g2 (Int32.le_refl _)⟩
    · have hl := le_j k2 k3 j1 hj
      rw [if_neg hj, if_neg hj, eo _ (le_40 k3 j0 hl), eo _ (le_4 k3 j0 hl (by decide) (by decide)), eo _ (le_4 k3 j0 hl (by decide) (by decide)), eo _ (le_4 k3 j0 hl (by decide) (by decide))]
      exact h5 j j0 hl
theorem n200 {n : Int32} (h : n ≤ 200) : n < 200 ↔ ¬ n = 200 := by constructor <;> intro q <;> lia
theorem i400 {i n : Int32} (h : i < n) (h1 : n ≤ 400) : i ≤ 400 := by lia
set_option maxHeartbeats 4000000 in
theorem JR_s {s t : zSig} (hT : RT s t) {k : Nat} {m m' : zSig} (hJ : JR s k m) (hn : ¬ m 393 20 = 0) (hl : m 393 19 < m 393 11) (ho : okMr t m) (hs : mStp m m') : JR s (k + 1) m' := by
  obtain ⟨i, σ, hx, hf, e12, e20, hj⟩ := hJ
  obtain ⟨ei, js⟩ := hj hn
  obtain ⟨i0, -⟩ := ho.2.2.1 hn
  rw [← ei] at hl i0
  have rT : RT σ m := RT_c (fun c j q => hf c j (by omega)) (ho.1 393 11 (by decide) (by decide) (by decide) (by decide)) (fun j => ho.1 401 j (by decide) (by decide) (by decide) (Or.inl (by decide))) hT
  have hi : i < σ 34 1 := by rw [← rT.2.1]; exact hl
  have i4 : i ≤ 400 := i400 hi rT.1.2
  have f3' : σ 317 3 = -1 := Decidable.byContradiction (fun q => hn (e20.mpr q))
  have hx1 : zitN (fun _ => rSt) (0, rI s) (k + 1) = if rTp σ i = 91 then (rMkA σ i, rMkH σ i) else (rLtA σ i, rLtH σ i) := by
    show rSt (zitN (fun _ => rSt) (0, rI s) k) = _
    rw [hx]
    exact if_pos ⟨hi, f3'⟩
  have hb := bR_t rT i0
  obtain ⟨js1, js2, js3, js4, js5⟩ := js
  have js : JS σ m := ⟨js1, js2, js3, js4, js5⟩
  have e47 : rTp σ (i + 1) = 47 ↔ mBy m (i + 1) = 47 := bR_c (bR_t rT (nn1 i0 (Int32.le_trans i4 (by decide)))) (by decide) (by decide)
  unfold mStp at hs
  rw [← ei] at hs
  rcases hs with ⟨h91, -, m21, m5, hs⟩ | ⟨h91, -, m25, m6, m7, hs⟩
  · rw [if_pos ((bR_c hb (by decide) (by decide)).mpr h91)] at hx1
    rw [← ei] at hs
    obtain ⟨aF, aK⟩ := mk_al rT i0 i4 js2.1 js2.2.1 js2.2.2 js3
    rcases hs with ⟨w1, w2, w3, w4⟩ | ⟨w1, w2, w3, w4, w5⟩
    · have eh : rMkH σ i = zup σ 317 3 (rMkF σ i) := by unfold rMkH; rw [if_pos (by rw [aF]; exact w1)]
      refine ⟨_, _, hx1, fun c j q => ?_, ?_, ?_, fun q => absurd w3 q⟩
      · rw [eh, zup_a (by omega)]; exact hf c j q
      · rw [eh, zup_s, w2, aF]
      · rw [eh, zup_s, w3, aF]; exact ⟨fun _ => w1, fun _ => rfl⟩
    · obtain ⟨a1, a2, a3, a4⟩ := aK w1
      rcases w5 with ⟨q1, q2, q3, q4, q5⟩ | ⟨q1, q2, q3, q4, q5⟩
      · have eh : rMkH σ i = zup σ 317 6 (σ 317 6 - 1) := by
          unfold rMkH; rw [if_neg (fun q => q (aF.trans w1)), if_pos (e47.mpr q1)]
        refine ⟨_, _, hx1, fun c j q => ?_, ?_, ?_, fun q => ⟨by rw [a1, w4], ?_⟩⟩
        · rw [eh, zup_a (by omega)]; exact hf c j q
        · rw [eh, zup_i (by decide), w2]; exact e12
        · rw [eh, zup_i (by decide), w3]; exact e20
        · rw [eh]; exact JS_close js m21 m5 q2 q3 q4 q5
      · have eh : rMkH σ i = rOp σ (fKd (mCh m i)) (rVl σ i) := by
          unfold rMkH; rw [if_neg (fun q => q (aF.trans w1)), if_neg (fun q => q1 (e47.mp q)), a2]
        refine ⟨_, _, hx1, fun c j q => ?_, ?_, ?_, fun q => ⟨by rw [a1, w4], ?_⟩⟩
        · rw [eh, rop_o (by omega) (by omega) (Or.inl (by omega))]; exact hf c j q
        · rw [eh, rop_o (by decide) (by decide) (by decide), w2]; exact e12
        · rw [eh, rop_o (by decide) (by decide) (by decide), w3]; exact e20
        · rw [eh]; exact JS_open js m21 m5 q2 q3 q4 q5 a3 (a4 q1).1 (a4 q1).2
  · rw [if_neg (fun q => h91 ((bR_c hb (by decide) (by decide)).mp q))] at hx1
    have eb : rTp σ i = mBy m i := by
      rcases hb with ⟨q, -⟩ | ⟨q1, q2⟩
      · exact q
      · have w := rT.2.2 i i0 hi
        have : rTp σ i = σ 35 i := if_pos ⟨i0, hi⟩
        rw [q1] at this
        have w0 := w.1.1
        rw [← this] at w0
        exact absurd w0 (by decide)
    have eg : rG σ i = mLg m := by
      unfold rG mLg
      rw [eb, ← ei, js1.1]
      exact decide_eq_decide.mpr (by rw [n200 js1.2.2])
    rw [← ei] at hs
    rcases hs with ⟨w1, w2, w3, w4, w5⟩ | ⟨w1, w2, w3, w4, w5, w6, w7, w8, w9, w10⟩
    · have eh : rLtH σ i = zup σ 317 3 i := by unfold rLtH; rw [eg, w1]; exact if_neg (by decide)
      refine ⟨_, _, hx1, fun c j q => ?_, ?_, ?_, fun q => absurd w3 q⟩
      · rw [eh, zup_a (by omega)]; exact hf c j q
      · rw [eh, zup_s, w2]
      · rw [eh, zup_s, w3]; exact ⟨fun _ => ne1 i0, fun _ => rfl⟩
    · have eh : rLtH σ i = rLp σ i := by unfold rLtH; rw [eg, w1]; exact if_pos rfl
      have ea : rLtA σ i = i + 1 := by unfold rLtA; rw [eg, w1]; exact if_pos rfl
      have hg : (((32 ≤ mBy m (m 393 19) ∧ mBy m (m 393 19) ≤ 126) ∧ mBy m (m 393 19) ≠ 91 ∧ mBy m (m 393 19) ≠ 93) ∧ m 393 21 ≠ 200) := by
        unfold mLg at w1; exact of_decide_eq_true w1
      rw [← ei] at hg
      refine ⟨_, _, hx1, fun c j q => ?_, ?_, ?_, fun q => ⟨by rw [ea, w4], ?_⟩⟩
      · rw [eh, rlp_o (by omega) (by omega) (Or.inl (by omega))]; exact hf c j q
      · rw [eh, rlp_o (by decide) (by decide) (by decide), w2]; exact e12
      · rw [eh, rlp_o (by decide) (by decide) (by decide), w3]; exact e20
      · rw [eh]
        exact JS_letter js m25 m6 m7 w5 hg.2 w6 eb ⟨Int32.le_trans (by decide) hg.1.1.1, Int32.le_trans hg.1.1.2 (by decide)⟩ w7 w8 w9 w10
theorem rSt_stop {X : Int32 × zSig} (h : ¬ (X.1 < X.2 34 1 ∧ X.2 317 3 = -1)) : rSt X = X := if_neg h
theorem stop_add {x : Int32 × zSig} {n : Nat} (h : ¬ ((zitN (fun _ => rSt) x n).1 < (zitN (fun _ => rSt) x n).2 34 1 ∧ (zitN (fun _ => rSt) x n).2 317 3 = -1)) : ∀ d, zitN (fun _ => rSt) x (n + d) = zitN (fun _ => rSt) x n
  | 0 => rfl
  | d + 1 => by
    show rSt (zitN (fun _ => rSt) x (n + d)) = _
    rw [stop_add h d]
    exact rSt_stop h
theorem stop_eq {x : Int32 × zSig} {n k : Nat} (h : ¬ ((zitN (fun _ => rSt) x n).1 < (zitN (fun _ => rSt) x n).2 34 1 ∧ (zitN (fun _ => rSt) x n).2 317 3 = -1)) (h2 : ¬ ((zitN (fun _ => rSt) x k).1 < (zitN (fun _ => rSt) x k).2 34 1 ∧ (zitN (fun _ => rSt) x k).2 317 3 = -1)) : zitN (fun _ => rSt) x n = zitN (fun _ => rSt) x k := by
  rcases Nat.le_total n k with q | q
  · obtain ⟨d, rfl⟩ := Nat.exists_eq_add_of_le q
    exact (stop_add h d).symm
  · obtain ⟨d, rfl⟩ := Nat.exists_eq_add_of_le q
    exact stop_add h2 d
