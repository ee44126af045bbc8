/-! the answers are alike: what is told -/
theorem by8_all : ∀ v, v < 256 → (nI v).toInt8.toInt32 &&& 255 = nI v ∧ ((((32 ≤ nI v ∧ nI v ≤ 126) ∧ nI v ≠ 91 ∧ nI v ≠ 93)) ↔ (((32 ≤ (nI v).toInt8.toInt32 ∧ (nI v).toInt8.toInt32 ≤ 126) ∧ (nI v).toInt8.toInt32 ≠ 91 ∧ (nI v).toInt8.toInt32 ≠ 93))) ∧ (nI v ≤ 127 → (nI v).toInt8.toInt32 = nI v) := by decide +kernel
theorem by8 {v : Int32} (h0 : 0 ≤ v) (h1 : v ≤ 255) : v.toInt8.toInt32 &&& 255 = v ∧ (isL v ↔ isL v.toInt8.toInt32) ∧ (v ≤ 127 → v.toInt8.toInt32 = v) := by
  obtain ⟨j, hj, rfl⟩ := nIr (n := 256) h0 (by show v < 256; lia) (by decide)
  exact by8_all j hj
section
variable {s t : zSig}
theorem SR_st (h : SR s 1 (t 395)) {k : Int32} (k0 : 0 ≤ k) (k1 : k < t 395 1) : s (zel 4 k) 0 ≠ 0 ↔ t 395 (803 + 9 * k) = 1 := by
  have := SR_sp h k0 k1
  constructor
  · intro q; lia
  · intro q; lia
theorem SR_sta (h : SR s 1 (t 395)) {k : Int32} (k0 : 0 ≤ k) (k1 : k < t 395 2) : s (zel 5 k) 0 ≠ 0 ↔ t 395 (947 + 4 * k) = 1 := by
  have := SR_an h k0 k1
  constructor
  · intro q; lia
  · intro q; lia
theorem nS_m (h : SR s 1 (t 395)) {i : Int32} (i0 : 0 ≤ i) (i1 : i < t 395 0) : nS s i = mSy t (-1) i := (SR_style h i0 i1).1
theorem nS_f (h : SR s 1 (t 395)) {i : Int32} (i0 : 0 ≤ i) (i1 : i < t 395 0) : fFl (nS s i) = (mS t (-1) i).1 ∧ fCo (nS s i) = (mS t (-1) i).2.1 ∧ fSz (nS s i) = (mS t (-1) i).2.2 := by
  have hq := SR_style h (but := -1) i0 i1
  unfold nS; rw [hq.1]; exact fOf_in hq.2
theorem J_tape (h : RT s t) {i : Int32} : (if 0 ≤ i ∧ i < t 393 11 then t 401 i &&& 255 else -1) = (if 0 ≤ i ∧ i < s 34 1 then s 35 i else -1) := by
  rw [h.2.1]
  by_cases hc : 0 ≤ i ∧ i < s 34 1
  · have := h.2.2 i hc.1 hc.2
    rw [if_pos hc, if_pos hc, this.2, (by8 this.1.1 this.1.2).1]
  · rw [if_neg hc, if_neg hc]
theorem J_letter (h : SR s 1 (t 395)) {i : Int32} : (if 0 ≤ i ∧ i < t 395 0 then t 395 (3 + 4 * i) else -1) = (if 0 ≤ i ∧ i < s 1 2 then s 2 i else -1) := by
  rw [h.2.1.1]
  by_cases hc : 0 ≤ i ∧ i < t 395 0
  · rw [if_pos hc, if_pos hc]; exact ((h.2.2.1 i hc.1 hc.2).1).symm
  · rw [if_neg hc, if_neg hc]
theorem J_anchor (h : SR s 1 (t 395)) {n w : Int32} : (if ((0 ≤ n ∧ n < t 395 2) ∧ t 395 (947 + 4 * n) = 1) ∧ 0 ≤ w ∧ w ≤ 2 then t 395 (947 + 4 * n + 1 + w) else -1) = (if ((0 ≤ n ∧ n < s 1 6) ∧ s (zel 5 n) 0 ≠ 0) ∧ 0 ≤ w ∧ w ≤ 2 then s (zel 5 n) (w + 1) else -1) := by
  rw [h.2.1.2.2]
  by_cases hc : 0 ≤ n ∧ n < t 395 2
  · have hs := SR_sta h hc.1 hc.2
    by_cases hz : t 395 (947 + 4 * n) = 1
    · obtain ⟨a1, a2, a3, -⟩ := (SR_an h hc.1 hc.2).2.2 hz
      by_cases hw : 0 ≤ w ∧ w ≤ 2
      · rw [if_pos ⟨⟨hc, hz⟩, hw⟩, if_pos ⟨⟨hc, hs.mpr hz⟩, hw⟩]
        rcases (by lia : w = 0 ∨ w = 1 ∨ w = 2) with q | q | q
        · rw [q, show (0 : Int32) + 1 = 1 by decide, a1, show 947 + 4 * n + 1 + 0 = 947 + 4 * n + 1 by grind]
        · rw [q, show (1 : Int32) + 1 = 2 by decide, a2, show 947 + 4 * n + 1 + 1 = 947 + 4 * n + 2 by grind]
        · rw [q, show (2 : Int32) + 1 = 3 by decide, a3, show 947 + 4 * n + 1 + 2 = 947 + 4 * n + 3 by grind]
      · rw [if_neg (fun q => hw q.2), if_neg (fun q => hw q.2)]
    · rw [if_neg (fun q => hz q.1.2), if_neg (fun q => hz (hs.mp q.1.2))]
  · rw [if_neg (fun q => hc q.1.1), if_neg (fun q => hc q.1.1)]
theorem J_style (h : SR s 1 (t 395)) {i w : Int32} : mSt t i w = qSt s i w := by
  unfold mSt qSt
  rw [h.2.1.1]
  by_cases hc : 0 ≤ i ∧ i < t 395 0
  · obtain ⟨f1, f2, f3'⟩ := nS_f h hc.1 hc.2
    have hp := (h.2.2.1 i hc.1 hc.2).2.2
    obtain ⟨p1, p2, p3⟩ := fOf_in hp.2
    have ep : s 3 i = _ := hp.1
    rw [← ep] at p1 p2 p3
    rw [if_pos hc, f1, f2, f3', p1, p2, p3, nS_m h hc.1 hc.2]
    by_cases hw : 0 ≤ w ∧ w ≤ 6
    · rw [if_pos ⟨hc, hw⟩]
      rcases (by lia : w = 0 ∨ w = 1 ∨ w = 2 ∨ w = 3 ∨ w = 4 ∨ w = 5 ∨ w = 6) with q | q | q | q | q | q | q
      · subst q; rfl
      · subst q; rfl
      · subst q; rfl
      · subst q; rw [if_pos (by decide), if_neg (by decide), if_neg (by decide), if_neg (by decide), if_pos rfl]; show t 395 (3 + 4 * i + 3 - 2) = t 395 (3 + 4 * i + 1); congr 1; grind
      · subst q; rw [if_pos (by decide), if_neg (by decide), if_neg (by decide), if_neg (by decide), if_neg (by decide), if_pos rfl]; show t 395 (3 + 4 * i + 4 - 2) = t 395 (3 + 4 * i + 2); congr 1; grind
      · subst q; rw [if_pos (by decide), if_neg (by decide), if_neg (by decide), if_neg (by decide), if_neg (by decide), if_neg (by decide), if_pos rfl]; show t 395 (3 + 4 * i + 5 - 2) = t 395 (3 + 4 * i + 3); congr 1; grind
      · subst q; rfl
    · rw [if_neg (fun q => hw q.2), if_neg (by lia), if_neg (by lia), if_neg (by lia), if_neg (by lia), if_neg (by lia), if_neg (by lia), if_neg (by lia)]
  · rw [if_neg (fun q => hc q.1), if_neg hc]
theorem J_stack (h : SR s 1 (t 395)) {i q : Int32} : mSk t i q = qSk s i q := by
  have hb := SR_b h
  unfold mSk qSk
  congr 1
  refine zit_congr (by decide) (fun lay x _ _ => ?_)
  unfold msk2 sk2
  rw [h.2.1.2.1]
  refine zit_congr hb.2.1.1 (fun k x k0 k1 => ?_)
  unfold msk1 sk1
  have hs := SR_st h k0 k1
  by_cases hz : t 395 (803 + 9 * k) = 1
  · obtain ⟨⟨a1, a2, a3, -⟩, -⟩ := (SR_sp h k0 k1).2.2 hz
    rw [a1, a2, a3]
    by_cases hc : t 395 (803 + 9 * k + 3) = lay ∧ t 395 (803 + 9 * k + 1) ≤ i ∧ i < t 395 (803 + 9 * k + 2)
    · exact (if_pos ⟨hc.1, hz, hc.2⟩).trans (if_pos ⟨hc.1, hs.mpr hz, hc.2⟩).symm
    · rw [if_neg (fun q => hc ⟨q.1, q.2.2⟩), if_neg (fun q => hc ⟨q.1, q.2.2⟩)]
  · rw [if_neg (fun q => hz q.2.1), if_neg (fun q => hz (hs.mp q.2.1))]
theorem J_spk (h : SR s 1 (t 395)) {k w : Int32} (k0 : 0 ≤ k) (k1 : k < t 395 1) (hz : t 395 (803 + 9 * k) = 1) (w0 : 0 ≤ w) (w1 : w ≤ 5) : mspk t k w = spk s k w := by
  obtain ⟨⟨a1, a2, a3, a4, a5, a6, a7, a8⟩, -, -, -, b1, b2⟩ := (SR_sp h k0 k1).2.2 hz
  unfold mspk spk
  rw [a4, a5, a7]
  by_cases hw0 : w = 0
  · rw [if_pos hw0, if_pos hw0]
    by_cases hc : s (zel 4 k) 6 = -1
    · rw [if_pos hc, if_neg (by lia)]
    · rw [if_neg hc, if_pos (by lia)]
  · rw [if_neg hw0, if_neg hw0]
    by_cases hw1 : w = 1
    · rw [if_pos hw1, if_pos hw1]
    · rw [if_neg hw1, if_neg hw1]
      by_cases hc : ((t 395 (803 + 9 * k + 4) ||| t 395 (803 + 9 * k + 5)) >>> ((w - 2) &&& 31)) &&& 1 = 1
      · rw [if_pos hc, if_pos ⟨by lia, by lia, hc⟩]
      · rw [if_neg hc, if_neg (fun q => hc q.2.2)]
theorem J_spk0 {k w : Int32} (hw : ¬ (0 ≤ w ∧ w ≤ 5)) : spk s k w = 0 := by
  unfold spk; rw [if_neg (by lia), if_neg (by lia), if_neg (fun q => hw ⟨by lia, q.2.1⟩)]
theorem J_tells (h : SR s 1 (t 395)) {i w : Int32} : mTl t i w = qTl s i w := by
  have hb := SR_b h
  unfold mTl qTl
  rw [h.2.1.1]
  by_cases hi : 0 ≤ i ∧ i < t 395 0
  · rw [if_pos hi]
    by_cases hw : 0 ≤ w ∧ w ≤ 5
    · rw [if_pos ⟨hi, hw⟩]
      refine zit_congr (by decide) (fun lay x _ _ => ?_)
      unfold mtl2 tl2
      rw [h.2.1.2.1]
      refine zit_congr hb.2.1.1 (fun k x k0 k1 => ?_)
      unfold mtl1 tl1
      have hs := SR_st h k0 k1
      by_cases hz : t 395 (803 + 9 * k) = 1
      · rw [J_spk h k0 k1 hz hw.1 hw.2]
        obtain ⟨⟨a1, a2, a3, -⟩, -⟩ := (SR_sp h k0 k1).2.2 hz
        rw [a1, a2, a3]
        by_cases hc : t 395 (803 + 9 * k + 3) = lay ∧ (t 395 (803 + 9 * k + 1) ≤ i ∧ i < t 395 (803 + 9 * k + 2)) ∧ spk s k w ≠ 0
        · rw [if_pos ⟨hc.1, ⟨hz, hc.2.1⟩, hc.2.2⟩, if_pos ⟨hc.1, ⟨hs.mpr hz, hc.2.1⟩, hc.2.2⟩]
        · rw [if_neg (fun q => hc ⟨q.1, q.2.1.2, q.2.2⟩), if_neg (fun q => hc ⟨q.1, q.2.1.2, q.2.2⟩)]
      · rw [if_neg (fun q => hz q.2.1.1), if_neg (fun q => hz (hs.mp q.2.1.1))]
    · rw [if_neg (fun q => hw q.2)]
      symm
      refine zit_id (by decide) (fun lay x _ _ => ?_)
      unfold tl2
      refine zit_id h.1.2.1.1 (fun k x _ _ => ?_)
      unfold tl1
      rw [if_neg (fun q => q.2.2 (J_spk0 hw))]
  · rw [if_neg (fun q => hi q.1), if_neg hi]
theorem J_crossed (h : SR s 1 (t 395)) : mCr t = qCr s := by
  have hb := SR_b h
  unfold mCr qCr
  rw [h.2.1.2.1]
  refine zit_congr hb.2.1.1 (fun a x a0 a1 => ?_)
  unfold mcr2 cr2
  rw [h.2.1.2.1]
  refine zit_congr hb.2.1.1 (fun b y b0 b1 => ?_)
  unfold mcr1 cr1
  have e : mcrs t a b = crs s a b := by
    unfold mcrs crs
    have ha := SR_st h a0 a1
    have hb2 := SR_st h b0 b1
    by_cases hz : t 395 (803 + 9 * a) = 1 ∧ t 395 (803 + 9 * b) = 1
    · obtain ⟨⟨p1, p2, -⟩, -⟩ := (SR_sp h a0 a1).2.2 hz.1
      obtain ⟨⟨q1, q2, -⟩, -⟩ := (SR_sp h b0 b1).2.2 hz.2
      rw [p1, p2, q1, q2]
      exact decide_eq_decide.mpr ⟨fun q => ⟨⟨ha.mpr hz.1, hb2.mpr hz.2⟩, q.2⟩, fun q => ⟨hz, q.2⟩⟩
    · exact decide_eq_decide.mpr ⟨fun q => absurd q.1 hz, fun q => absurd ⟨ha.mp q.1.1, hb2.mp q.1.2⟩ hz⟩
  rw [e]
/-- runs -/
theorem rN_up {S : Int32 → Int32} {c : Int32} (c0 : 0 ≤ c) (c1 : c ≤ 200) : 0 ≤ zit (rN S) 0 c ∧ zit (rN S) 0 c ≤ c := by
  obtain ⟨j, hj, rfl⟩ := znn c0
  have hj2 : j ≤ 200 := (nI_leI hj (by decide)).mp c1
  have key : ∀ m : Nat, m ≤ j → 0 ≤ zit (rN S) 0 (nI m) ∧ zit (rN S) 0 (nI m) ≤ nI m := by
    intro m
    induction m with
    | zero => intro _; rw [show nI 0 = 0 from rfl, zit_0]; decide
    | succ m ih =>
      intro hm
      have h1 := ih (by omega)
      have h2 : nI m < nI (m + 1) := nI_lt (by omega) (by omega)
      have h3 : nI (m + 1) ≤ nI 200 := nI_le (by omega) (by decide)
      have h4 : 0 ≤ nI m := nI_pos' (by omega)
      have h6 : nI 200 = 200 := rfl
      have h5 : nI m + 1 = nI (m + 1) := nI_1 m
      rw [← nI_1, zit_s _ _ h4 h2]
      generalize zit (rN S) 0 (nI m) = z at h1 ⊢
      unfold rN; split <;> lia
  exact key j (Nat.le_refl _)
theorem rN_le {S : Int32 → Int32} {a b : Int32} (a0 : 0 ≤ a) (ab : a ≤ b) (b1 : b ≤ 200) : zit (rN S) 0 a ≤ zit (rN S) 0 b := by
  obtain ⟨i, hi, rfl⟩ := znn a0
  obtain ⟨j, hj, rfl⟩ := znn (Int32.le_trans a0 ab)
  have hij : i ≤ j := (nI_leI hi hj).mp ab
  have hj2 : j ≤ 200 := (nI_leI hj (by decide)).mp b1
  have key : ∀ d : Nat, i + d ≤ j → zit (rN S) 0 (nI i) ≤ zit (rN S) 0 (nI (i + d)) := by
    intro d
    induction d with
    | zero => intro _; exact Int32.le_refl _
    | succ d ih =>
      intro hd
      have h1 := ih (by omega)
      have h2 : nI (i + d) < nI (i + d + 1) := nI_lt (by omega) (by omega)
      have h3 : nI (i + d) ≤ nI 200 := nI_le (by omega) (by decide)
      have h4 : 0 ≤ nI (i + d) := nI_pos' (by omega)
      have h6 : nI 200 = 200 := rfl
      have h7 := rN_up (S := S) h4 (by rw [← h6]; exact h3)
      rw [show i + (d + 1) = i + d + 1 from rfl, ← nI_1, zit_s _ _ h4 h2]
      unfold rN at *; split <;> lia
  have := key (j - i) (by omega)
  rw [show i + (j - i) = j by omega] at this
  exact this
theorem rN_u {S : Int32 → Int32} {a b : Int32} (a0 : 0 ≤ a) (a1 : a < 200) (b0 : 0 ≤ b) (b1 : b < 200) (ha : bg S a ≠ 0) (hb : bg S b ≠ 0) (h : zit (rN S) 0 a = zit (rN S) 0 b) : a = b := by
  have st : ∀ c, 0 ≤ c → c < 200 → bg S c ≠ 0 → zit (rN S) 0 (c + 1) = zit (rN S) 0 c + 1 := fun c c0 c1 hc => by
    rw [zit_s _ _ c0 c1]; unfold rN; rw [if_neg hc]
  have ua := rN_up (S := S) a0 (by lia)
  by_cases h1 : a < b
  · have h2 := rN_le (S := S) (a := a + 1) (b := b) (by lia) (by lia) (by lia)
    rw [st a a0 a1 ha] at h2; exfalso; lia
  · by_cases h3 : b < a
    · have h2 := rN_le (S := S) (a := b + 1) (b := a) (by lia) (by lia) (by lia)
      rw [st b b0 b1 hb] at h2; exfalso; lia
    · lia
theorem J_run (h : SR s 1 (t 395)) {S : Int32 → Int32} {q w v v' : Int32} (hS : ∀ j, 0 ≤ j → j < s 1 2 → S j = nS s j) (hc : qRun S (s 1 2) q w v) (hm : mRun t q w v') : v' = v := by
  have hb := SR_b h
  have e2 := h.2.1.1
  rw [e2] at hS hc
  have hT : ∀ j, 0 ≤ j → j < t 395 0 → S j = mSy t (-1) j := fun j j0 j1 => by rw [hS j j0 j1]; exact nS_m h j0 j1
  have eb : ∀ j, 0 ≤ j → j < t 395 0 → bg S j = bg (mSy t (-1)) j := fun j j0 j1 => bg_congr hT j0 j1
  have er : ∀ j, 0 ≤ j → j ≤ t 395 0 → zit (rN S) 0 j = zit (rN (mSy t (-1))) 0 j := fun j j0 j1 => rN_congr hT j0 j1
  rcases hc with ⟨f, ⟨f0, f1, fb, fz⟩, c0, c1, c2, c3, c4, c5⟩ | ⟨hv, hn⟩ <;> rcases hm with ⟨g, ⟨g0, g1, gb, gz⟩, d0, d1, d2, d3, d4, w0, w1⟩ | ⟨hv', hn'⟩
  · have hfg : f = g := by
      refine rN_u (S := mSy t (-1)) f0 (by lia) g0 (by lia) (by rw [← eb f f0 f1]; exact fb) gb ?_
      rw [← er f f0 (by lia), fz, gz]
    subst hfg
    have hs := nS_f h f0 f1
    rw [← hS f f0 f1] at hs
    rcases (by lia : w = 0 ∨ w = 1 ∨ w = 2 ∨ w = 3 ∨ w = 4) with k | k | k | k | k
    · rw [c0 k, d0 k]
    · obtain ⟨e, ⟨p1, p2, p3, p4⟩, p5⟩ := c1 k
      obtain ⟨e', ⟨q1, q2, q3, q4⟩, q5⟩ := d1 k
      have : e = e' := by
        by_cases h1 : e < e'
        · exfalso
          have z1 := q3 e p1 h1
          rcases p4 with p4 | p4
          · lia
          · rw [eb e (by lia) (by lia)] at p4; exact p4 z1
        · by_cases h2 : e' < e
          · exfalso
            have z1 := p3 e' q1 h2
            rcases q4 with q4 | q4
            · lia
            · rw [eb e' (by lia) (by lia)] at z1; exact q4 z1
          · lia
      rw [p5, q5, this]
    · rw [c2 k, d2 k, hs.1]
    · rw [c3 k, d3 k, hs.2.1]
    · rw [c4 k, d4 k, hs.2.2]
  · rcases hn' with hn' | hn'
    · rw [hv', c5 hn']
    · exfalso
      apply hn'
      have u := rN_up (S := mSy t (-1)) f0 (by lia)
      have l := rN_le (S := mSy t (-1)) (a := f + 1) (b := t 395 0) (by lia) (by lia) (by lia)
      rw [zit_s _ _ f0 f1] at l
      have fb' : bg (mSy t (-1)) f ≠ 0 := by rw [← eb f f0 f1]; exact fb
      unfold rN at l; rw [if_neg fb'] at l
      have e1 := er f f0 (by lia)
      unfold rN at e1 u fz ⊢
      lia
  · exfalso
    rcases hn g g0 g1 with k | k
    · rw [eb g g0 g1] at k; exact gb k
    · rw [er g g0 (by lia)] at k; exact k gz
  · rw [hv, hv']
/-- spans weighed -/
theorem mS_not {k i : Int32} (k0 : 0 ≤ k) (hb : 0 ≤ t 395 1) (hn : ¬ mOvr t k i) : mS t k i = mS t (-1) i := by
  unfold mS
  refine zit_congr (by decide) (fun lay x _ _ => ?_)
  unfold mS2
  refine zit_congr hb (fun q y q0 q1 => ?_)
  unfold mS1
  by_cases hq : q = k
  · subst hq
    rw [if_neg (fun z => z.1 rfl), if_neg (fun z => hn z.2.2)]
  · by_cases hc : t 395 (803 + 9 * q + 3) = lay ∧ t 395 (803 + 9 * q) = 1 ∧ t 395 (803 + 9 * q + 1) ≤ i ∧ i < t 395 (803 + 9 * q + 2)
    · rw [if_pos ⟨hq, hc⟩, if_pos ⟨by lia, hc⟩]
    · rw [if_neg (fun z => hc z.2), if_neg (fun z => hc z.2)]
theorem J_id (h : SR s 1 (t 395)) {k v v' : Int32} (k0 : 0 ≤ k) (hc : qId s k v) (hm : mId t k v') : v' = v := by
  have hb := SR_b h
  unfold qId at hc
  rw [h.2.1.1] at hc
  have e1 : ∀ j, 0 ≤ j → j < t 395 0 → cS s k (-1) 0 j = mSy t k j := fun j j0 j1 => (SR_style h j0 j1).1
  rcases hc with ⟨c1, c2⟩ | ⟨c1, j, j0, j1, c2⟩ <;> rcases hm with ⟨d1, d2⟩ | ⟨d1, i, i0, i1, io, d2⟩
  · rw [c1, d1]
  · exfalso
    have := c2 i i0 i1
    rw [e1 i i0 i1, nS_m h i0 i1] at this
    exact d2 this.symm
  · exfalso
    rw [e1 j j0 j1, nS_m h j0 j1] at c2
    by_cases ho : mOvr t k j
    · exact c2 (d2 j j0 j1 ho).symm
    · apply c2; unfold mSy; rw [mS_not k0 hb.2.1.1 ho]
  · rw [c1, d1]
theorem J_span (h : SR s 1 (t 395)) {n w v v' : Int32} (hc : qSp s n w v) (hm : mSp t n w v') : v' = v := by
  have hb := SR_b h
  unfold qSp at hc
  unfold mSp at hm
  rw [h.2.1.2.1] at hc
  by_cases hn : 0 ≤ n ∧ n < t 395 1
  · have hs := SR_st h hn.1 hn.2
    by_cases hz : t 395 (803 + 9 * n) = 1
    · rw [if_pos ⟨hn, hs.mpr hz⟩] at hc
      obtain ⟨⟨a1, a2, a3, a4, a5, a6, a7, a8⟩, -⟩ := (SR_sp h hn.1 hn.2).2.2 hz
      by_cases hw : 0 ≤ w ∧ w ≤ 9
      · rw [if_pos ⟨⟨hn, hz⟩, hw⟩] at hm
        have pl : ∀ x y : Int32, 803 + 9 * n + 1 + x = 803 + 9 * n + (1 + x) := fun x y => by grind
        rcases (by lia : w = 0 ∨ w = 1 ∨ w = 2 ∨ w = 3 ∨ w = 4 ∨ w = 5 ∨ w = 6 ∨ w = 7 ∨ w = 8 ∨ w = 9) with q | q | q | q | q | q | q | q | q | q
        · subst q; rw [if_pos (by decide)] at hc; rw [if_neg (by decide), if_neg (by decide), if_neg (by decide)] at hm; rw [hc, hm, pl 0 0]; exact a1.symm
        · subst q; rw [if_pos (by decide)] at hc; rw [if_neg (by decide), if_neg (by decide), if_neg (by decide)] at hm; rw [hc, hm, pl 1 0]; exact a2.symm
        · subst q; rw [if_pos (by decide)] at hc; rw [if_neg (by decide), if_neg (by decide), if_neg (by decide)] at hm; rw [hc, hm, pl 2 0]; exact a3.symm
        · subst q; rw [if_neg (by decide), if_pos (by decide)] at hc; rw [if_neg (by decide), if_neg (by decide), if_neg (by decide)] at hm; rw [hc, hm, pl 3 0]; exact a4.symm
        · subst q; rw [if_neg (by decide), if_pos (by decide)] at hc; rw [if_neg (by decide), if_neg (by decide), if_neg (by decide)] at hm; rw [hc, hm, pl 4 0]; exact a5.symm
        · subst q; rw [if_neg (by decide), if_pos (by decide)] at hc; rw [if_neg (by decide), if_neg (by decide), if_pos rfl] at hm; rw [hc, hm, pl 5 0]; have : t 395 (803 + 9 * n + (1 + 5)) = s (zel 4 n) 6 + 1 := a6.symm; rw [this]; show s (zel 4 n) 6 + 1 - 1 = s (zel 4 n) 6; grind
        · subst q; rw [if_neg (by decide), if_pos (by decide)] at hc; rw [if_neg (by decide), if_neg (by decide), if_neg (by decide)] at hm; rw [hc, hm, pl 6 0]; exact a7.symm
        · subst q; rw [if_neg (by decide), if_pos (by decide)] at hc; rw [if_neg (by decide), if_neg (by decide), if_neg (by decide)] at hm; rw [hc, hm, pl 7 0]; exact a8.symm
        · subst q; rw [if_neg (by decide), if_neg (by decide), if_pos rfl] at hc; rw [if_pos rfl] at hm; exact J_id h hn.1 hc hm
        · subst q; rw [if_neg (by decide), if_neg (by decide), if_neg (by decide), if_pos rfl] at hc; rw [if_neg (by decide), if_pos rfl] at hm
          rw [hc, hm, h.2.1.1]
          exact (rN_congr (n := t 395 0) (fun j j0 j1 => (SR_style h j0 j1).1) hb.1.1 (Int32.le_refl _)).symm
      · rw [if_neg (fun q => hw q.2)] at hm
        rw [if_neg (by lia), if_neg (by lia), if_neg (by lia), if_neg (by lia)] at hc
        rw [hc, hm]
    · rw [if_neg (fun q => hz (hs.mp q.2))] at hc
      rw [if_neg (fun q => hz q.1.2)] at hm
      rw [hc, hm]
  · rw [if_neg (fun q => hn q.1)] at hc
    rw [if_neg (fun q => hn q.1.1)] at hm
    rw [hc, hm]
theorem J_rs (h : SR s 1 (t 395)) {n l : Int32} (n0 : 0 ≤ n) (n1 : n < t 395 1) : mRs t n l = qRs s n l := by
  have hb := SR_b h
  unfold mRs qRs
  rw [h.2.1.1]
  exact (rN_congr (n := t 395 0) (fun j j0 j1 => (SR_raise h n0 n1 j0 j1).1) hb.1.1 (Int32.le_refl _)).symm
theorem J_raised (h : SR s 1 (t 395)) {n l : Int32} : (if ((0 ≤ n ∧ n < t 395 1) ∧ t 395 (803 + 9 * n) = 1) ∧ 0 ≤ l ∧ l ≤ 9 then mRs t n l else -1) = (if ((0 ≤ n ∧ n < s 1 4) ∧ s (zel 4 n) 0 ≠ 0) ∧ 0 ≤ l ∧ l ≤ 9 then qRs s n l else -1) := by
  rw [h.2.1.2.1]
  by_cases hn : 0 ≤ n ∧ n < t 395 1
  · have hs := SR_st h hn.1 hn.2
    rw [J_rs h hn.1 hn.2]
    by_cases hc : t 395 (803 + 9 * n) = 1 ∧ 0 ≤ l ∧ l ≤ 9
    · rw [if_pos ⟨⟨hn, hc.1⟩, hc.2⟩, if_pos ⟨⟨hn, hs.mpr hc.1⟩, hc.2⟩]
    · rw [if_neg (fun q => hc ⟨q.1.2, q.2⟩), if_neg (fun q => hc ⟨hs.mp q.1.2, q.2⟩)]
  · rw [if_neg (fun q => hn q.1.1), if_neg (fun q => hn q.1.1)]
theorem J_best (h : SR s 1 (t 395)) {n w : Int32} : (if ((0 ≤ n ∧ n < t 395 1) ∧ t 395 (803 + 9 * n) = 1) ∧ 0 ≤ w ∧ w ≤ 1 then (if w = 0 then (mBs t n).1 else (mBs t n).2) else -1) = (if ((0 ≤ n ∧ n < s 1 4) ∧ s (zel 4 n) 0 ≠ 0) ∧ 0 ≤ w ∧ w ≤ 1 then (if w = 0 then (qBs s n).1 else (qBs s n).2) else -1) := by
  rw [h.2.1.2.1]
  by_cases hn : 0 ≤ n ∧ n < t 395 1
  · have hs := SR_st h hn.1 hn.2
    have e : mBs t n = qBs s n := by
      unfold mBs qBs
      rw [J_rs h hn.1 hn.2]
      refine zit_congr (by decide) (fun l x _ _ => ?_)
      unfold mbs1 bs1
      rw [J_rs h hn.1 hn.2]
    rw [e]
    by_cases hc : t 395 (803 + 9 * n) = 1 ∧ 0 ≤ w ∧ w ≤ 1
    · exact (if_pos ⟨⟨hn, hc.1⟩, hc.2⟩).trans (if_pos ⟨⟨hn, hs.mpr hc.1⟩, hc.2⟩).symm
    · rw [if_neg (fun q => hc ⟨q.1.2, q.2⟩), if_neg (fun q => hc ⟨hs.mp q.1.2, q.2⟩)]
  · rw [if_neg (fun q => hn q.1.1), if_neg (fun q => hn q.1.1)]
theorem J_idle (h : SR s 1 (t 395)) {F : Int32 → Int32} (hF : ∀ j, 0 ≤ j → j < t 395 1 → t 395 (803 + 9 * j) = 1 → mId t j (F j)) : zit (mid1 t F) 0 (t 395 1) = zit (id1 s) 0 (s 1 4) := by
  have hb := SR_b h
  rw [h.2.1.2.1]
  refine zit_congr hb.2.1.1 (fun k x k0 k1 => ?_)
  unfold mid1 id1
  have hs := SR_st h k0 k1
  by_cases hz : t 395 (803 + 9 * k) = 1
  · have hq : qId s k (qIb s k) := by
      unfold qId qIb
      rcases zit_all (fun j => cS s k (-1) 0 j ≠ nS s j) h.1.1.1 with ⟨e, j, j0, j1, hj⟩ | ⟨e, hj⟩
      · exact Or.inr ⟨e, j, j0, j1, hj⟩
      · exact Or.inl ⟨e, fun j j0 j1 => Classical.not_not.mp (hj j j0 j1)⟩
    have hf := J_id h k0 hq (hF k k0 k1 hz)
    rw [hf]
    by_cases hc : qIb s k ≠ 0
    · rw [if_pos ⟨hz, hc⟩, if_pos ⟨hs.mpr hz, hc⟩]
    · rw [if_neg (fun q => hc q.2), if_neg (fun q => hc q.2)]; simp
  · rw [if_neg (fun q => hz q.1), if_neg (fun q => hz (hs.mp q.1))]; simp
end
