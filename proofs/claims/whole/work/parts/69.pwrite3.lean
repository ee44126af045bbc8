/-! writing: all that is written is alike -/
theorem wOps_e {s : Int32} {a : zSig} : wOps s a = wOp s 5 (wOp s 4 (wOp s 3 (wOp s 2 (wOp s 1 (wOp s 0 a))))) := rfl
theorem hq_fl {x : z3} (hx : inR x) {c g : Int32} (hc : fKd c ≠ -1) (h9 : ¬ c = 99) (h2 : ¬ c = 122) (eg : gFl c = g) : (decide (¬ x.1 &&& g = 0) = true ↔ fMv (f3 x) (fKd c) ≠ -1) ∧ (fMv (f3 x) (fKd c) ≠ -1 → WV c (fMv (f3 x) (fKd c)) 0) := by
  rw [fMv_v hx hc, if_neg h9, if_neg h2, eg, decide_eq_true_iff]
  by_cases hz : x.1 &&& g = 0
  · rw [if_pos hz]
    exact ⟨⟨fun q => absurd hz q, fun q => absurd rfl q⟩, fun q => absurd rfl q⟩
  · rw [if_neg hz]
    exact ⟨⟨fun _ => by decide, fun _ => hz⟩, fun _ => ⟨fun q => absurd q h9, fun q => absurd q h2, fun _ _ => rfl⟩⟩
theorem hq_co {x : z3} (hx : inR x) : (decide (¬ x.2.1 = 0) = true ↔ fMv (f3 x) (fKd 99) ≠ -1) ∧ (fMv (f3 x) (fKd 99) ≠ -1 → WV 99 (fMv (f3 x) (fKd 99)) x.2.1) := by
  rw [fMv_v hx (by decide), if_pos rfl, decide_eq_true_iff]
  by_cases hz : x.2.1 = 0
  · rw [if_pos hz]
    exact ⟨⟨fun q => absurd hz q, fun q => absurd rfl q⟩, fun q => absurd rfl q⟩
  · rw [if_neg hz]
    exact ⟨⟨fun _ => ne1 hx.2.1.1, fun _ => hz⟩, fun _ => ⟨fun _ => ⟨rfl, hz, hx.2.1.1, Int32.le_trans hx.2.1.2 (by decide)⟩, fun q => absurd q (by decide), fun q => absurd rfl q⟩⟩
theorem hq_si {x : z3} (hx : inR x) : (decide (¬ x.2.2 = 4) = true ↔ fMv (f3 x) (fKd 122) ≠ -1) ∧ (fMv (f3 x) (fKd 122) ≠ -1 → WV 122 (fMv (f3 x) (fKd 122)) x.2.2) := by
  rw [fMv_v hx (by decide), if_neg (by decide : ¬ (122 : Int32) = 99), if_pos rfl, decide_eq_true_iff]
  by_cases hz : x.2.2 = 4
  · rw [if_pos hz]
    exact ⟨⟨fun q => absurd hz q, fun q => absurd rfl q⟩, fun q => absurd rfl q⟩
  · rw [if_neg hz]
    exact ⟨⟨fun _ => ne1 hx.2.2.1, fun _ => hz⟩, fun _ => ⟨fun q => absurd q (by decide), fun _ => ⟨rfl, hz, hx.2.2.1, hx.2.2.2⟩, fun _ q => absurd rfl q⟩⟩
theorem b_6 {b : Int32} (b0 : 0 ≤ b) (b1 : b ≤ 80000) : b ≤ 90000 ∧ b + 4 ≤ 90000 ∧ b + 4 + 4 ≤ 90000 ∧ b + 4 + 4 + 4 ≤ 90000 ∧ b + 4 + 4 + 4 + 4 ≤ 90000 ∧ b + 4 + 4 + 4 + 4 + 4 ≤ 90000 ∧ b + 4 + 4 + 4 + 4 + 4 + 4 = b + 24 := by
  refine ⟨by lia, by lia, by lia, by lia, by lia, by lia, by grind⟩
set_option maxHeartbeats 2000000 in
theorem W_ops {a m : zSig} {b : Int32} {x : z3} (h : WR a m b) (b1 : b ≤ 80000) (hx : inR x) : WR (wOps (f3 x) a) (mOps x m) (b + 24) ∧ (AllH x m → PI x (mOps x m)) := by
  obtain ⟨w0, w1, w2, w3, w4, w5, w6⟩ := b_6 (WR_b h) b1
  have f0 := hq_fl hx (c := 98) (g := 1) (by decide) (by decide) (by decide) (by decide)
  have f1 := hq_fl hx (c := 105) (g := 2) (by decide) (by decide) (by decide) (by decide)
  have f2 := hq_fl hx (c := 117) (g := 4) (by decide) (by decide) (by decide) (by decide)
  have f3' := hq_fl hx (c := 115) (g := 8) (by decide) (by decide) (by decide) (by decide)
  have f4 := hq_co hx
  have f5 := hq_si hx
  obtain ⟨a0, p0, q0, r0⟩ := W_op h w0 hx (by decide) f0.1 f0.2
  obtain ⟨a1, p1, q1, r1⟩ := W_op a0 w1 hx (by decide) f1.1 f1.2
  obtain ⟨a2, p2, q2, r2⟩ := W_op a1 w2 hx (by decide) f2.1 f2.2
  obtain ⟨a3, p3, q3, r3⟩ := W_op a2 w3 hx (by decide) f3'.1 f3'.2
  obtain ⟨a4, p4, q4, r4⟩ := W_op a3 w4 hx (by decide) f4.1 f4.2
  obtain ⟨a5, p5, q5, r5⟩ := W_op a4 w5 hx (by decide) f5.1 f5.2
  rw [wOps_e]
  unfold mOps
  refine ⟨?_, fun g => ⟨p5 (p4 (p3 (p2 (p1 (p0 g))))), fun c hc hn => ?_⟩⟩
  · rw [← w6]; exact a5
  · rcases fK_v hc with rfl | rfl | rfl | rfl | rfl | rfl
    · exact q5 _ (q4 _ (q3 _ (q2 _ (q1 _ (r0 (f0.1.mpr hn))))))
    · exact q5 _ (q4 _ (q3 _ (q2 _ (r1 (f1.1.mpr hn)))))
    · exact q5 _ (q4 _ (q3 _ (r2 (f2.1.mpr hn))))
    · exact q5 _ (q4 _ (r3 (f3'.1.mpr hn)))
    · exact q5 _ (r4 (f4.1.mpr hn))
    · exact r5 (f5.1.mpr hn)
theorem b_mk {b : Int32} (b0 : 0 ≤ b) (b1 : b ≤ 70000) : b ≤ 80000 ∧ b + 32 ≤ 80000 ∧ b + 32 + 24 = b + 56 := by
  refine ⟨by lia, by lia, by grind⟩
theorem W_mks {a m : zSig} {b : Int32} {x : z3} (h : WR a m b) (b1 : b ≤ 70000) (hx : inR x) : WR (wOps (f3 x) (wClT a (wFu a (f3 x)))) (mMks x m) (b + 56) ∧ PI x (mMks x m) := by
  obtain ⟨w0, w1, w2⟩ := b_mk (WR_b h) b1
  have o := h.2.2.2.2.1
  have f := mFu_or (t := x) o.1.1
  obtain ⟨c1, c2, c3⟩ := W_clT h w0 f.1.1 f.1.2
  obtain ⟨d1, d2⟩ := W_ops c1 w1 hx
  unfold mMks
  rw [W_fu h hx, ← w2]
  refine ⟨d1, d2 (fun j j0 j1 => ?_)⟩
  rw [c2] at j1
  rw [mHs_c (sg := m) (c3 406 j (by decide) (by decide)) (c3 407 j (by decide) (by decide))]
  exact f.2.1 j j0 j1
theorem mOo_id {m : zSig} {c d : Int32} {q : Bool} (o : 0 ≤ m 393 25) (h : q = true → Has m c) : mOo q c d m = m := by
  unfold mOo
  by_cases hq : q = true
  · rw [if_pos hq]
    obtain ⟨j, j0, j1, j2⟩ := h hq
    rcases mIo_or (c := c) o with ⟨i1, -⟩ | ⟨-, i2⟩
    · exact if_pos (by rw [i1]; decide)
    · exact absurd j2 (i2 j j0 j1)
  · exact if_neg hq
theorem P_id {m : zSig} {x : z3} (hx : inR x) (o : 0 ≤ m 393 25) (h : PI x m) : mMks x m = m := by
  have f := mFu_or (t := x) o
  have e : mFu x m = m 393 25 := by
    refine Decidable.byContradiction (fun q => ?_)
    have hl : mFu x m < m 393 25 := Int32.lt_of_le_of_ne f.1.2 q
    exact f.2.2 hl (h.1 _ f.1.1 hl)
  have f0 := hq_fl hx (c := 98) (g := 1) (by decide) (by decide) (by decide) (by decide)
  have f1 := hq_fl hx (c := 105) (g := 2) (by decide) (by decide) (by decide) (by decide)
  have f2 := hq_fl hx (c := 117) (g := 4) (by decide) (by decide) (by decide) (by decide)
  have f3' := hq_fl hx (c := 115) (g := 8) (by decide) (by decide) (by decide) (by decide)
  have ec : mClT m (m 393 25) = m := by unfold mClT; rw [zmu_self]; rfl
  unfold mMks
  rw [e, ec]
  unfold mOps
  rw [mOo_id o (fun g => h.2 98 (by decide) (f0.1.mp g)), mOo_id o (fun g => h.2 105 (by decide) (f1.1.mp g)), mOo_id o (fun g => h.2 117 (by decide) (f2.1.mp g)), mOo_id o (fun g => h.2 115 (by decide) (f3'.1.mp g)), mOo_id o (fun g => h.2 99 (by decide) ((hq_co hx).1.mp g)), mOo_id o (fun g => h.2 122 (by decide) ((hq_si hx).1.mp g))]
theorem PI_c {x : z3} {m m' : zSig} (h : PI x m) (e : m' 393 25 = m 393 25) (e6 : ∀ j, m' 406 j = m 406 j) (e7 : ∀ j, m' 407 j = m 407 j) : PI x m' := by
  refine ⟨fun j j0 j1 => ?_, fun c hc hn => ?_⟩
  · rw [e] at j1
    rw [mHs_c (e6 j) (e7 j)]; exact h.1 j j0 j1
  · obtain ⟨j, j0, j1, j2⟩ := h.2 c hc hn
    exact ⟨j, j0, by rw [e]; exact j1, by rw [e6]; exact j2⟩
theorem hSt_g {x : z3} {m : zSig} {c : Nat} {j : Int32} (h : c ≠ 393 ∨ (j ≠ 16 ∧ j ≠ 17 ∧ j ≠ 18)) : hSt x m c j = m c j := by
  unfold hSt
  rw [zup_e, if_neg (fun q => h.elim (fun g => g q.1) (fun g => g.2.2 q.2)), zup_e, if_neg (fun q => h.elim (fun g => g q.1) (fun g => g.2.1 q.2)), zup_e, if_neg (fun q => h.elim (fun g => g q.1) (fun g => g.1 q.2))]
theorem W_st {a m : zSig} {b : Int32} {x : z3} (h : WR a m b) : WR a (hSt x m) b := by
  obtain ⟨h1, h2, h3, h4, h5, h6⟩ := h
  have e27 : hSt x m 393 27 = m 393 27 := hSt_g (by decide)
  have e25 : hSt x m 393 25 = m 393 25 := hSt_g (by decide)
  have e6 : ∀ j, hSt x m 406 j = m 406 j := fun j => hSt_g (Or.inl (by decide))
  have e7 : ∀ j, hSt x m 407 j = m 407 j := fun j => hSt_g (Or.inl (by decide))
  have e8 : ∀ j, hSt x m 408 j = m 408 j := fun j => hSt_g (Or.inl (by decide))
  refine ⟨h1, by rw [e27]; exact h2, fun j j0 j1 j4 => ?_, by rw [e25]; exact h4, okO_cl h5 (by rw [e25]; exact h5.1.1) (by rw [e25]; exact Int32.le_refl _) e6, fun k k0 k1 => ?_⟩
  · rw [e27] at j1; rw [e8]; exact h3 j j0 j1 j4
  · rw [e25] at k1; rw [e6, e7]; exact h6 k k0 k1
theorem nI_sc (j : Nat) : nI (j + 1) = nI j + 1 := Int32.ofNat_add j 1
theorem zit_relk {A B : Type} (R : Int32 → A → B → Prop) {f : Int32 → A → A} {g : Int32 → B → B} {a : A} {b : B} {n : Int32} (hn : 0 ≤ n) (h0 : R 0 a b) (hs : ∀ k x y, 0 ≤ k → k < n → R k x y → R (k + 1) (f k x) (g k y)) : R n (zit f a n) (zit g b n) := by
  obtain ⟨m, hm, rfl⟩ := znn hn
  have key : ∀ j : Nat, j ≤ m → R (nI j) (zitN f a j) (zitN g b j) := by
    intro j
    induction j with
    | zero => intro _; exact h0
    | succ j ih =>
      intro hj
      have := hs (nI j) _ _ (nI_pos' (by omega)) (nI_lt (by omega) (by omega)) (ih (by omega))
      rw [← nI_sc] at this
      exact this
  unfold zit
  rw [nI_clamp hm]
  exact key m (Nat.le_refl _)
theorem b_lp {k : Int32} (k0 : 0 ≤ k) (k1 : k < 200) : 60 * k ≤ 70000 ∧ 60 * k ≤ 60 * k + 56 ∧ 60 * k + 56 ≤ 100000 ∧ 60 * k + 56 + 1 ≤ 60 * (k + 1) ∧ 0 < k + 1 ∧ k + 1 - 1 = k := by
  refine ⟨by lia, by lia, by lia, by lia, by lia, by grind⟩
theorem k_pos {k : Int32} (k0 : 0 ≤ k) (h : ¬ k = 0) : 0 < k ∧ 0 ≤ k - 1 ∧ k - 1 < k := by lia
theorem b_60 {n : Int32} (n0 : 0 ≤ n) (n1 : n ≤ 200) : 60 * n ≤ 12000 := by lia
set_option maxHeartbeats 2000000 in
theorem W_loop {s t sg0 : zSig} (hR : R2 s t) (hl : hLk s sg0) : WR (zit (wSt (sg0 2) (sg0 314)) (wI sg0) (sg0 1 2)) (mWl t) 12000 := by
  have hb := SR_b hR.1.1
  have n0 := hb.1.1
  have n1 := hb.1.2
  have e2 := hR.1.1.2.1.1
  have en : sg0 1 2 = t 395 0 := by rw [hl.1 1 2 (by decide) (by decide) (by decide)]; exact e2
  have sty : ∀ k, 0 ≤ k → k < t 395 0 → sg0 314 k = f3 (mS t (-1) k) ∧ inR (mS t (-1) k) := fun k k0 k1 => by
    rw [hl.2.2.2 k k0 (by rw [e2]; exact k1)]; exact SR_style hR.1.1 k0 k1
  unfold mWl
  rw [en]
  have key := zit_relk (fun k y z => WR y z (60 * k) ∧ (0 < k → PI (mS t (-1) (k - 1)) z)) (f := wSt (sg0 2) (sg0 314)) (g := mWst t) (a := wI sg0) (b := mWI t) n0 ?_ ?_
  · exact WR_le key.1 (b_60 n0 n1)
  · refine ⟨?_, fun q => absurd q (by decide)⟩
    have a1 : wI sg0 322 1 = 0 := by unfold wI; rw [zup_i (by decide), zup_s]
    have a4 : wI sg0 322 4 = 0 := by unfold wI; rw [zup_s]
    have m27 : mWI t 393 27 = 0 := by unfold mWI; rw [zup_i (by decide), zup_s]
    have m25 : mWI t 393 25 = 0 := by unfold mWI; rw [zup_s]
    refine ⟨okM_move hR.1.2.2.2 (fun j => by unfold wI; rw [zup_a (by decide), zup_a (by decide)]; exact hl.1 100000 j (by decide) (by decide) (Or.inl (by decide))), by rw [a1, m27]; decide, fun j j0 j1 => ?_, by rw [a4, m25], ⟨by rw [m25]; decide, fun j j0 j1 => ?_, fun i j i0 i1 j1 => ?_⟩, fun j j0 j1 => ?_⟩
    · rw [m27] at j1; exact absurd (Int32.lt_of_le_of_lt j0 j1) (by decide)
    · rw [m25] at j1; exact absurd (Int32.lt_of_le_of_lt j0 j1) (by decide)
    · rw [m25] at j1; exact absurd (Int32.lt_trans (Int32.lt_of_le_of_lt i0 i1) j1) (by decide)
    · rw [m25] at j1; exact absurd (Int32.lt_of_le_of_lt j0 j1) (by decide)
  · rintro k y z k0 k1 ⟨w, p⟩
    obtain ⟨b1, b2, b3, b4, b5, b6⟩ := b_lp k0 (Int32.lt_of_lt_of_le k1 n1)
    obtain ⟨ex, hx⟩ := sty k k0 k1
    have l := hR.1.1.2.2.1 k k0 k1
    have el : sg0 2 k = t 395 (3 + 4 * k) := by rw [hl.1 2 k (by decide) (by decide) (Or.inl (by decide))]; exact l.1
    have w' := W_st (x := mS t (-1) k) w
    have o' := w'.2.2.2.2.1.1.1
    have mid : WR (if bg (sg0 314) k = 0 then y else wOps (sg0 314 k) (wClT y (wFu y (sg0 314 k)))) (mMks (mS t (-1) k) (hSt (mS t (-1) k) z)) (60 * k + 56) ∧ PI (mS t (-1) k) (mMks (mS t (-1) k) (hSt (mS t (-1) k) z)) := by
      by_cases hg : k = 0 ∨ sg0 314 k ≠ sg0 314 (k - 1)
      · have e1 : bg (sg0 314) k = 1 := if_pos hg
        rw [e1, if_neg (by decide), ex]
        exact W_mks w' b1 hx
      · have e1 : bg (sg0 314) k = 0 := if_neg hg
        have kz : ¬ k = 0 := fun q => hg (Or.inl q)
        have es : sg0 314 k = sg0 314 (k - 1) := Decidable.byContradiction (fun q => hg (Or.inr q))
        obtain ⟨kp, km, kl⟩ := k_pos k0 kz
        obtain ⟨ex', hx'⟩ := sty (k - 1) km (Int32.lt_trans kl k1)
        have exx : mS t (-1) k = mS t (-1) (k - 1) := f3_inj hx hx' (by rw [← ex, ← ex']; exact es)
        have pp : PI (mS t (-1) k) (hSt (mS t (-1) k) z) := by
          have := p kp
          rw [← exx] at this
          exact PI_c this (hSt_g (by decide)) (fun j => hSt_g (Or.inl (by decide))) (fun j => hSt_g (Or.inl (by decide)))
        rw [e1, if_pos rfl, P_id hx o' pp]
        exact ⟨WR_le w' b2, pp⟩
    refine ⟨?_, fun _ => ?_⟩
    · show WR (wSt (sg0 2) (sg0 314) k y) (mWst t k z) _
      unfold wSt mWst
      rw [el]
      exact WR_le (W_put mid.1 b3 l.2.1) b4
    · rw [b6]
      show PI _ (mWst t k z)
      unfold mWst
      exact PI_c mid.2 (hPu_f (by decide) (by decide)) (fun j => hPu_f (by decide) (Or.inl (by decide))) (fun j => hPu_f (by decide) (Or.inl (by decide)))
theorem W_all {s t sg0 : zSig} (hR : R2 s t) (hl : hLk s sg0) : WR (wAll sg0) (mWall t) 12032 := by
  have h := W_loop hR hl
  exact (W_clT (d := 0) h (by decide) (by decide) h.2.2.2.2.1.1.1).1
