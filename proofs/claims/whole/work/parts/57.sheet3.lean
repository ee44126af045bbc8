/-! the sheet and the row when letters move -/
theorem zit_tail {A : Type} {f : Int32 → A → A} {a : A} {n m : Int32} (n0 : 0 ≤ n) (nm : n ≤ m) (h : ∀ j x, n ≤ j → j < m → f j x = x) : zit f a m = zit f a n := by
  obtain ⟨i, hi, rfl⟩ := znn n0
  obtain ⟨k, hk, rfl⟩ := znn (Int32.le_trans n0 nm)
  have hik : i ≤ k := (nI_leI hi hk).mp nm
  have key : ∀ d : Nat, i + d ≤ k → zitN f a (i + d) = zitN f a i := by
    intro d
    induction d with
    | zero => intro _; rfl
    | succ d ih =>
      intro hd
      show f (nI (i + d)) (zitN f a (i + d)) = _
      rw [h _ _ (nI_le (by omega) (by omega)) (nI_lt (by omega) (by omega))]
      exact ih (by omega)
  unfold zit
  rw [nI_clamp hi, nI_clamp hk]
  have := key (k - i) (by omega)
  rw [show i + (k - i) = k by omega] at this
  exact this
theorem pBk_lt {a b f u n : Int32} (a0 : 0 ≤ a) (ab : a < b) (b1 : b ≤ n) (f0 : 0 ≤ f) (fu : f < u) (un : u ≤ n) (n1 : n ≤ 200) (h : ¬ (f ≤ a ∧ b ≤ u)) : pBk a f u < pBk b f u := by
  unfold pBk
  by_cases h1 : u ≤ a
  · rw [if_pos h1, if_pos (by lia)]; lia
  · rw [if_neg h1]
    by_cases h2 : a ≤ f
    · rw [if_pos h2]
      by_cases h3 : u ≤ b
      · rw [if_pos h3]; lia
      · rw [if_neg h3]; split <;> lia
    · rw [if_neg h2, if_pos (by lia)]; lia
theorem mv_th {f u r n : Int32} (f0 : 0 ≤ f) (fu : f < u) (un : u ≤ n) (n1 : n ≤ 200) (r0 : 0 ≤ r) (r1 : r ≤ n) (hr : ¬ (f ≤ r ∧ r ≤ u)) : 0 ≤ pLd f u r ∧ pLd f u r + (u - f) ≤ n ∧ pLd f u r ≤ 200 := by
  unfold pLd; split <;> lia
theorem ar_m1 {i d th n : Int32} (i0 : 0 ≤ i) (h : i < th) (d0 : 0 < d) (d2 : d ≤ 200) (th2 : th ≤ 200) (th1 : th + d ≤ n) : 0 ≤ i + d ∧ i + d < n := ⟨by lia, by lia⟩
theorem ar_m2 {i d f th n : Int32} (f0 : 0 ≤ f) (th0 : 0 ≤ th) (h1 : th ≤ i) (h : i < th + d) (d0 : 0 < d) (d2 : d ≤ 200) (f2 : f ≤ 200) (th2 : th ≤ 200) (fd : f + d ≤ n) : 0 ≤ f + (i - th) ∧ f + (i - th) < n := by
  obtain ⟨x, hx⟩ : ∃ x, x = i - th := ⟨_, rfl⟩
  have x0 : 0 ≤ x := by lia
  have x1 : x < d := by lia
  rw [← hx]
  clear hx h h1
  exact ⟨by lia, by lia⟩
theorem ar_m3 {i d th n : Int32} (th0 : 0 ≤ th) (i1 : i < n) (h : ¬ i < th + d) (d0 : 0 < d) (d2 : d ≤ 200) (th2 : th ≤ 200) : 0 ≤ i - d ∧ i - d < n := ⟨by lia, by lia⟩
theorem ar_go {A B th d f u n : Int32} (a0 : 0 ≤ A) (ab : A < B) (bn : B ≤ n) (fa : f ≤ A) (bu : B ≤ u) (th0 : 0 ≤ th) (th1 : th + d ≤ n) (th2 : th ≤ 200) (hu : u = f + d) (f0 : 0 ≤ f) (f2 : f ≤ 200) (d0 : 0 < d) (d2 : d ≤ 200) (n1 : n ≤ 200) : 0 ≤ A + (th - f) ∧ A + (th - f) < B + (th - f) ∧ B + (th - f) ≤ n := by
  obtain ⟨x, hx⟩ : ∃ x, x = A - f := ⟨_, rfl⟩
  obtain ⟨y, hy⟩ : ∃ y, y = B - f := ⟨_, rfl⟩
  have eA : A + (th - f) = x + th := by rw [hx]; grind
  have eB : B + (th - f) = y + th := by rw [hy]; grind
  have x0 : 0 ≤ x := by lia
  have y1 : y ≤ d := by lia
  have xy : x < y := by lia
  rw [eA, eB]
  clear eA eB hx hy fa bu ab bn a0 hu
  exact ⟨by lia, by lia, by lia⟩
theorem ar_ga {A th d f u n : Int32} (a0 : 0 ≤ A) (an : A ≤ n) (fa : f < A) (au : A < u) (th0 : 0 ≤ th) (th1 : th + d ≤ n) (th2 : th ≤ 200) (hu : u = f + d) (f0 : 0 ≤ f) (f2 : f ≤ 200) (d0 : 0 < d) (d2 : d ≤ 200) (n1 : n ≤ 200) : 0 ≤ A + (th - f) ∧ A + (th - f) ≤ n := by
  obtain ⟨x, hx⟩ : ∃ x, x = A - f := ⟨_, rfl⟩
  have eA : A + (th - f) = x + th := by rw [hx]; grind
  have x0 : 0 ≤ x := by lia
  have y1 : x ≤ d := by lia
  rw [eA]
  clear eA hx fa au an a0 hu
  exact ⟨by lia, by lia⟩
/-- where a letter comes from -/
theorem mv_src {f d th n i : Int32} (f0 : 0 ≤ f) (d0 : 0 < d) (fd : f + d ≤ n) (n1 : n ≤ 200) (th0 : 0 ≤ th) (th1 : th + d ≤ n) (th2 : th ≤ 200) (d2 : d ≤ 200) (f2 : f ≤ 200) (i0 : 0 ≤ i) (i1 : i < n) : ∃ j, (0 ≤ j ∧ j < n) ∧ ((th ≤ i ∧ i < th + d ∧ j = f + (i - th)) ∨ (i < th ∧ i < f ∧ j = i) ∨ (i < th ∧ ¬ i < f ∧ j = i + d) ∨ (¬ i < th ∧ ¬ i < th + d ∧ i - d < f ∧ j = i - d) ∨ (¬ i < th ∧ ¬ i < th + d ∧ ¬ i - d < f ∧ j = i)) := by
  by_cases h1 : i < th
  · by_cases h2 : i < f
    · exact ⟨i, ⟨i0, i1⟩, Or.inr (Or.inl ⟨h1, h2, rfl⟩)⟩
    · exact ⟨i + d, ar_m1 i0 h1 d0 d2 th2 th1, Or.inr (Or.inr (Or.inl ⟨h1, h2, rfl⟩))⟩
  · by_cases h2 : i < th + d
    · exact ⟨f + (i - th), ar_m2 f0 th0 (by lia) h2 d0 d2 f2 th2 fd, Or.inl ⟨by lia, h2, rfl⟩⟩
    · by_cases h3 : i - d < f
      · exact ⟨i - d, ar_m3 th0 i1 h2 d0 d2 th2, Or.inr (Or.inr (Or.inr (Or.inl ⟨h1, h2, h3, rfl⟩)))⟩
      · exact ⟨i, ⟨i0, i1⟩, Or.inr (Or.inr (Or.inr (Or.inr ⟨h1, h2, h3, rfl⟩)))⟩
theorem mv_cls {S : Int32 → Int32} {f d u th n i j : Int32} (hu : u = f + d) (f0 : 0 ≤ f) (d0 : 0 < d) (fd : f + d ≤ n) (n1 : n ≤ 200) (th0 : 0 ≤ th) (th1 : th + d ≤ n) (th2 : th ≤ 200) (d2 : d ≤ 200) (f2 : f ≤ 200) (i0 : 0 ≤ i) (i1 : i < n) (h : (th ≤ i ∧ i < th + d ∧ j = f + (i - th)) ∨ (i < th ∧ i < f ∧ j = i) ∨ (i < th ∧ ¬ i < f ∧ j = i + d) ∨ (¬ i < th ∧ ¬ i < th + d ∧ i - d < f ∧ j = i - d) ∨ (¬ i < th ∧ ¬ i < th + d ∧ ¬ i - d < f ∧ j = i)) : lMv S f u th i = S j := by
  have e : u - f = d := by lia
  unfold lMv lOut
  rw [e]
  rcases h with ⟨h1, h2, h3⟩ | ⟨h1, h2, h3⟩ | ⟨h1, h2, h3⟩ | ⟨h1, h2, h3, h4⟩ | ⟨h1, h2, h3, h4⟩
  · rw [if_pos ⟨h1, h2⟩, h3]
  · rw [if_neg (by lia), if_pos h1, if_pos h2, h3]
  · rw [if_neg (by lia), if_pos h1, if_neg h2, h3]
  · rw [if_neg (by lia), if_neg h1, if_pos h3, h4]
  · rw [if_neg (by lia), if_neg h1, if_neg h3, h4]; congr 1; grind
/-- the letters of the row -/
theorem mv_let {R r3 r4 r5 M : Int32 → Int32} {f d th n i j x : Int32} (f0 : 0 ≤ f) (d0 : 0 < d) (fd : f + d ≤ n) (n1 : n ≤ 200) (th0 : 0 ≤ th) (th1 : th + d ≤ n) (th2 : th ≤ 200) (d2 : d ≤ 200) (f2 : f ≤ 200) (i0 : 0 ≤ i) (i1 : i < n) (h3 : ∀ q, 3 ≤ q → q < 3 + 4 * (n - d) → r3 q = if q < 3 + 4 * f then R q else R (q + 4 * d)) (h4 : ∀ q, 3 ≤ q → q < 803 → r4 q = if 3 + 4 * th + 4 * d ≤ q ∧ q < 3 + 4 * (n - d) + 4 * d then r3 (q - 4 * d) else r3 q) (h5 : ∀ q, q < 803 → r5 q = if 3 + 4 * th ≤ q ∧ q < 3 + 4 * th + 4 * d then M (q - (3 + 4 * th)) else r4 q) (hM : ∀ q, 0 ≤ q → q < 4 * d → M q = R (3 + 4 * f + q)) (x0 : 0 ≤ x) (x3 : x < 4)
    (h : (th ≤ i ∧ i < th + d ∧ j = f + (i - th)) ∨ (i < th ∧ i < f ∧ j = i) ∨ (i < th ∧ ¬ i < f ∧ j = i + d) ∨ (¬ i < th ∧ ¬ i < th + d ∧ i - d < f ∧ j = i - d) ∨ (¬ i < th ∧ ¬ i < th + d ∧ ¬ i - d < f ∧ j = i)) : r5 (3 + 4 * i + x) = R (3 + 4 * j + x) := by
  have hn0 : 0 ≤ n := Int32.le_trans i0 (Int32.le_of_lt i1)
  obtain ⟨a, ha, rfl⟩ := znn f0
  obtain ⟨b, hb, rfl⟩ := znn (Int32.le_of_lt d0)
  obtain ⟨c, hc, rfl⟩ := znn th0
  obtain ⟨m, hm, rfl⟩ := znn hn0
  obtain ⟨k, hk, rfl⟩ := znn i0
  obtain ⟨y, hy, rfl⟩ := znn x0
  have ba : a ≤ 200 := (nI_leI ha (by decide)).mp f2
  have bb : b ≤ 200 := (nI_leI hb (by decide)).mp d2
  have bc : c ≤ 200 := (nI_leI hc (by decide)).mp th2
  have bm : m ≤ 200 := (nI_leI hm (by decide)).mp n1
  have by4 : y < 4 := (nI_ltI hy (by decide)).mp x3
  have bk : k < m := (nI_ltI hk hm).mp i1
  have b0 : 0 < b := (nI_ltI (a := 0) (by decide) hb).mp d0
  rw [nI_add] at fd th1
  have e1 : a + b ≤ m := (nI_leI (by omega) hm).mp fd
  have e2 : c + b ≤ m := (nI_leI (by omega) hm).mp th1
  have h3' : ∀ q : Nat, 3 ≤ q → q < 3 + 4 * (m - b) → r3 (nI q) = if q < 3 + 4 * a then R (nI q) else R (nI (q + 4 * b)) := by
    intro q q0 q1
    rw [h3 (nI q) (nI_le (a := 3) q0 (by omega)) (by show nI q < nI 3 + nI 4 * (nI m - nI b); rw [pk_sub (by omega), pk_mul, nI_add]; exact nI_lt q1 (by omega))]
    by_cases hq : q < 3 + 4 * a
    · rw [if_pos hq, if_pos (by show nI q < nI 3 + nI 4 * nI a; rw [pk_mul, nI_add]; exact nI_lt hq (by omega))]
    · rw [if_neg hq, if_neg (by show ¬ nI q < nI 3 + nI 4 * nI a; rw [pk_mul, nI_add]; exact nI_nlt (by omega) (by omega))]
      show R (nI q + nI 4 * nI b) = _; rw [pk_mul, nI_add]
  have h4' : ∀ q : Nat, 3 ≤ q → q < 803 → r4 (nI q) = if 3 + 4 * c + 4 * b ≤ q ∧ q < 3 + 4 * m then r3 (nI (q - 4 * b)) else r3 (nI q) := by
    intro q q0 q1
    rw [h4 (nI q) (nI_le (a := 3) q0 (by omega)) (nI_lt (b := 803) q1 (by decide))]
    have x1 : (3 + 4 * nI c + 4 * nI b : Int32) = nI (3 + 4 * c + 4 * b) := by show nI 3 + nI 4 * nI c + nI 4 * nI b = _; rw [pk_mul, pk_mul, nI_add, nI_add]
    have x2 : (3 + 4 * (nI m - nI b) + 4 * nI b : Int32) = nI (3 + 4 * m) := by show nI 3 + nI 4 * (nI m - nI b) + nI 4 * nI b = _; rw [pk_sub (by omega), pk_mul, pk_mul, nI_add, nI_add]; congr 1; omega
    rw [x1, x2]
    by_cases hq : 3 + 4 * c + 4 * b ≤ q ∧ q < 3 + 4 * m
    · rw [if_pos hq, if_pos ⟨nI_le hq.1 (by omega), nI_lt hq.2 (by omega)⟩]
      show r3 (nI q - nI 4 * nI b) = _; rw [pk_mul, pk_sub (by omega)]
    · rw [if_neg hq, if_neg (fun z => hq ⟨(nI_leI (by omega) (by omega)).mp z.1, (nI_ltI (by omega) (by omega)).mp z.2⟩)]
  have h5' : ∀ q : Nat, q < 803 → r5 (nI q) = if 3 + 4 * c ≤ q ∧ q < 3 + 4 * c + 4 * b then M (nI (q - (3 + 4 * c))) else r4 (nI q) := by
    intro q q1
    rw [h5 (nI q) (nI_lt (b := 803) q1 (by decide))]
    have x1 : (3 + 4 * nI c + 4 * nI b : Int32) = nI (3 + 4 * c + 4 * b) := by show nI 3 + nI 4 * nI c + nI 4 * nI b = _; rw [pk_mul, pk_mul, nI_add, nI_add]
    have x2 : (3 + 4 * nI c : Int32) = nI (3 + 4 * c) := by show nI 3 + nI 4 * nI c = _; rw [pk_mul, nI_add]
    rw [x1, x2]
    by_cases hq : 3 + 4 * c ≤ q ∧ q < 3 + 4 * c + 4 * b
    · rw [if_pos hq, if_pos ⟨nI_le hq.1 (by omega), nI_lt hq.2 (by omega)⟩, pk_sub hq.1]
    · rw [if_neg hq, if_neg (fun z => hq ⟨(nI_leI (by omega) (by omega)).mp z.1, (nI_ltI (by omega) (by omega)).mp z.2⟩)]
  have hM' : ∀ q : Nat, q < 4 * b → M (nI q) = R (nI (3 + 4 * a + q)) := by
    intro q q1
    rw [hM (nI q) (nI_pos' (by omega)) (by show nI q < nI 4 * nI b; rw [pk_mul]; exact nI_lt q1 (by omega))]
    show R (nI 3 + nI 4 * nI a + nI q) = _; rw [pk_mul, nI_add, nI_add]
  have eg : ∀ w : Nat, (3 + 4 * nI w + nI y : Int32) = nI (3 + 4 * w + y) := fun w => by show nI 3 + nI 4 * nI w + nI y = _; rw [pk_mul, nI_add, nI_add]
  rw [eg]
  clear h3 h4 h5 hM
  rcases h with ⟨g1, g2, g3⟩ | ⟨g1, g2, g3⟩ | ⟨g1, g2, g3⟩ | ⟨g1, g2, g3, g4⟩ | ⟨g1, g2, g3, g4⟩
  · have z1 : c ≤ k := (nI_leI hc hk).mp g1
    rw [nI_add] at g2
    have z2 : k < c + b := (nI_ltI hk (by omega)).mp g2
    rw [g3, pk_sub z1, nI_add, eg, h5' _ (by omega), if_pos (by omega), hM' _ (by omega)]
    congr 2; omega
  · have z1 : k < c := (nI_ltI hk hc).mp g1
    have z2 : k < a := (nI_ltI hk ha).mp g2
    rw [g3, eg, h5' _ (by omega), if_neg (by omega), h4' _ (by omega) (by omega), if_neg (by omega), h3' _ (by omega) (by omega), if_pos (by omega)]
  · have z1 : k < c := (nI_ltI hk hc).mp g1
    have z2 : ¬ k < a := fun q => g2 (nI_lt q ha)
    rw [g3, nI_add, eg, h5' _ (by omega), if_neg (by omega), h4' _ (by omega) (by omega), if_neg (by omega), h3' _ (by omega) (by omega), if_neg (by omega)]
    congr 2; omega
  · rw [nI_add] at g2
    have z2 : ¬ k < c + b := fun q => g2 (nI_lt q (by omega))
    rw [pk_sub (by omega)] at g3 g4
    have z3 : k - b < a := (nI_ltI (by omega) ha).mp g3
    rw [g4, eg, h5' _ (by omega), if_neg (by omega), h4' _ (by omega) (by omega), if_pos (by omega), h3' _ (by omega) (by omega), if_pos (by omega)]
    congr 2; omega
  · rw [nI_add] at g2
    have z2 : ¬ k < c + b := fun q => g2 (nI_lt q (by omega))
    rw [pk_sub (by omega)] at g3
    have z3 : ¬ k - b < a := fun q => g3 (nI_lt q ha)
    rw [g4, eg, h5' _ (by omega), if_neg (by omega), h4' _ (by omega) (by omega), if_pos (by omega), h3' _ (by omega) (by omega), if_neg (by omega)]
    congr 2; omega
