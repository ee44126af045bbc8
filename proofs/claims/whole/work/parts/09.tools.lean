/-! tools: weaker ends, names, System.arraycopy, loops -/
section
variable {M M2 : zMT} {N : Nat} {Q Q' : Option Value → zHp → Prop} {pc : Nat} {lv : zLv} {st : List Value} {h : zHp}
theorem zG_mono (hq : ∀ r h', Q r h' → Q' r h') (g : zG M N Q pc lv st h) : zG M N Q' pc lv st h := by
  intro k p l e R s m args below meth c H ls locs cells slots Qf C P S L Z F
  exact g k p l e R s m args below meth c H ls locs cells slots Qf C P S L Z (fun pc' ls' H' locs' cells' slots' r h' hQ => F pc' ls' H' locs' cells' slots' r h' (hq r h' hQ))
/-- the numbers, everything being made -/
abbrev zN (sg : zSig) : zHp := (sg, 411, fun _ _ => true)
theorem zG_nm {sg : zSig} (kk : ∀ sg', sg' = sg → zG M N Q pc lv st (zN sg')) : zG M N Q pc lv st (zN sg) := kk sg rfl
/-- what arraycopy makes -/
def zcp (sg : zSig) (a b : Nat) (sp dp n : Int32) : zSig := fun c => if c = b then (fun j => if dp ≤ j ∧ j < dp + n then sg a (sp + (j - dp)) else sg b j) else sg c
def zCp (h : zHp) (a b : Nat) (sp dp n : Int32) : Prop := a < h.2.1 ∧ b < h.2.1 ∧ (zSh a).1 = 1 ∧ (zSh a).2.1 = 0 ∧ (zSh b).1 = 1 ∧ (zSh b).2.1 = 0 ∧ 0 ≤ sp ∧ 0 ≤ dp ∧ 0 ≤ n ∧ n ≤ nI (zSh a).2.2 ∧ n ≤ nI (zSh b).2.2 ∧ sp ≤ nI (zSh a).2.2 - n ∧ dp ≤ nI (zSh b).2.2 - n
theorem znn {x : Int32} (h : 0 ≤ x) : ∃ j : Nat, j < 2 ^ 31 ∧ x = nI j := nI_of (fun q => by
  rw [Int32.lt_iff_toInt_lt] at q; rw [Int32.le_iff_toInt_le] at h; omega)
theorem zs_acopy {x a b : Nat} {sp dp n : Int32} (hd : decode M.2.2.1 pc = .ok (.invokestatic x, 3)) (hl : Cond.methodLink (zON M.1) x arraycopyName ∈ zTbl ∧ Cond.native arraycopyName ∈ zTbl ∧ Cond.static arraycopyName ∈ zTbl ∧ Cond.initialized "java/lang/System" ∈ zTbl) (hR : 1 ≤ M.2.2.2.2.2.1 ∧ 26 ≤ M.2.2.2.2.2.2) (hrest : (st.map fun v => v.category).sum ≤ 8)
    (hc : zCp h a b sp dp n) (kk : zG M N Q (pc + 3) lv st (zcp h.1 a b sp dp n, h.2)) : zG M N Q pc lv (.int n :: .int dp :: .ref b :: .int sp :: .ref a :: st) h := by
  intro k p l e R s m args below meth c H ls locs cells slots Qf C P S L Z F
  obtain ⟨ha, hb, s1, s2, s3, s4, h1, h2, h3, h4, h5, h6, h7⟩ := hc
  have sa : zSh a = (1, 0, (zSh a).2.2) := by rw [← s1, ← s2]
  have sb : zSh b = (1, 0, (zSh b).2.2) := by rw [← s3, ← s4]
  have na := (zSh_small a).1
  have nb := (zSh_small b).1
  have ea := zad_lt (k := k) (a := a) (zlt ha P.2.1)
  have eb := zad_lt (k := k) (a := b) (zlt hb P.2.1)
  generalize hA : (zSh a).2.2 = A at *
  generalize hBn : (zSh b).2.2 = B at *
  obtain ⟨sp', hs', rfl⟩ := znn h1
  obtain ⟨dp', hd', rfl⟩ := znn h2
  obtain ⟨n', hn', rfl⟩ := znn h3
  have h4' : n' ≤ A := (nI_leI hn' (by omega)).mp h4
  have h5' : n' ≤ B := (nI_leI hn' (by omega)).mp h5
  rw [pk_sub h4'] at h6
  rw [pk_sub h5'] at h7
  have h6' : sp' ≤ A - n' := (nI_leI hs' (by omega)).mp h6
  have h7' : dp' ≤ B - n' := (nI_leI hd' (by omega)).mp h7
  have cs : (nI sp').toNatClampNeg = sp' := nI_clamp hs'
  have cd : (nI dp').toNatClampNeg = dp' := nI_clamp hd'
  have cn : (nI n').toNatClampNeg = n' := nI_clamp hn'
  show W p l e R s m args below meth c H locs cells slots Qf (F0 m pc ls (.int (nI n') :: .int (nI dp') :: .ref (zad k b) :: .int (nI sp') :: .ref (zad k a) :: st.map (zv k)))
  rw [ea, eb]
  refine va_copyi (D := k.2.1) (c0 := k.2.2.1 0) (c1 := k.2.2.1 0) (ty := .int) C.1 C.2.1 (C.2.2.2.1.trans L.1.symm) C.2.2.2.2.1 (C.2.2.2.2.2.1 _ hl.1) (C.2.2.2.2.2.1 _ hl.2.1) (C.2.2.2.2.2.1 _ hl.2.2.1) (C.2.2.2.2.2.1 _ hl.2.2.2) C.2.2.2.2.2.2.2.2.2.2.1 P.1 zWs_D S a b 0 0 (by rw [zWs_get ha, zE_1 sa]) (by rw [zWs_get hb, zE_1 sb]) rfl rfl rfl (nI_pos hs') (nI_pos hd') (nI_pos hn') (by rw [cs, cn]; omega) (by rw [cd, cn]; omega) (fun _ _ => rfl) (Nat.le_trans hR.1 C.2.2.2.2.2.2.2.2.1) ?_ hd (fun H1 locs1 hP1 _ hS1 => ?_)
  · rw [zcat]
    have := Nat.le_trans hR.2 C.2.2.2.2.2.2.2.2.2.1
    have e5 : nativeFrameWords "java/lang/System" "arraycopy" 5 = 7 := by decide
    rw [e5]; omega
  · refine kk k p l e R s m args below meth c H1 ls locs1 cells slots Qf C ?_ hS1 L Z F
    rw [cs, cd, cn] at hP1
    refine ⟨?_, P.2.1, ?_, ?_⟩
    · rw [zWs_set (h' := (zcp h.1 a b (nI sp') (nI dp') (nI n'), h.2)) hb rfl ?_ (fun q hq => zE_ne (by simp [zcp, hq]) rfl)] at hP1
      · exact hP1
      · rw [zE_1 sb]
        congr 4
        funext j
        simp only [va_cpy, zAi, zcp, if_pos]
        by_cases hj : j < B
        · rw [if_pos hj, if_pos hj]
          by_cases hjd : dp' ≤ j ∧ j < dp' + n'
          · rw [if_pos hjd, if_pos (by omega : sp' + (j - dp') < A), if_pos ⟨nI_le hjd.1 (by omega), by rw [nI_add]; exact nI_lt hjd.2 (by omega)⟩, pk_sub hjd.1, nI_add]
          · rw [if_neg hjd, if_neg]
            intro q
            apply hjd
            rw [nI_add] at q
            exact ⟨(nI_leI (by omega) (by omega)).mp q.1, (nI_ltI (by omega) (by omega)).mp q.2⟩
        · rw [if_neg hj, if_neg hj, if_neg (by omega)]
    · have : (100000 : Nat) ≠ b := by have := zlt hb P.2.1; omega
      show zcp h.1 a b _ _ _ 100000 = _
      simp only [zcp, if_neg this]; exact P.2.2.1
    · have : (100001 : Nat) ≠ b := by have := zlt hb P.2.1; omega
      show zcp h.1 a b _ _ _ 100001 = _
      simp only [zcp, if_neg this]; exact P.2.2.2
end
/-! loops: by a measure -/
theorem zlp1 {A : Type} (G I : A → Prop) (mu : A → Nat) (hs : ∀ a, I a → (∀ a', I a' → mu a' < mu a → G a') → G a) : ∀ a, I a → G a := by
  have key : ∀ n a, mu a < n → I a → G a := by
    intro n
    induction n with
    | zero => intro a h; omega
    | succ n ih => intro a h hi; exact hs a hi (fun a' hi' hm => ih a' (by omega) hi')
  exact fun a hi => key (mu a + 1) a (Nat.lt_succ_self _) hi
theorem zlp2 {A B : Type} (G I : A → B → Prop) (mu : A → B → Nat) (hs : ∀ a b, I a b → (∀ a' b', I a' b' → mu a' b' < mu a b → G a' b') → G a b) : ∀ a b, I a b → G a b :=
  fun a b h => zlp1 (fun q : A × B => G q.1 q.2) (fun q => I q.1 q.2) (fun q => mu q.1 q.2) (fun q hi k => hs q.1 q.2 hi (fun a' b' h1 h2 => k (a', b') h1 h2)) (a, b) h
theorem zlp3 {A B C : Type} (G I : A → B → C → Prop) (mu : A → B → C → Nat) (hs : ∀ a b c, I a b c → (∀ a' b' c', I a' b' c' → mu a' b' c' < mu a b c → G a' b' c') → G a b c) : ∀ a b c, I a b c → G a b c :=
  fun a b c h => zlp1 (fun q : A × B × C => G q.1 q.2.1 q.2.2) (fun q => I q.1 q.2.1 q.2.2) (fun q => mu q.1 q.2.1 q.2.2) (fun q hi k => hs q.1 q.2.1 q.2.2 hi (fun a' b' c' h1 h2 => k (a', b', c') h1 h2)) (a, b, c) h
theorem zlp4 {A B C D : Type} (G I : A → B → C → D → Prop) (mu : A → B → C → D → Nat) (hs : ∀ a b c d, I a b c d → (∀ a' b' c' d', I a' b' c' d' → mu a' b' c' d' < mu a b c d → G a' b' c' d') → G a b c d) : ∀ a b c d, I a b c d → G a b c d :=
  fun a b c d h => zlp1 (fun q : A × B × C × D => G q.1 q.2.1 q.2.2.1 q.2.2.2) (fun q => I q.1 q.2.1 q.2.2.1 q.2.2.2) (fun q => mu q.1 q.2.1 q.2.2.1 q.2.2.2) (fun q hi k => hs q.1 q.2.1 q.2.2.1 q.2.2.2 hi (fun a' b' c' d' h1 h2 => k (a', b', c', d') h1 h2)) (a, b, c, d) h
theorem zlp5 {A B C D E : Type} (G I : A → B → C → D → E → Prop) (mu : A → B → C → D → E → Nat) (hs : ∀ a b c d e, I a b c d e → (∀ a' b' c' d' e', I a' b' c' d' e' → mu a' b' c' d' e' < mu a b c d e → G a' b' c' d' e') → G a b c d e) : ∀ a b c d e, I a b c d e → G a b c d e :=
  fun a b c d e h => zlp1 (fun q : A × B × C × D × E => G q.1 q.2.1 q.2.2.1 q.2.2.2.1 q.2.2.2.2) (fun q => I q.1 q.2.1 q.2.2.1 q.2.2.2.1 q.2.2.2.2) (fun q => mu q.1 q.2.1 q.2.2.1 q.2.2.2.1 q.2.2.2.2) (fun q hi k => hs q.1 q.2.1 q.2.2.1 q.2.2.2.1 q.2.2.2.2 hi (fun a' b' c' d' e' h1 h2 => k (a', b', c', d', e') h1 h2)) (a, b, c, d, e) h
/-- how far up to e -/
def zmu (e i : Int32) : Nat := (e.toInt - i.toInt).toNat
theorem zi1 {i e : Int32} (h : i < e) : (i + 1).toInt = i.toInt + 1 := by
  rw [Int32.lt_iff_toInt_lt] at h
  have h1 := Int32.toInt_lt e
  have h2 := Int32.le_toInt i
  rw [Int32.toInt_add]
  have : (1 : Int32).toInt = 1 := by decide
  rw [this]
  rw [Int.bmod_eq_of_le] <;> omega
theorem zmu_up {i e : Int32} (h : i < e) : zmu e (i + 1) < zmu e i := by
  have h1 := zi1 h
  rw [Int32.lt_iff_toInt_lt] at h
  unfold zmu
  omega
theorem zi1m {i e : Int32} (h : e < i) : (i - 1).toInt = i.toInt - 1 := by
  rw [Int32.lt_iff_toInt_lt] at h
  have h1 := Int32.toInt_lt i
  have h2 := Int32.le_toInt e
  rw [Int32.toInt_sub]
  have : (1 : Int32).toInt = 1 := by decide
  rw [this]
  rw [Int.bmod_eq_of_le] <;> omega
theorem zmu_down {i e : Int32} (h : e < i) : zmu (i - 1) e < zmu i e := by
  have h1 := zi1m h
  rw [Int32.lt_iff_toInt_lt] at h
  unfold zmu
  omega
/-- iteration: a0, then f 0, f 1 .. f (n - 1) -/
def zitN {A : Type} (f : Int32 → A → A) (a : A) : Nat → A
  | 0 => a
  | n + 1 => f (nI n) (zitN f a n)
def zit {A : Type} (f : Int32 → A → A) (a : A) (n : Int32) : A := zitN f a n.toNatClampNeg
theorem zit_0 {A : Type} (f : Int32 → A → A) (a : A) : zit f a 0 = a := rfl
theorem zit_s {A : Type} (f : Int32 → A → A) (a : A) {i e : Int32} (h0 : 0 ≤ i) (h1 : i < e) : zit f a (i + 1) = f i (zit f a i) := by
  obtain ⟨j, hj, rfl⟩ := znn h0
  have h2 : j + 1 < 2 ^ 31 := by
    rw [Int32.lt_iff_toInt_lt, nI_toInt hj] at h1
    have := Int32.toInt_lt e
    omega
  unfold zit
  rw [nI_1, nI_clamp h2, nI_clamp hj]
  rfl
