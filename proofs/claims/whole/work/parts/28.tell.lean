/-! what the class tells: printed by wip/whole/p28.py -/
def nS (sg : zSig) (i : Int32) : Int32 := cS sg (-1) (-1) 0 i
/-- nothing but what is held for later use has changed -/
def hQ (sg sg' : zSig) : Prop := (∀ c j, (c < 313 ∨ 317 ≤ c) → (c < 322 ∨ 326 ≤ c) → (c ≠ 0 ∨ j ≠ 11) → sg' c j = sg c j) ∧ okF sg'
theorem hQ_refl {sg : zSig} (h : okF sg) : hQ sg sg := ⟨fun _ _ _ _ _ => rfl, h⟩
theorem hQ_s {sg sg' : zSig} (h : hQ sg sg') : ∀ c j, 1 ≤ c → c < 39 → sg' c j = sg c j := fun c j h1 h2 => h.1 c j (by omega) (by omega) (by omega)
theorem hQ_okS {sg sg' : zSig} (h : hQ sg sg') (ob : okS sg 1) : okS sg' 1 := okS_move iSh_1 ob (fun c j g1 g2 => hQ_s h c j g1 (by omega))
theorem hQ_cS {sg sg' : zSig} {wo mv mt i : Int32} (h : hQ sg sg') (ob : okS sg 1) : cS sg' wo mv mt i = cS sg wo mv mt i := cS_congr (fun c j g1 g2 => hQ_s h c j g1 (by omega)) ob.2.1.1 ob.2.1.2
theorem hQ_trans {sg sg1 sg2 : zSig} (h : hQ sg sg1) (h' : hQ sg1 sg2) : hQ sg sg2 := ⟨fun c j g1 g2 g3 => (h'.1 c j g1 g2 g3).trans (h.1 c j g1 g2 g3), h'.2⟩
theorem hLk_Q {sg sg' : zSig} (ob : okS sg 1) (h : hLk sg sg') : hQ sg sg' := by
  have fr : ∀ c j, 1 ≤ c → c < 34 → sg' c j = sg c j := fun c j h1 h2 => h.1 c j (by omega) (by omega) (by omega)
  refine ⟨fun c j g1 g2 g3 => h.1 c j (by omega) (by omega) g3, Or.inr h.2.1, fun _ => ⟨?_, fun j j0 j1 => ?_⟩⟩
  · rw [fr 1 2 (by decide) (by decide)]; exact h.2.2.1
  · rw [fr 1 2 (by decide) (by decide)] at j1
    rw [cS_congr fr ob.2.1.1 ob.2.1.2]; exact h.2.2.2 j j0 j1
theorem hQ_see {sg sg' : zSig} (hf : okF sg) (ob : okS sg 1) (h : ∀ c j, c ≠ 315 → c ≠ 316 → sg' c j = sg c j) : hQ sg sg' := by
  have fr : ∀ c j, 1 ≤ c → c < 34 → sg' c j = sg c j := fun c j h1 h2 => h c j (by omega) (by omega)
  refine ⟨fun c j g1 g2 g3 => h c j (by omega) (by omega), ?_⟩
  unfold okF
  rw [h 0 11 (by decide) (by decide), h 313 1 (by decide) (by decide), fr 1 2 (by decide) (by decide)]
  refine ⟨hf.1, fun q => ⟨(hf.2 q).1, fun j j0 j1 => ?_⟩⟩
  rw [h 314 j (by decide) (by decide), cS_congr fr ob.2.1.1 ob.2.1.2]
  exact (hf.2 q).2 j j0 j1
theorem hQ_wri {sg sg' : zSig} (hf : okF sg) (ob : okS sg 1) (h : ∀ c j, (c < 322 ∨ 326 ≤ c) → sg' c j = sg c j) : hQ sg sg' := by
  have fr : ∀ c j, 1 ≤ c → c < 34 → sg' c j = sg c j := fun c j h1 h2 => h c j (by omega)
  refine ⟨fun c j g1 g2 g3 => h c j g2, ?_⟩
  unfold okF
  rw [h 0 11 (by decide), h 313 1 (by decide), fr 1 2 (by decide) (by decide)]
  refine ⟨hf.1, fun q => ⟨(hf.2 q).1, fun j j0 j1 => ?_⟩⟩
  rw [h 314 j (by decide), cS_congr fr ob.2.1.1 ob.2.1.2]
  exact (hf.2 q).2 j j0 j1
theorem zit_stable {A : Type} {f : Int32 → A → A} {a : A} {P : A → Prop} {i n : Int32} (h0 : 0 ≤ i) (h1 : i ≤ n) (hp : ∀ j x, 0 ≤ j → j < n → P x → P (f j x)) (h : P (zit f a i)) : P (zit f a n) := by
  obtain ⟨p, hpp, rfl⟩ := znn h0
  obtain ⟨q, hqq, rfl⟩ := znn (Int32.le_trans h0 h1)
  have hpq : p ≤ q := (nI_leI hpp hqq).mp h1
  unfold zit at *
  rw [nI_clamp hpp] at h
  rw [nI_clamp hqq]
  have key : ∀ m, p ≤ m → m ≤ q → P (zitN f a m) := by
    intro m
    induction m with
    | zero => intro h2 _; have : p = 0 := by omega
              subst this; exact h
    | succ m ih =>
      intro h2 h3
      by_cases hm : p = m + 1
      · subst hm; exact h
      · exact hp _ _ (nI_pos' (by omega)) (nI_lt (by omega) (by omega)) (ih (by omega) (by omega))
  exact key q hpq (Nat.le_refl _)
theorem bg_congr {S T : Int32 → Int32} {n i : Int32} (h : ∀ j, 0 ≤ j → j < n → S j = T j) (i0 : 0 ≤ i) (i1 : i < n) : bg S i = bg T i := by
  unfold bg
  by_cases hi : i = 0
  · rw [if_pos (Or.inl hi), if_pos (Or.inl hi)]
  · rw [h i i0 i1, h (i - 1) (by lia) (by lia)]
theorem rN_congr {S T : Int32 → Int32} {n i a : Int32} (h : ∀ j, 0 ≤ j → j < n → S j = T j) (i0 : 0 ≤ i) (i1 : i ≤ n) : zit (rN S) a i = zit (rN T) a i :=
  zit_congr i0 (fun j x j0 j1 => by unfold rN; rw [bg_congr h j0 (by lia)])
theorem rL_congr {S T : Int32 → Int32} {n i : Int32} {a : Int32 × Int32} (h : ∀ j, 0 ≤ j → j < n → S j = T j) (i0 : 0 ≤ i) (i1 : i ≤ n) : zit (rL S) a i = zit (rL T) a i :=
  zit_congr i0 (fun j x j0 j1 => by unfold rL; rw [bg_congr h j0 (by lia)])
theorem uN_congr {S T : Int32 → Int32} {n i a : Int32} (h : ∀ j, 0 ≤ j → j < n → S j = T j) (i0 : 0 ≤ i) (i1 : i ≤ n) : zit (uN S) a i = zit (uN T) a i :=
  zit_congr i0 (fun j x j0 j1 => by
    have e : seen S j = seen T j := by
      unfold seen
      exact zit_congr j0 (fun k y k0 k1 => by rw [h k k0 (by lia), h j j0 (by lia)])
    unfold uN; rw [e])
def qSt (sg : zSig) (i w : Int32) : Int32 := if 0 ≤ i ∧ i < sg 1 2 then (if w = 0 then fFl (nS sg i) else if w = 1 then fCo (nS sg i) else if w = 2 then fSz (nS sg i) else if w = 3 then fFl (sg 3 i) else if w = 4 then fCo (sg 3 i) else if w = 5 then fSz (sg 3 i) else if w = 6 then nS sg i else -1) else -1
theorem bkSR_style_0 : zBk mSR_style 0 [(1, 0, 1, 0, 0), (5, 9, 0, 1, 0), (1, 1, 0, 0, 0)] = some 5 := by decide +kernel
theorem bkSR_style_8 : zBk mSR_style 8 [] = some 8 := by decide +kernel
theorem bkSR_style_13 : zBk mSR_style 13 [(1, 2, 0, 0, 0)] = some 14 := by decide +kernel
theorem bkSR_style_56 : zBk mSR_style 56 [(1, 0, 1, 0, 0)] = some 57 := by decide +kernel
theorem bkSR_style_60 : zBk mSR_style 60 [(5, 3, 0, 1, 0), (1, 1, 0, 0, 0), (7, 0, 0, 0, 0)] = some 65 := by decide +kernel
theorem bkSR_style_68 : zBk mSR_style 68 [] = some 68 := by decide +kernel
theorem bkSR_style_69 : zBk mSR_style 69 [(1, 0, 1, 0, 0)] = some 70 := by decide +kernel
theorem bkSR_style_73 : zBk mSR_style 73 [(5, 3, 0, 1, 0), (1, 1, 0, 0, 0), (7, 0, 0, 0, 0)] = some 78 := by decide +kernel
theorem bkSR_style_81 : zBk mSR_style 81 [] = some 81 := by decide +kernel
theorem bkSR_style_82 : zBk mSR_style 82 [(1, 0, 1, 0, 0)] = some 83 := by decide +kernel
theorem bkSR_style_86 : zBk mSR_style 86 [(5, 3, 0, 1, 0), (1, 1, 0, 0, 0), (7, 0, 0, 0, 0)] = some 91 := by decide +kernel
theorem bkSR_style_94 : zBk mSR_style 94 [] = some 94 := by decide +kernel
theorem bkSR_style_95 : zBk mSR_style 95 [(1, 0, 1, 0, 0), (5, 9, 0, 1, 0), (5, 5, 1, 2, 1), (1, 1, 0, 0, 0), (7, 0, 0, 0, 0)] = some 104 := by decide +kernel
theorem bkSR_style_107 : zBk mSR_style 107 [] = some 107 := by decide +kernel
theorem bkSR_style_108 : zBk mSR_style 108 [(1, 0, 1, 0, 0), (5, 9, 0, 1, 0), (5, 5, 1, 2, 1), (1, 1, 0, 0, 0), (7, 0, 0, 0, 0)] = some 117 := by decide +kernel
theorem bkSR_style_120 : zBk mSR_style 120 [] = some 120 := by decide +kernel
theorem bkSR_style_121 : zBk mSR_style 121 [(1, 0, 1, 0, 0), (5, 9, 0, 1, 0), (5, 5, 1, 2, 1), (1, 1, 0, 0, 0), (7, 0, 0, 0, 0)] = some 130 := by decide +kernel
theorem bkSR_style_133 : zBk mSR_style 133 [] = some 133 := by decide +kernel
theorem bkSR_style_134 : zBk mSR_style 134 [(1, 0, 1, 0, 0)] = some 135 := by decide +kernel
theorem bkSR_style_138 : zBk mSR_style 138 [(5, 3, 0, 1, 0), (1, 1, 0, 0, 0), (7, 0, 0, 0, 0)] = some 143 := by decide +kernel
theorem bkSR_style_144 : zBk mSR_style 144 [(0, 0, 0, 0, -1)] = some 145 := by decide +kernel
theorem bkSR_style_11 : zBk mSR_style 11 [(0, 0, 0, 0, -1)] = some 12 := by decide +kernel
theorem bdSR_style_5 : decode mSR_style.2.2.1 5 = .ok (.invokevirtual 245, 3) := by decide +kernel
theorem bdSR_style_8 : decode mSR_style.2.2.1 8 = .ok (.ifCond .ne 5, 3) := by decide +kernel
theorem bdSR_style_12 : decode mSR_style.2.2.1 12 = .ok (.ireturn, 1) := by decide +kernel
theorem bdSR_style_14 : decode mSR_style.2.2.1 14 = .ok (.tableswitch 130 0 6 #[42, 55, 68, 81, 94, 107, 120], 42) := by decide +kernel
theorem bdSR_style_57 : decode mSR_style.2.2.1 57 = .ok (.invokevirtual 184, 3) := by decide +kernel
theorem bdSR_style_65 : decode mSR_style.2.2.1 65 = .ok (.invokestatic 251, 3) := by decide +kernel
theorem bdSR_style_68 : decode mSR_style.2.2.1 68 = .ok (.ireturn, 1) := by decide +kernel
theorem bdSR_style_70 : decode mSR_style.2.2.1 70 = .ok (.invokevirtual 184, 3) := by decide +kernel
theorem bdSR_style_78 : decode mSR_style.2.2.1 78 = .ok (.invokestatic 254, 3) := by decide +kernel
theorem bdSR_style_81 : decode mSR_style.2.2.1 81 = .ok (.ireturn, 1) := by decide +kernel
theorem bdSR_style_83 : decode mSR_style.2.2.1 83 = .ok (.invokevirtual 184, 3) := by decide +kernel
theorem bdSR_style_91 : decode mSR_style.2.2.1 91 = .ok (.invokestatic 257, 3) := by decide +kernel
theorem bdSR_style_94 : decode mSR_style.2.2.1 94 = .ok (.ireturn, 1) := by decide +kernel
theorem bdSR_style_104 : decode mSR_style.2.2.1 104 = .ok (.invokestatic 251, 3) := by decide +kernel
theorem bdSR_style_107 : decode mSR_style.2.2.1 107 = .ok (.ireturn, 1) := by decide +kernel
theorem bdSR_style_117 : decode mSR_style.2.2.1 117 = .ok (.invokestatic 254, 3) := by decide +kernel
theorem bdSR_style_120 : decode mSR_style.2.2.1 120 = .ok (.ireturn, 1) := by decide +kernel
theorem bdSR_style_130 : decode mSR_style.2.2.1 130 = .ok (.invokestatic 257, 3) := by decide +kernel
theorem bdSR_style_133 : decode mSR_style.2.2.1 133 = .ok (.ireturn, 1) := by decide +kernel
theorem bdSR_style_135 : decode mSR_style.2.2.1 135 = .ok (.invokevirtual 184, 3) := by decide +kernel
theorem bdSR_style_143 : decode mSR_style.2.2.1 143 = .ok (.ireturn, 1) := by decide +kernel
theorem bdSR_style_145 : decode mSR_style.2.2.1 145 = .ok (.ireturn, 1) := by decide +kernel
theorem cSR_style {sg : zSig} {i w : Int32} (ob : okS sg 1) (h0 : 0 ≤ sg 36 2) (h1 : sg 36 2 < 8) (u0 : 0 ≤ sg 36 3) (u1 : sg 36 3 ≤ 8) (hf : okF sg) : zG mSR_style 411 (fun rr h' => ∃ v sg', rr = some (.int v) ∧ h' = zN sg' ∧ hQ sg sg' ∧ v = qSt sg i w) 0 [(0, .ref 0), (1, .int i), (2, .int w)] [] (zN sg) := by
  obtain ⟨⟨n0, n1⟩, ⟨g0, g1⟩, ⟨a0, a1⟩, -⟩ := id ob
  refine zG_run bkSR_style_0 (lv' := [(0, .ref 0), (1, .int i), (2, .int w)]) (st' := [.int i, .ref 1]) (h' := zN sg) (Ps := [zOb (zN sg) 0 9 ∧ (zN sg).2.2 0 0 = true]) rfl (zA ⟨zob_0, rfl⟩ trivial) ?_
  refine zG_callv (a := 1) (c := 5) (As := [.int i]) (rest := []) (N2 := 411) bdSR_style_5 okShe_hasLetter lk9_245 (And.intro (by decide) (by decide)) (by decide) rfl rfl rfl (Nat.le_of_ble_eq_true rfl) (Nat.le_of_ble_eq_true rfl) (Nat.le_refl 411) (Nat.le_refl 411) zob_1 cShe_hasLetter ?_
  rintro rr h' ⟨rfl, rfl⟩ -
  refine zb_ifne (tgt := 13) bkSR_style_8 bdSR_style_8 (by decide) (lv' := [(0, .ref 0), (1, .int i), (2, .int w)]) (st' := []) (h' := zN sg) (x := if 0 ≤ i ∧ i < sg 1 2 then 1 else 0) (Ps := []) rfl trivial (fun c1 => ?_) (fun c1 => ?_)
  · skip
    have hi : 0 ≤ i ∧ i < sg 1 2 := by grind
    refine zG_run bkSR_style_13 (lv' := [(0, .ref 0), (1, .int i), (2, .int w)]) (st' := [.int w]) (h' := zN sg) (Ps := []) rfl trivial ?_
    by_cases w2 : w = 0
    · refine zs_tableIn (off := 42) (tgt := 56) bdSR_style_14 (by rw [w2]; decide) (by rw [w2]; decide) (by rw [w2]; decide) (by decide) ?_
      refine zG_run bkSR_style_56 (lv' := [(0, .ref 0), (1, .int i), (2, .int w)]) (st' := [.ref 0]) (h' := zN sg) (Ps := []) rfl trivial ?_
      refine zG_callv (a := 0) (c := 9) (As := []) (rest := []) (N2 := 411) bdSR_style_57 okSR_looksNow lk9_184 (And.intro (by decide) (by decide)) (by decide) rfl rfl rfl (Nat.le_of_ble_eq_true rfl) (Nat.le_of_ble_eq_true rfl) (Nat.le_refl 411) (Nat.le_refl 411) zob_0 (cSR_looksNow ob hf) ?_
      rintro rr h' ⟨sg0, rfl, rfl, hl⟩ -
      have hq0 : hQ sg sg0 := hLk_Q ob hl
      have fl := hQ_s hq0
      have y2 : sg0 1 2 = sg 1 2 := fl 1 2 (by decide) (by decide)
      have y4 : sg0 1 4 = sg 1 4 := fl 1 4 (by decide) (by decide)
      have y6 : sg0 1 6 = sg 1 6 := fl 1 6 (by decide) (by decide)
      have yt : sg0 34 1 = sg 34 1 := fl 34 1 (by decide) (by decide)
      have l3 : sg0 313 1 = sg 1 2 := hl.2.2.1
      have ts : ∀ j, 0 ≤ j → j < sg 1 2 → sg0 314 j = nS sg j := hl.2.2.2
      refine zG_run bkSR_style_60 (lv' := [(0, .ref 0), (1, .int i), (2, .int w)]) (st' := [.int (sg0 314 i)]) (h' := zN sg0) (Ps := [zOb (zN sg0) 313 3 ∧ (zN sg0).2.2 313 0 = true, zInL (zN sg0) 314 i]) rfl (zA ⟨zob_313, rfl⟩ (zA (zinL_314 (i := i) (by lia) (by lia)) trivial)) ?_
      refine zG_calls (As := [.int (sg0 314 i)]) (rest := []) (N2 := 411) bdSR_style_65 okSty_flagsOf lk9_251 (And.intro (by decide) (by decide)) rfl rfl (Nat.le_of_ble_eq_true rfl) (Nat.le_of_ble_eq_true rfl) (Nat.le_refl 411) (Nat.le_refl 411) cSty_flagsOf ?_
      rintro rr h' ⟨rfl, rfl⟩ -
      refine zb_iret bkSR_style_68 bdSR_style_68 rfl (x := fFl (sg0 314 i)) (h' := zN sg0) (Ps := []) rfl trivial rfl ?_
      refine ⟨_, _, rfl, rfl, hq0, ?_⟩
      rw [ts i (by lia) (by lia)]
      unfold qSt
      repeat (first | rw [if_pos (by lia)] | rw [if_neg (by lia)])
    by_cases w3 : w = 1
    · refine zs_tableIn (off := 55) (tgt := 69) bdSR_style_14 (by rw [w3]; decide) (by rw [w3]; decide) (by rw [w3]; decide) (by decide) ?_
      refine zG_run bkSR_style_69 (lv' := [(0, .ref 0), (1, .int i), (2, .int w)]) (st' := [.ref 0]) (h' := zN sg) (Ps := []) rfl trivial ?_
      refine zG_callv (a := 0) (c := 9) (As := []) (rest := []) (N2 := 411) bdSR_style_70 okSR_looksNow lk9_184 (And.intro (by decide) (by decide)) (by decide) rfl rfl rfl (Nat.le_of_ble_eq_true rfl) (Nat.le_of_ble_eq_true rfl) (Nat.le_refl 411) (Nat.le_refl 411) zob_0 (cSR_looksNow ob hf) ?_
      rintro rr h' ⟨sg0, rfl, rfl, hl⟩ -
      have hq0 : hQ sg sg0 := hLk_Q ob hl
      have fl := hQ_s hq0
      have y2 : sg0 1 2 = sg 1 2 := fl 1 2 (by decide) (by decide)
      have y4 : sg0 1 4 = sg 1 4 := fl 1 4 (by decide) (by decide)
      have y6 : sg0 1 6 = sg 1 6 := fl 1 6 (by decide) (by decide)
      have yt : sg0 34 1 = sg 34 1 := fl 34 1 (by decide) (by decide)
      have l3 : sg0 313 1 = sg 1 2 := hl.2.2.1
      have ts : ∀ j, 0 ≤ j → j < sg 1 2 → sg0 314 j = nS sg j := hl.2.2.2
      refine zG_run bkSR_style_73 (lv' := [(0, .ref 0), (1, .int i), (2, .int w)]) (st' := [.int (sg0 314 i)]) (h' := zN sg0) (Ps := [zOb (zN sg0) 313 3 ∧ (zN sg0).2.2 313 0 = true, zInL (zN sg0) 314 i]) rfl (zA ⟨zob_313, rfl⟩ (zA (zinL_314 (i := i) (by lia) (by lia)) trivial)) ?_
      refine zG_calls (As := [.int (sg0 314 i)]) (rest := []) (N2 := 411) bdSR_style_78 okSty_colorOf lk9_254 (And.intro (by decide) (by decide)) rfl rfl (Nat.le_of_ble_eq_true rfl) (Nat.le_of_ble_eq_true rfl) (Nat.le_refl 411) (Nat.le_refl 411) cSty_colorOf ?_
      rintro rr h' ⟨rfl, rfl⟩ -
      refine zb_iret bkSR_style_81 bdSR_style_81 rfl (x := fCo (sg0 314 i)) (h' := zN sg0) (Ps := []) rfl trivial rfl ?_
      refine ⟨_, _, rfl, rfl, hq0, ?_⟩
      rw [ts i (by lia) (by lia)]
      unfold qSt
      repeat (first | rw [if_pos (by lia)] | rw [if_neg (by lia)])
    by_cases w4 : w = 2
    · refine zs_tableIn (off := 68) (tgt := 82) bdSR_style_14 (by rw [w4]; decide) (by rw [w4]; decide) (by rw [w4]; decide) (by decide) ?_
      refine zG_run bkSR_style_82 (lv' := [(0, .ref 0), (1, .int i), (2, .int w)]) (st' := [.ref 0]) (h' := zN sg) (Ps := []) rfl trivial ?_
      refine zG_callv (a := 0) (c := 9) (As := []) (rest := []) (N2 := 411) bdSR_style_83 okSR_looksNow lk9_184 (And.intro (by decide) (by decide)) (by decide) rfl rfl rfl (Nat.le_of_ble_eq_true rfl) (Nat.le_of_ble_eq_true rfl) (Nat.le_refl 411) (Nat.le_refl 411) zob_0 (cSR_looksNow ob hf) ?_
      rintro rr h' ⟨sg0, rfl, rfl, hl⟩ -
      have hq0 : hQ sg sg0 := hLk_Q ob hl
      have fl := hQ_s hq0
      have y2 : sg0 1 2 = sg 1 2 := fl 1 2 (by decide) (by decide)
      have y4 : sg0 1 4 = sg 1 4 := fl 1 4 (by decide) (by decide)
      have y6 : sg0 1 6 = sg 1 6 := fl 1 6 (by decide) (by decide)
      have yt : sg0 34 1 = sg 34 1 := fl 34 1 (by decide) (by decide)
      have l3 : sg0 313 1 = sg 1 2 := hl.2.2.1
      have ts : ∀ j, 0 ≤ j → j < sg 1 2 → sg0 314 j = nS sg j := hl.2.2.2
      refine zG_run bkSR_style_86 (lv' := [(0, .ref 0), (1, .int i), (2, .int w)]) (st' := [.int (sg0 314 i)]) (h' := zN sg0) (Ps := [zOb (zN sg0) 313 3 ∧ (zN sg0).2.2 313 0 = true, zInL (zN sg0) 314 i]) rfl (zA ⟨zob_313, rfl⟩ (zA (zinL_314 (i := i) (by lia) (by lia)) trivial)) ?_
      refine zG_calls (As := [.int (sg0 314 i)]) (rest := []) (N2 := 411) bdSR_style_91 okSty_sizeOf lk9_257 (And.intro (by decide) (by decide)) rfl rfl (Nat.le_of_ble_eq_true rfl) (Nat.le_of_ble_eq_true rfl) (Nat.le_refl 411) (Nat.le_refl 411) cSty_sizeOf ?_
      rintro rr h' ⟨rfl, rfl⟩ -
      refine zb_iret bkSR_style_94 bdSR_style_94 rfl (x := fSz (sg0 314 i)) (h' := zN sg0) (Ps := []) rfl trivial rfl ?_
      refine ⟨_, _, rfl, rfl, hq0, ?_⟩
      rw [ts i (by lia) (by lia)]
      unfold qSt
      repeat (first | rw [if_pos (by lia)] | rw [if_neg (by lia)])
    by_cases w5 : w = 3
    · refine zs_tableIn (off := 81) (tgt := 95) bdSR_style_14 (by rw [w5]; decide) (by rw [w5]; decide) (by rw [w5]; decide) (by decide) ?_
      refine zG_run bkSR_style_95 (lv' := [(0, .ref 0), (1, .int i), (2, .int w)]) (st' := [.int (sg 3 i)]) (h' := zN sg) (Ps := [zOb (zN sg) 0 9 ∧ (zN sg).2.2 0 0 = true, zOb (zN sg) 1 5 ∧ (zN sg).2.2 1 1 = true, zInL (zN sg) 3 i]) rfl (zA ⟨zob_0, rfl⟩ (zA ⟨zob_1, rfl⟩ (zA (zinL_3 (i := i) (by lia) (by lia)) trivial))) ?_
      refine zG_calls (As := [.int (sg 3 i)]) (rest := []) (N2 := 411) bdSR_style_104 okSty_flagsOf lk9_251 (And.intro (by decide) (by decide)) rfl rfl (Nat.le_of_ble_eq_true rfl) (Nat.le_of_ble_eq_true rfl) (Nat.le_refl 411) (Nat.le_refl 411) cSty_flagsOf ?_
      rintro rr h' ⟨rfl, rfl⟩ -
      refine zb_iret bkSR_style_107 bdSR_style_107 rfl (x := fFl (sg 3 i)) (h' := zN sg) (Ps := []) rfl trivial rfl ?_
      refine ⟨_, _, rfl, rfl, hQ_refl hf, ?_⟩
      unfold qSt
      repeat (first | rw [if_pos (by lia)] | rw [if_neg (by lia)])
    by_cases w6 : w = 4
    · refine zs_tableIn (off := 94) (tgt := 108) bdSR_style_14 (by rw [w6]; decide) (by rw [w6]; decide) (by rw [w6]; decide) (by decide) ?_
      refine zG_run bkSR_style_108 (lv' := [(0, .ref 0), (1, .int i), (2, .int w)]) (st' := [.int (sg 3 i)]) (h' := zN sg) (Ps := [zOb (zN sg) 0 9 ∧ (zN sg).2.2 0 0 = true, zOb (zN sg) 1 5 ∧ (zN sg).2.2 1 1 = true, zInL (zN sg) 3 i]) rfl (zA ⟨zob_0, rfl⟩ (zA ⟨zob_1, rfl⟩ (zA (zinL_3 (i := i) (by lia) (by lia)) trivial))) ?_
      refine zG_calls (As := [.int (sg 3 i)]) (rest := []) (N2 := 411) bdSR_style_117 okSty_colorOf lk9_254 (And.intro (by decide) (by decide)) rfl rfl (Nat.le_of_ble_eq_true rfl) (Nat.le_of_ble_eq_true rfl) (Nat.le_refl 411) (Nat.le_refl 411) cSty_colorOf ?_
      rintro rr h' ⟨rfl, rfl⟩ -
      refine zb_iret bkSR_style_120 bdSR_style_120 rfl (x := fCo (sg 3 i)) (h' := zN sg) (Ps := []) rfl trivial rfl ?_
      refine ⟨_, _, rfl, rfl, hQ_refl hf, ?_⟩
      unfold qSt
      repeat (first | rw [if_pos (by lia)] | rw [if_neg (by lia)])
    by_cases w7 : w = 5
    · refine zs_tableIn (off := 107) (tgt := 121) bdSR_style_14 (by rw [w7]; decide) (by rw [w7]; decide) (by rw [w7]; decide) (by decide) ?_
      refine zG_run bkSR_style_121 (lv' := [(0, .ref 0), (1, .int i), (2, .int w)]) (st' := [.int (sg 3 i)]) (h' := zN sg) (Ps := [zOb (zN sg) 0 9 ∧ (zN sg).2.2 0 0 = true, zOb (zN sg) 1 5 ∧ (zN sg).2.2 1 1 = true, zInL (zN sg) 3 i]) rfl (zA ⟨zob_0, rfl⟩ (zA ⟨zob_1, rfl⟩ (zA (zinL_3 (i := i) (by lia) (by lia)) trivial))) ?_
      refine zG_calls (As := [.int (sg 3 i)]) (rest := []) (N2 := 411) bdSR_style_130 okSty_sizeOf lk9_257 (And.intro (by decide) (by decide)) rfl rfl (Nat.le_of_ble_eq_true rfl) (Nat.le_of_ble_eq_true rfl) (Nat.le_refl 411) (Nat.le_refl 411) cSty_sizeOf ?_
      rintro rr h' ⟨rfl, rfl⟩ -
      refine zb_iret bkSR_style_133 bdSR_style_133 rfl (x := fSz (sg 3 i)) (h' := zN sg) (Ps := []) rfl trivial rfl ?_
      refine ⟨_, _, rfl, rfl, hQ_refl hf, ?_⟩
      unfold qSt
      repeat (first | rw [if_pos (by lia)] | rw [if_neg (by lia)])
    by_cases w8 : w = 6
    · refine zs_tableIn (off := 120) (tgt := 134) bdSR_style_14 (by rw [w8]; decide) (by rw [w8]; decide) (by rw [w8]; decide) (by decide) ?_
      refine zG_run bkSR_style_134 (lv' := [(0, .ref 0), (1, .int i), (2, .int w)]) (st' := [.ref 0]) (h' := zN sg) (Ps := []) rfl trivial ?_
      refine zG_callv (a := 0) (c := 9) (As := []) (rest := []) (N2 := 411) bdSR_style_135 okSR_looksNow lk9_184 (And.intro (by decide) (by decide)) (by decide) rfl rfl rfl (Nat.le_of_ble_eq_true rfl) (Nat.le_of_ble_eq_true rfl) (Nat.le_refl 411) (Nat.le_refl 411) zob_0 (cSR_looksNow ob hf) ?_
      rintro rr h' ⟨sg0, rfl, rfl, hl⟩ -
      have hq0 : hQ sg sg0 := hLk_Q ob hl
      have fl := hQ_s hq0
      have y2 : sg0 1 2 = sg 1 2 := fl 1 2 (by decide) (by decide)
      have y4 : sg0 1 4 = sg 1 4 := fl 1 4 (by decide) (by decide)
      have y6 : sg0 1 6 = sg 1 6 := fl 1 6 (by decide) (by decide)
      have yt : sg0 34 1 = sg 34 1 := fl 34 1 (by decide) (by decide)
      have l3 : sg0 313 1 = sg 1 2 := hl.2.2.1
      have ts : ∀ j, 0 ≤ j → j < sg 1 2 → sg0 314 j = nS sg j := hl.2.2.2
      refine zb_iret bkSR_style_138 bdSR_style_143 rfl (x := sg0 314 i) (h' := zN sg0) (Ps := [zOb (zN sg0) 313 3 ∧ (zN sg0).2.2 313 0 = true, zInL (zN sg0) 314 i]) rfl (zA ⟨zob_313, rfl⟩ (zA (zinL_314 (i := i) (by lia) (by lia)) trivial)) rfl ?_
      refine ⟨_, _, rfl, rfl, hq0, ?_⟩
      rw [ts i (by lia) (by lia)]
      unfold qSt
      repeat (first | rw [if_pos (by lia)] | rw [if_neg (by lia)])
    refine zs_tableOut (tgt := 144) bdSR_style_14 (zsw_out (x := w) (n := 7) (by decide) (by intro j hj; match j, hj with | 0, _ => exact w2 | 1, _ => exact w3 | 2, _ => exact w4 | 3, _ => exact w5 | 4, _ => exact w6 | 5, _ => exact w7 | 6, _ => exact w8)) (by decide) ?_
    refine zb_iret bkSR_style_144 bdSR_style_145 rfl (x := (-1)) (h' := zN sg) (Ps := []) rfl trivial rfl ?_
    refine ⟨_, _, rfl, rfl, hQ_refl hf, ?_⟩
    unfold qSt
    repeat (first | rw [if_pos (by lia)] | rw [if_neg (by lia)])
  · skip
    refine zb_iret bkSR_style_11 bdSR_style_12 rfl (x := (-1)) (h' := zN sg) (Ps := []) rfl trivial rfl ?_
    refine ⟨_, _, rfl, rfl, hQ_refl hf, ?_⟩
    unfold qSt
    repeat (first | rw [if_pos (by lia)] | rw [if_neg (by lia)])
def qRun (S : Int32 → Int32) (n q w v : Int32) : Prop := (∃ f, (0 ≤ f ∧ f < n ∧ bg S f ≠ 0 ∧ zit (rN S) 0 f = q) ∧ (w = 0 → v = f) ∧ (w = 1 → ∃ e, (f < e ∧ e ≤ n ∧ (∀ j, f < j → j < e → bg S j = 0) ∧ (e = n ∨ bg S e ≠ 0)) ∧ v = e - f) ∧ (w = 2 → v = fFl (S f)) ∧ (w = 3 → v = fCo (S f)) ∧ (w = 4 → v = fSz (S f)) ∧ (¬ (0 ≤ w ∧ w ≤ 4) → v = -1)) ∨ (v = -1 ∧ ∀ j, 0 ≤ j → j < n → bg S j = 0 ∨ zit (rN S) 0 j ≠ q)
theorem bkSR_run_0 : zBk mSR_run 0 [(1, 0, 1, 0, 0)] = some 1 := by decide +kernel
theorem bkSR_run_4 : zBk mSR_run 4 [(2, 3, 1, 0, 0), (1, 3, 1, 0, 0), (1, 1, 0, 0, 0)] = some 7 := by decide +kernel
theorem bkSR_run_10 : zBk mSR_run 10 [(2, 4, 0, 0, 0), (1, 4, 0, 0, 0), (0, 0, 0, 0, -1)] = some 15 := by decide +kernel
theorem bkSR_run_20 : zBk mSR_run 20 [(1, 2, 0, 0, 0)] = some 21 := by decide +kernel
theorem bkSR_run_56 : zBk mSR_run 56 [(1, 4, 0, 0, 0)] = some 58 := by decide +kernel
theorem bkSR_run_59 : zBk mSR_run 59 [(1, 3, 1, 0, 0), (1, 4, 0, 0, 0)] = some 62 := by decide +kernel
theorem bkSR_run_65 : zBk mSR_run 65 [(1, 4, 0, 0, 0), (4, 1, 0, 0, 0)] = some 68 := by decide +kernel
theorem bkSR_run_69 : zBk mSR_run 69 [(1, 3, 1, 0, 0), (5, 3, 0, 1, 0), (1, 4, 0, 0, 0), (7, 0, 0, 0, 0)] = some 76 := by decide +kernel
theorem bkSR_run_79 : zBk mSR_run 79 [] = some 79 := by decide +kernel
theorem bkSR_run_80 : zBk mSR_run 80 [(1, 3, 1, 0, 0), (5, 3, 0, 1, 0), (1, 4, 0, 0, 0), (7, 0, 0, 0, 0)] = some 87 := by decide +kernel
theorem bkSR_run_90 : zBk mSR_run 90 [] = some 90 := by decide +kernel
theorem bkSR_run_91 : zBk mSR_run 91 [(1, 3, 1, 0, 0), (5, 3, 0, 1, 0), (1, 4, 0, 0, 0), (7, 0, 0, 0, 0)] = some 98 := by decide +kernel
theorem bkSR_run_101 : zBk mSR_run 101 [] = some 101 := by decide +kernel
theorem bkSR_run_102 : zBk mSR_run 102 [(0, 0, 0, 0, -1)] = some 103 := by decide +kernel
theorem bkSR_run_18 : zBk mSR_run 18 [(0, 0, 0, 0, -1)] = some 19 := by decide +kernel
theorem bdSR_run_1 : decode mSR_run.2.2.1 1 = .ok (.invokevirtual 184, 3) := by decide +kernel
theorem bdSR_run_7 : decode mSR_run.2.2.1 7 = .ok (.invokevirtual 260, 3) := by decide +kernel
theorem bdSR_run_15 : decode mSR_run.2.2.1 15 = .ok (.if_icmp .ne 5, 3) := by decide +kernel
theorem bdSR_run_19 : decode mSR_run.2.2.1 19 = .ok (.ireturn, 1) := by decide +kernel
theorem bdSR_run_21 : decode mSR_run.2.2.1 21 = .ok (.tableswitch 81 0 4 #[35, 38, 48, 59, 70], 35) := by decide +kernel
theorem bdSR_run_58 : decode mSR_run.2.2.1 58 = .ok (.ireturn, 1) := by decide +kernel
theorem bdSR_run_62 : decode mSR_run.2.2.1 62 = .ok (.invokevirtual 263, 3) := by decide +kernel
theorem bdSR_run_68 : decode mSR_run.2.2.1 68 = .ok (.ireturn, 1) := by decide +kernel
theorem bdSR_run_76 : decode mSR_run.2.2.1 76 = .ok (.invokestatic 251, 3) := by decide +kernel
theorem bdSR_run_79 : decode mSR_run.2.2.1 79 = .ok (.ireturn, 1) := by decide +kernel
theorem bdSR_run_87 : decode mSR_run.2.2.1 87 = .ok (.invokestatic 254, 3) := by decide +kernel
theorem bdSR_run_90 : decode mSR_run.2.2.1 90 = .ok (.ireturn, 1) := by decide +kernel
theorem bdSR_run_98 : decode mSR_run.2.2.1 98 = .ok (.invokestatic 257, 3) := by decide +kernel
theorem bdSR_run_101 : decode mSR_run.2.2.1 101 = .ok (.ireturn, 1) := by decide +kernel
theorem bdSR_run_103 : decode mSR_run.2.2.1 103 = .ok (.ireturn, 1) := by decide +kernel
theorem cSR_run {sg : zSig} {q w : Int32} (ob : okS sg 1) (h0 : 0 ≤ sg 36 2) (h1 : sg 36 2 < 8) (u0 : 0 ≤ sg 36 3) (u1 : sg 36 3 ≤ 8) (hf : okF sg) : zG mSR_run 411 (fun rr h' => ∃ v sg', rr = some (.int v) ∧ h' = zN sg' ∧ hQ sg sg' ∧ (∀ j, 0 ≤ j → j < sg 1 2 → sg' 314 j = nS sg j) ∧ qRun (sg' 314) (sg 1 2) q w v) 0 [(0, .ref 0), (1, .int q), (2, .int w)] [] (zN sg) := by
  obtain ⟨⟨n0, n1⟩, ⟨g0, g1⟩, ⟨a0, a1⟩, -⟩ := id ob
  refine zG_run bkSR_run_0 (lv' := [(0, .ref 0), (1, .int q), (2, .int w)]) (st' := [.ref 0]) (h' := zN sg) (Ps := []) rfl trivial ?_
  refine zG_callv (a := 0) (c := 9) (As := []) (rest := []) (N2 := 411) bdSR_run_1 okSR_looksNow lk9_184 (And.intro (by decide) (by decide)) (by decide) rfl rfl rfl (Nat.le_of_ble_eq_true rfl) (Nat.le_of_ble_eq_true rfl) (Nat.le_refl 411) (Nat.le_refl 411) zob_0 (cSR_looksNow ob hf) ?_
  rintro rr h' ⟨sg0, rfl, rfl, hl⟩ -
  have hq0 : hQ sg sg0 := hLk_Q ob hl
  have fl := hQ_s hq0
  have y2 : sg0 1 2 = sg 1 2 := fl 1 2 (by decide) (by decide)
  have y4 : sg0 1 4 = sg 1 4 := fl 1 4 (by decide) (by decide)
  have y6 : sg0 1 6 = sg 1 6 := fl 1 6 (by decide) (by decide)
  have yt : sg0 34 1 = sg 34 1 := fl 34 1 (by decide) (by decide)
  have l3 : sg0 313 1 = sg 1 2 := hl.2.2.1
  have ts : ∀ j, 0 ≤ j → j < sg 1 2 → sg0 314 j = nS sg j := hl.2.2.2
  refine zG_run bkSR_run_4 (lv' := [(3, .ref 313), (0, .ref 0), (1, .int q), (2, .int w)]) (st' := [.int q, .ref 313]) (h' := zN sg0) (Ps := []) rfl trivial ?_
  refine zG_callv (a := 313) (c := 3) (As := [.int q]) (rest := []) (N2 := 411) bdSR_run_7 okLoo_firstOfRun lk9_260 (And.intro (by decide) (by decide)) (by decide) rfl rfl rfl (Nat.le_of_ble_eq_true rfl) (Nat.le_of_ble_eq_true rfl) (Nat.le_refl 411) (Nat.le_refl 411) zob_313 (cLoo_firstOfRun_313 (q := q) (by lia) (by lia)) ?_
  rintro rr h' ⟨v1, rfl, rfl, hx⟩ -
  refine zb_icne (tgt := 20) bkSR_run_10 bdSR_run_15 (by decide) (lv' := [(4, .int v1), (3, .ref 313), (0, .ref 0), (1, .int q), (2, .int w)]) (st' := []) (h' := zN sg0) (x := v1) (y := (-1)) (Ps := []) rfl trivial (fun c2 => ?_) (fun c2 => ?_)
  · skip
    have hx1 := hx
    refine zG_run bkSR_run_20 (lv' := [(4, .int v1), (3, .ref 313), (0, .ref 0), (1, .int q), (2, .int w)]) (st' := [.int w]) (h' := zN sg0) (Ps := []) rfl trivial ?_
    by_cases w3 : w = 0
    · refine zs_tableIn (off := 35) (tgt := 56) bdSR_run_21 (by rw [w3]; decide) (by rw [w3]; decide) (by rw [w3]; decide) (by decide) ?_
      refine zb_iret bkSR_run_56 bdSR_run_58 rfl (x := v1) (h' := zN sg0) (Ps := []) rfl trivial rfl ?_
      refine ⟨_, _, rfl, rfl, hq0, ts, ?_⟩
      rw [l3] at hx
      rcases hx with hx | hx
      · first | (exfalso; lia; done) | (refine Or.inl ⟨_, hx, ?_, ?_, ?_, ?_, ?_, ?_⟩ <;> first | (intro _; rfl) | (intro hw; exfalso; lia) | (intro hw; rw [l3] at he; exact ⟨_, he, rfl⟩))
      · first | exact Or.inr ⟨rfl, hx.2⟩ | (exfalso; lia)
    by_cases w4 : w = 1
    · refine zs_tableIn (off := 38) (tgt := 59) bdSR_run_21 (by rw [w4]; decide) (by rw [w4]; decide) (by rw [w4]; decide) (by decide) ?_
      refine zG_run bkSR_run_59 (lv' := [(4, .int v1), (3, .ref 313), (0, .ref 0), (1, .int q), (2, .int w)]) (st' := [.int v1, .ref 313]) (h' := zN sg0) (Ps := []) rfl trivial ?_
      refine zG_callv (a := 313) (c := 3) (As := [.int v1]) (rest := []) (N2 := 411) bdSR_run_62 okLoo_endOfRun lk9_263 (And.intro (by decide) (by decide)) (by decide) rfl rfl rfl (Nat.le_of_ble_eq_true rfl) (Nat.le_of_ble_eq_true rfl) (Nat.le_refl 411) (Nat.le_refl 411) zob_313 (cLoo_endOfRun_313 (f := v1) (by lia) (by lia) (by lia) (by lia)) ?_
      rintro rr h' ⟨v5, rfl, rfl, he⟩ -
      refine zb_iret bkSR_run_65 bdSR_run_68 rfl (x := v5 - v1) (h' := zN sg0) (Ps := []) rfl trivial rfl ?_
      refine ⟨_, _, rfl, rfl, hq0, ts, ?_⟩
      rw [l3] at hx
      rcases hx with hx | hx
      · first | (exfalso; lia; done) | (refine Or.inl ⟨_, hx, ?_, ?_, ?_, ?_, ?_, ?_⟩ <;> first | (intro _; rfl) | (intro hw; exfalso; lia) | (intro hw; rw [l3] at he; exact ⟨_, he, rfl⟩))
      · first | exact Or.inr ⟨rfl, hx.2⟩ | (exfalso; lia)
    by_cases w6 : w = 2
    · refine zs_tableIn (off := 48) (tgt := 69) bdSR_run_21 (by rw [w6]; decide) (by rw [w6]; decide) (by rw [w6]; decide) (by decide) ?_
      refine zG_run bkSR_run_69 (lv' := [(4, .int v1), (3, .ref 313), (0, .ref 0), (1, .int q), (2, .int w)]) (st' := [.int (sg0 314 v1)]) (h' := zN sg0) (Ps := [zOb (zN sg0) 313 3 ∧ (zN sg0).2.2 313 0 = true, zInL (zN sg0) 314 v1]) rfl (zA ⟨zob_313, rfl⟩ (zA (zinL_314 (i := v1) (by lia) (by lia)) trivial)) ?_
      refine zG_calls (As := [.int (sg0 314 v1)]) (rest := []) (N2 := 411) bdSR_run_76 okSty_flagsOf lk9_251 (And.intro (by decide) (by decide)) rfl rfl (Nat.le_of_ble_eq_true rfl) (Nat.le_of_ble_eq_true rfl) (Nat.le_refl 411) (Nat.le_refl 411) cSty_flagsOf ?_
      rintro rr h' ⟨rfl, rfl⟩ -
      refine zb_iret bkSR_run_79 bdSR_run_79 rfl (x := fFl (sg0 314 v1)) (h' := zN sg0) (Ps := []) rfl trivial rfl ?_
      refine ⟨_, _, rfl, rfl, hq0, ts, ?_⟩
      rw [l3] at hx
      rcases hx with hx | hx
      · first | (exfalso; lia; done) | (refine Or.inl ⟨_, hx, ?_, ?_, ?_, ?_, ?_, ?_⟩ <;> first | (intro _; rfl) | (intro hw; exfalso; lia) | (intro hw; rw [l3] at he; exact ⟨_, he, rfl⟩))
      · first | exact Or.inr ⟨rfl, hx.2⟩ | (exfalso; lia)
    by_cases w7 : w = 3
    · refine zs_tableIn (off := 59) (tgt := 80) bdSR_run_21 (by rw [w7]; decide) (by rw [w7]; decide) (by rw [w7]; decide) (by decide) ?_
      refine zG_run bkSR_run_80 (lv' := [(4, .int v1), (3, .ref 313), (0, .ref 0), (1, .int q), (2, .int w)]) (st' := [.int (sg0 314 v1)]) (h' := zN sg0) (Ps := [zOb (zN sg0) 313 3 ∧ (zN sg0).2.2 313 0 = true, zInL (zN sg0) 314 v1]) rfl (zA ⟨zob_313, rfl⟩ (zA (zinL_314 (i := v1) (by lia) (by lia)) trivial)) ?_
      refine zG_calls (As := [.int (sg0 314 v1)]) (rest := []) (N2 := 411) bdSR_run_87 okSty_colorOf lk9_254 (And.intro (by decide) (by decide)) rfl rfl (Nat.le_of_ble_eq_true rfl) (Nat.le_of_ble_eq_true rfl) (Nat.le_refl 411) (Nat.le_refl 411) cSty_colorOf ?_
      rintro rr h' ⟨rfl, rfl⟩ -
      refine zb_iret bkSR_run_90 bdSR_run_90 rfl (x := fCo (sg0 314 v1)) (h' := zN sg0) (Ps := []) rfl trivial rfl ?_
      refine ⟨_, _, rfl, rfl, hq0, ts, ?_⟩
      rw [l3] at hx
      rcases hx with hx | hx
      · first | (exfalso; lia; done) | (refine Or.inl ⟨_, hx, ?_, ?_, ?_, ?_, ?_, ?_⟩ <;> first | (intro _; rfl) | (intro hw; exfalso; lia) | (intro hw; rw [l3] at he; exact ⟨_, he, rfl⟩))
      · first | exact Or.inr ⟨rfl, hx.2⟩ | (exfalso; lia)
    by_cases w8 : w = 4
    · refine zs_tableIn (off := 70) (tgt := 91) bdSR_run_21 (by rw [w8]; decide) (by rw [w8]; decide) (by rw [w8]; decide) (by decide) ?_
      refine zG_run bkSR_run_91 (lv' := [(4, .int v1), (3, .ref 313), (0, .ref 0), (1, .int q), (2, .int w)]) (st' := [.int (sg0 314 v1)]) (h' := zN sg0) (Ps := [zOb (zN sg0) 313 3 ∧ (zN sg0).2.2 313 0 = true, zInL (zN sg0) 314 v1]) rfl (zA ⟨zob_313, rfl⟩ (zA (zinL_314 (i := v1) (by lia) (by lia)) trivial)) ?_
      refine zG_calls (As := [.int (sg0 314 v1)]) (rest := []) (N2 := 411) bdSR_run_98 okSty_sizeOf lk9_257 (And.intro (by decide) (by decide)) rfl rfl (Nat.le_of_ble_eq_true rfl) (Nat.le_of_ble_eq_true rfl) (Nat.le_refl 411) (Nat.le_refl 411) cSty_sizeOf ?_
      rintro rr h' ⟨rfl, rfl⟩ -
      refine zb_iret bkSR_run_101 bdSR_run_101 rfl (x := fSz (sg0 314 v1)) (h' := zN sg0) (Ps := []) rfl trivial rfl ?_
      refine ⟨_, _, rfl, rfl, hq0, ts, ?_⟩
      rw [l3] at hx
      rcases hx with hx | hx
      · first | (exfalso; lia; done) | (refine Or.inl ⟨_, hx, ?_, ?_, ?_, ?_, ?_, ?_⟩ <;> first | (intro _; rfl) | (intro hw; exfalso; lia) | (intro hw; rw [l3] at he; exact ⟨_, he, rfl⟩))
      · first | exact Or.inr ⟨rfl, hx.2⟩ | (exfalso; lia)
    refine zs_tableOut (tgt := 102) bdSR_run_21 (zsw_out (x := w) (n := 5) (by decide) (by intro j hj; match j, hj with | 0, _ => exact w3 | 1, _ => exact w4 | 2, _ => exact w6 | 3, _ => exact w7 | 4, _ => exact w8)) (by decide) ?_
    refine zb_iret bkSR_run_102 bdSR_run_103 rfl (x := (-1)) (h' := zN sg0) (Ps := []) rfl trivial rfl ?_
    refine ⟨_, _, rfl, rfl, hq0, ts, ?_⟩
    rw [l3] at hx
    rcases hx with hx | hx
    · first | (exfalso; lia; done) | (refine Or.inl ⟨_, hx, ?_, ?_, ?_, ?_, ?_, ?_⟩ <;> first | (intro _; rfl) | (intro hw; exfalso; lia) | (intro hw; rw [l3] at he; exact ⟨_, he, rfl⟩))
    · first | exact Or.inr ⟨rfl, hx.2⟩ | (exfalso; lia)
  · skip
    refine zb_iret bkSR_run_18 bdSR_run_19 rfl (x := (-1)) (h' := zN sg0) (Ps := []) rfl trivial rfl ?_
    refine ⟨_, _, rfl, rfl, hq0, ts, ?_⟩
    rw [l3] at hx
    rcases hx with hx | hx
    · first | (exfalso; lia; done) | (refine Or.inl ⟨_, hx, ?_, ?_, ?_, ?_, ?_, ?_⟩ <;> first | (intro _; rfl) | (intro hw; exfalso; lia) | (intro hw; rw [l3] at he; exact ⟨_, he, rfl⟩))
    · first | exact Or.inr ⟨rfl, hx.2⟩ | (exfalso; lia)
def sk1 (sg : zSig) (i q lay k : Int32) (p : Int32 × Int32) : Int32 × Int32 := if sg (zel 4 k) 3 = lay ∧ sg (zel 4 k) 0 ≠ 0 ∧ sg (zel 4 k) 1 ≤ i ∧ i < sg (zel 4 k) 2 then (p.1 + 1, if p.1 = q ∧ p.2 = -1 then k else p.2) else p
def sk2 (sg : zSig) (i q lay : Int32) (p : Int32 × Int32) : Int32 × Int32 := zit (sk1 sg i q lay) p (sg 1 4)
def qSk (sg : zSig) (i q : Int32) : Int32 := (zit (sk2 sg i q) (0, -1) 10).2
theorem sk1_st {sg : zSig} {i q lay k k0 : Int32} {p : Int32 × Int32} (h0 : k0 ≠ -1) (h : p.2 = k0) : (sk1 sg i q lay k p).2 = k0 := by
  unfold sk1
  split
  · show (if p.1 = q ∧ p.2 = -1 then k else p.2) = k0
    rw [if_neg (fun q => h0 (h ▸ q.2))]; exact h
  · exact h
theorem bkSR_stack_0 : zBk mSR_stack 0 [(1, 0, 1, 0, 0), (5, 9, 0, 1, 0), (1, 1, 0, 0, 0)] = some 5 := by decide +kernel
theorem bkSR_stack_8 : zBk mSR_stack 8 [] = some 8 := by decide +kernel
theorem bkSR_stack_15 : zBk mSR_stack 15 [(0, 0, 0, 0, -1)] = some 16 := by decide +kernel
theorem bkSR_stack_11 : zBk mSR_stack 11 [(1, 2, 0, 0, 0)] = some 12 := by decide +kernel
theorem bkSR_stack_17 : zBk mSR_stack 17 [(0, 0, 0, 0, 0), (2, 3, 0, 0, 0), (0, 0, 0, 0, 0), (2, 4, 0, 0, 0)] = some 22 := by decide +kernel
theorem bkSR_stack_22 : zBk mSR_stack 22 [(1, 4, 0, 0, 0), (0, 0, 0, 0, 10)] = some 26 := by decide +kernel
theorem bkSR_stack_101 : zBk mSR_stack 101 [(0, 0, 0, 0, -1)] = some 102 := by decide +kernel
theorem bkSR_stack_29 : zBk mSR_stack 29 [(0, 0, 0, 0, 0), (2, 5, 0, 0, 0)] = some 32 := by decide +kernel
theorem bkSR_stack_32 : zBk mSR_stack 32 [(1, 5, 0, 0, 0), (1, 0, 1, 0, 0), (5, 9, 0, 1, 0), (5, 5, 4, 0, 4)] = some 41 := by decide +kernel
theorem bkSR_stack_95 : zBk mSR_stack 95 [(3, 4, 0, 0, 1), (22, 22, 0, 0, 0)] = some 22 := by decide +kernel
theorem bkSR_stack_44 : zBk mSR_stack 44 [(1, 0, 1, 0, 0), (5, 9, 0, 1, 0), (5, 5, 3, 3, 3), (1, 5, 0, 0, 0), (9, 0, 0, 0, 0), (2, 6, 1, 0, 0), (1, 6, 1, 0, 0), (5, 6, 3, 0, 3), (1, 4, 0, 0, 0)] = some 63 := by decide +kernel
theorem bkSR_stack_89 : zBk mSR_stack 89 [(3, 5, 0, 0, 1), (22, 32, 0, 0, 0)] = some 32 := by decide +kernel
theorem bkSR_stack_66 : zBk mSR_stack 66 [(1, 6, 1, 0, 0), (1, 1, 0, 0, 0)] = some 69 := by decide +kernel
theorem bkSR_stack_72 : zBk mSR_stack 72 [] = some 72 := by decide +kernel
theorem bkSR_stack_78 : zBk mSR_stack 78 [(1, 3, 0, 0, 0), (1, 2, 0, 0, 0)] = some 80 := by decide +kernel
theorem bkSR_stack_86 : zBk mSR_stack 86 [(3, 3, 0, 0, 1), (3, 5, 0, 0, 1), (22, 32, 0, 0, 0)] = some 32 := by decide +kernel
theorem bkSR_stack_83 : zBk mSR_stack 83 [(1, 5, 0, 0, 0)] = some 85 := by decide +kernel
theorem bkSR_stack_75 : zBk mSR_stack 75 [(22, 89, 0, 0, 0), (3, 5, 0, 0, 1), (22, 32, 0, 0, 0)] = some 32 := by decide +kernel
theorem bdSR_stack_5 : decode mSR_stack.2.2.1 5 = .ok (.invokevirtual 245, 3) := by decide +kernel
theorem bdSR_stack_8 : decode mSR_stack.2.2.1 8 = .ok (.ifCond .eq 7, 3) := by decide +kernel
theorem bdSR_stack_12 : decode mSR_stack.2.2.1 12 = .ok (.ifCond .ge 5, 3) := by decide +kernel
theorem bdSR_stack_16 : decode mSR_stack.2.2.1 16 = .ok (.ireturn, 1) := by decide +kernel
theorem bdSR_stack_26 : decode mSR_stack.2.2.1 26 = .ok (.if_icmp .ge 75, 3) := by decide +kernel
theorem bdSR_stack_41 : decode mSR_stack.2.2.1 41 = .ok (.if_icmp .ge 54, 3) := by decide +kernel
theorem bdSR_stack_63 : decode mSR_stack.2.2.1 63 = .ok (.if_icmp .ne 26, 3) := by decide +kernel
theorem bdSR_stack_69 : decode mSR_stack.2.2.1 69 = .ok (.invokevirtual 266, 3) := by decide +kernel
theorem bdSR_stack_72 : decode mSR_stack.2.2.1 72 = .ok (.ifCond .ne 6, 3) := by decide +kernel
theorem bdSR_stack_80 : decode mSR_stack.2.2.1 80 = .ok (.if_icmp .ne 6, 3) := by decide +kernel
theorem bdSR_stack_85 : decode mSR_stack.2.2.1 85 = .ok (.ireturn, 1) := by decide +kernel
theorem bdSR_stack_102 : decode mSR_stack.2.2.1 102 = .ok (.ireturn, 1) := by decide +kernel
theorem lSR_stack {sg : zSig} {i q : Int32} (ob : okS sg 1) (h0 : 0 ≤ sg 36 2) (h1 : sg 36 2 < 8) (u0 : 0 ≤ sg 36 3) (u1 : sg 36 3 ≤ 8) (hf : okF sg) {Q : Option Value → zHp → Prop} (hq : ∀ rr h', (∃ v sg', rr = some (.int v) ∧ h' = zN sg' ∧ hQ sg sg' ∧ ((¬ ((0 ≤ i ∧ i < sg 1 2) ∧ 0 ≤ q) ∧ v = -1) ∨ ((0 ≤ i ∧ i < sg 1 2) ∧ 0 ≤ q ∧ v = qSk sg i q))) → Q rr h') : zG mSR_stack 411 Q 0 [(0, .ref 0), (1, .int i), (2, .int q)] [] (zN sg) := by
  obtain ⟨⟨n0, n1⟩, ⟨g0, g1⟩, ⟨a0, a1⟩, -⟩ := id ob
  refine zG_run bkSR_stack_0 (lv' := [(0, .ref 0), (1, .int i), (2, .int q)]) (st' := [.int i, .ref 1]) (h' := zN sg) (Ps := [zOb (zN sg) 0 9 ∧ (zN sg).2.2 0 0 = true]) rfl (zA ⟨zob_0, rfl⟩ trivial) ?_
  refine zG_callv (a := 1) (c := 5) (As := [.int i]) (rest := []) (N2 := 411) bdSR_stack_5 okShe_hasLetter lk9_245 (And.intro (by decide) (by decide)) (by decide) rfl rfl rfl (Nat.le_of_ble_eq_true rfl) (Nat.le_of_ble_eq_true rfl) (Nat.le_refl 411) (Nat.le_refl 411) zob_1 cShe_hasLetter ?_
  rintro rr h' ⟨rfl, rfl⟩ -
  refine zb_ifeq (tgt := 15) bkSR_stack_8 bdSR_stack_8 (by decide) (lv' := [(0, .ref 0), (1, .int i), (2, .int q)]) (st' := []) (h' := zN sg) (x := if 0 ≤ i ∧ i < sg 1 2 then 1 else 0) (Ps := []) rfl trivial (fun c1 => ?_) (fun c1 => ?_)
  · skip
    refine zb_iret bkSR_stack_15 bdSR_stack_16 rfl (x := (-1)) (h' := zN sg) (Ps := []) rfl trivial rfl ?_
    refine hq _ _ ?_
    exact ⟨_, _, rfl, rfl, hQ_refl hf, Or.inl ⟨by lia, rfl⟩⟩
  · skip
    refine zb_ifge (tgt := 17) bkSR_stack_11 bdSR_stack_12 (by decide) (lv' := [(0, .ref 0), (1, .int i), (2, .int q)]) (st' := []) (h' := zN sg) (x := q) (Ps := []) rfl trivial (fun c2 => ?_) (fun c2 => ?_)
    · skip
      refine zG_run bkSR_stack_17 (lv' := [(4, .int 0), (3, .int 0), (0, .ref 0), (1, .int i), (2, .int q)]) (st' := []) (h' := zN sg) (Ps := []) rfl trivial ?_
      refine zG_pick (lv' := [(0, .ref 0), (1, .int i), (2, .int q), (3, .int 0), (4, .int 0)]) [2, 3, 4, 1, 0] rfl ?_
      refine zlp2 (fun (n : Int32) (lay : Int32) => zG mSR_stack 411 Q 22 [(0, .ref 0), (1, .int i), (2, .int q), (3, .int n), (4, .int lay)] [] (zN sg)) (fun (n : Int32) (lay : Int32) => (0 ≤ lay) ∧ (lay ≤ 10) ∧ ((n, (-1 : Int32)) = zit (sk2 sg i q) (0, -1) lay)) (fun (n : Int32) (lay : Int32) => zmu 10 lay) ?_ 0 0 ?_
      · intro n lay ho iho
        obtain ⟨l0, l1, lz⟩ := ho
        refine zb_icge (tgt := 101) bkSR_stack_22 bdSR_stack_26 (by decide) (lv' := [(0, .ref 0), (1, .int i), (2, .int q), (3, .int n), (4, .int lay)]) (st' := []) (h' := zN sg) (x := lay) (y := 10) (Ps := []) rfl trivial (fun c3 => ?_) (fun c3 => ?_)
        · skip
          refine zb_iret bkSR_stack_101 bdSR_stack_102 rfl (x := (-1)) (h' := zN sg) (Ps := []) rfl trivial rfl ?_
          refine hq _ _ ?_
          refine ⟨_, _, rfl, rfl, hQ_refl hf, Or.inr ⟨by lia, by lia, ?_⟩⟩
          unfold qSk; rw [show (10 : Int32) = lay by lia, ← lz]
        · skip
          refine zG_run bkSR_stack_29 (lv' := [(5, .int 0), (0, .ref 0), (1, .int i), (2, .int q), (3, .int n), (4, .int lay)]) (st' := []) (h' := zN sg) (Ps := []) rfl trivial ?_
          refine zG_pick (lv' := [(0, .ref 0), (1, .int i), (2, .int q), (3, .int n), (4, .int lay), (5, .int 0)]) [1, 2, 3, 4, 5, 0] rfl ?_
          refine zlp2 (fun (n : Int32) (k : Int32) => zG mSR_stack 411 Q 32 [(0, .ref 0), (1, .int i), (2, .int q), (3, .int n), (4, .int lay), (5, .int k)] [] (zN sg)) (fun (n : Int32) (k : Int32) => (0 ≤ k) ∧ (k ≤ sg 1 4) ∧ ((n, (-1 : Int32)) = zit (sk1 sg i q lay) (zit (sk2 sg i q) (0, -1) lay) k)) (fun (n : Int32) (k : Int32) => zmu (sg 1 4) k) ?_ n 0 ?_
          · intro n k hk ihk
            obtain ⟨k0, k1, kz⟩ := hk
            refine zb_icge (tgt := 95) bkSR_stack_32 bdSR_stack_41 (by decide) (lv' := [(0, .ref 0), (1, .int i), (2, .int q), (3, .int n), (4, .int lay), (5, .int k)]) (st' := []) (h' := zN sg) (x := k) (y := sg 1 4) (Ps := [zOb (zN sg) 0 9 ∧ (zN sg).2.2 0 0 = true, zOb (zN sg) 1 5]) rfl (zA ⟨zob_0, rfl⟩ (zA zob_1 trivial)) (fun c4 => ?_) (fun c4 => ?_)
            · skip
              refine zG_run bkSR_stack_95 (lv' := [(4, .int (lay + 1)), (0, .ref 0), (1, .int i), (2, .int q), (3, .int n), (5, .int k)]) (st' := []) (h' := zN sg) (Ps := []) rfl trivial ?_
              refine zG_pick (lv' := [(0, .ref 0), (1, .int i), (2, .int q), (3, .int n), (4, .int (lay + 1))]) [1, 2, 3, 4, 0] rfl ?_
              refine iho n (lay + 1) ?_ ?_
              · refine ⟨?_, ?_, ?_⟩
                · lia
                · lia
                · rw [zit_s _ _ l0 (by lia : lay < 10)]; rw [show k = sg 1 4 by lia] at kz; exact kz
              · exact zmu_up (by lia)
            · skip
              refine zb_icne (tgt := 89) bkSR_stack_44 bdSR_stack_63 (by decide) (lv' := [(6, .ref (zel 4 k)), (0, .ref 0), (1, .int i), (2, .int q), (3, .int n), (4, .int lay), (5, .int k)]) (st' := []) (h' := zN sg) (x := sg (zel 4 k) 3) (y := lay) (Ps := [zOb (zN sg) 0 9 ∧ (zN sg).2.2 0 0 = true, zOb (zN sg) 1 5 ∧ (zN sg).2.2 1 3 = true, zInR (zN sg) 4 k, zOb (zN sg) (zel 4 k) 6]) rfl (zA ⟨zob_0, rfl⟩ (zA ⟨zob_1, rfl⟩ (zA (zinR_4 (i := k) (by lia) (by lia)) (zA (zel_ob4 (i := k) (by lia) (by lia)) trivial)))) (fun c5 => ?_) (fun c5 => ?_)
              · skip
                refine zG_run bkSR_stack_89 (lv' := [(5, .int (k + 1)), (6, .ref (zel 4 k)), (0, .ref 0), (1, .int i), (2, .int q), (3, .int n), (4, .int lay)]) (st' := []) (h' := zN sg) (Ps := []) rfl trivial ?_
                refine zG_pick (lv' := [(0, .ref 0), (1, .int i), (2, .int q), (3, .int n), (4, .int lay), (5, .int (k + 1))]) [2, 3, 4, 5, 6, 0] rfl ?_
                refine ihk n (k + 1) ?_ ?_
                · refine ⟨?_, ?_, ?_⟩
                  · lia
                  · lia
                  · rw [zit_s _ _ k0 (by lia : k < sg 1 4), ← kz]; unfold sk1; clear ihk iho hq kz lz; grind
                · exact zmu_up (by lia)
              · skip
                refine zG_run bkSR_stack_66 (lv' := [(6, .ref (zel 4 k)), (0, .ref 0), (1, .int i), (2, .int q), (3, .int n), (4, .int lay), (5, .int k)]) (st' := [.int i, .ref (zel 4 k)]) (h' := zN sg) (Ps := []) rfl trivial ?_
                refine zG_callv (a := zel 4 k) (c := 6) (As := [.int i]) (rest := []) (N2 := 411) bdSR_stack_69 okSpa_liesOver lk9_266 (And.intro (by decide) (by decide)) (by decide) rfl rfl rfl (Nat.le_of_ble_eq_true rfl) (Nat.le_of_ble_eq_true rfl) (Nat.le_refl 411) (Nat.le_refl 411) (zel_ob4 (i := k) (by lia) (by lia)) (cSpa_liesOver (zel_ob4 (i := k) (by lia) (by lia))) ?_
                rintro rr h' ⟨rfl, rfl⟩ -
                refine zb_ifne (tgt := 78) bkSR_stack_72 bdSR_stack_72 (by decide) (lv' := [(6, .ref (zel 4 k)), (0, .ref 0), (1, .int i), (2, .int q), (3, .int n), (4, .int lay), (5, .int k)]) (st' := []) (h' := zN sg) (x := if sg (zel 4 k) 0 ≠ 0 ∧ sg (zel 4 k) 1 ≤ i ∧ i < sg (zel 4 k) 2 then 1 else 0) (Ps := []) rfl trivial (fun c6 => ?_) (fun c6 => ?_)
                · skip
                  refine zb_icne (tgt := 86) bkSR_stack_78 bdSR_stack_80 (by decide) (lv' := [(6, .ref (zel 4 k)), (0, .ref 0), (1, .int i), (2, .int q), (3, .int n), (4, .int lay), (5, .int k)]) (st' := []) (h' := zN sg) (x := n) (y := q) (Ps := []) rfl trivial (fun c7 => ?_) (fun c7 => ?_)
                  · skip
                    refine zG_run bkSR_stack_86 (lv' := [(5, .int (k + 1)), (3, .int (n + 1)), (6, .ref (zel 4 k)), (0, .ref 0), (1, .int i), (2, .int q), (4, .int lay)]) (st' := []) (h' := zN sg) (Ps := []) rfl trivial ?_
                    refine zG_pick (lv' := [(0, .ref 0), (1, .int i), (2, .int q), (3, .int (n + 1)), (4, .int lay), (5, .int (k + 1))]) [3, 4, 5, 1, 6, 0] rfl ?_
                    refine ihk (n + 1) (k + 1) ?_ ?_
                    · refine ⟨?_, ?_, ?_⟩
                      · lia
                      · lia
                      · rw [zit_s _ _ k0 (by lia : k < sg 1 4), ← kz]; unfold sk1; clear ihk iho hq kz lz; grind
                    · exact zmu_up (by lia)
                  · skip
                    refine zb_iret bkSR_stack_83 bdSR_stack_85 rfl (x := k) (h' := zN sg) (Ps := []) rfl trivial rfl ?_
                    refine hq _ _ ?_
                    refine ⟨_, _, rfl, rfl, hQ_refl hf, Or.inr ⟨by lia, by lia, ?_⟩⟩
                    have e1 : (zit (sk1 sg i q lay) (zit (sk2 sg i q) (0, -1) lay) (k + 1)).2 = k := by rw [zit_s _ _ k0 (by lia : k < sg 1 4), ← kz]; unfold sk1; clear ihk iho hq kz lz; grind
                    have e2 : (zit (sk2 sg i q) (0, -1) (lay + 1)).2 = k := by rw [zit_s _ _ l0 (by lia : lay < 10)]; exact zit_stable (P := fun x : Int32 × Int32 => x.2 = k) (i := k + 1) (by lia) (by lia) (fun j x _ _ h => sk1_st (by lia) h) e1
                    exact (zit_stable (P := fun x : Int32 × Int32 => x.2 = k) (i := lay + 1) (by lia) (by lia) (fun j x _ _ h => zit_stable (P := fun x : Int32 × Int32 => x.2 = k) (i := 0) (Int32.le_refl 0) (by lia) (fun j x _ _ h => sk1_st (by lia) h) h) e2).symm
                · skip
                  refine zG_run bkSR_stack_75 (lv' := [(5, .int (k + 1)), (6, .ref (zel 4 k)), (0, .ref 0), (1, .int i), (2, .int q), (3, .int n), (4, .int lay)]) (st' := []) (h' := zN sg) (Ps := []) rfl trivial ?_
                  refine zG_pick (lv' := [(0, .ref 0), (1, .int i), (2, .int q), (3, .int n), (4, .int lay), (5, .int (k + 1))]) [2, 3, 4, 5, 6, 0] rfl ?_
                  refine ihk n (k + 1) ?_ ?_
                  · refine ⟨?_, ?_, ?_⟩
                    · lia
                    · lia
                    · rw [zit_s _ _ k0 (by lia : k < sg 1 4), ← kz]; unfold sk1; clear ihk iho hq kz lz; grind
                  · exact zmu_up (by lia)
          · refine ⟨?_, ?_, ?_⟩
            · lia
            · lia
            · rw [zit_0]; exact lz
      · refine ⟨?_, ?_, ?_⟩
        · lia
        · lia
        · rfl
    · skip
      refine zb_iret bkSR_stack_15 bdSR_stack_16 rfl (x := (-1)) (h' := zN sg) (Ps := []) rfl trivial rfl ?_
      refine hq _ _ ?_
      exact ⟨_, _, rfl, rfl, hQ_refl hf, Or.inl ⟨by lia, rfl⟩⟩
theorem cSR_stack {sg : zSig} {i q : Int32} (ob : okS sg 1) (h0 : 0 ≤ sg 36 2) (h1 : sg 36 2 < 8) (u0 : 0 ≤ sg 36 3) (u1 : sg 36 3 ≤ 8) (hf : okF sg) : zG mSR_stack 411 (fun rr h' => ∃ v sg', rr = some (.int v) ∧ h' = zN sg' ∧ hQ sg sg' ∧ ((¬ ((0 ≤ i ∧ i < sg 1 2) ∧ 0 ≤ q) ∧ v = -1) ∨ ((0 ≤ i ∧ i < sg 1 2) ∧ 0 ≤ q ∧ v = qSk sg i q))) 0 [(0, .ref 0), (1, .int i), (2, .int q)] [] (zN sg) := lSR_stack ob h0 h1 u0 u1 hf (fun _ _ q => q)
def spk (sg : zSig) (k w : Int32) : Int32 := if w = 0 then (if sg (zel 4 k) 6 = -1 then 0 else 1) else if w = 1 then (if sg (zel 4 k) 7 = 0 then 0 else 1) else if 2 ≤ w ∧ w ≤ 5 ∧ ((sg (zel 4 k) 4 ||| sg (zel 4 k) 5) >>> ((w - 2) &&& 31)) &&& 1 = 1 then 1 else 0
def tl1 (sg : zSig) (i w lay k a : Int32) : Int32 := if sg (zel 4 k) 3 = lay ∧ (sg (zel 4 k) 0 ≠ 0 ∧ sg (zel 4 k) 1 ≤ i ∧ i < sg (zel 4 k) 2) ∧ spk sg k w ≠ 0 then k else a
def tl2 (sg : zSig) (i w lay a : Int32) : Int32 := zit (tl1 sg i w lay) a (sg 1 4)
def qTl (sg : zSig) (i w : Int32) : Int32 := if 0 ≤ i ∧ i < sg 1 2 then zit (tl2 sg i w) (-1) 10 else -1
theorem bkSR_tells_0 : zBk mSR_tells 0 [(1, 0, 1, 0, 0), (5, 9, 0, 1, 0), (1, 1, 0, 0, 0)] = some 5 := by decide +kernel
theorem bkSR_tells_8 : zBk mSR_tells 8 [] = some 8 := by decide +kernel
theorem bkSR_tells_13 : zBk mSR_tells 13 [(0, 0, 0, 0, -1), (2, 3, 0, 0, 0), (0, 0, 0, 0, 0), (2, 4, 0, 0, 0)] = some 18 := by decide +kernel
theorem bkSR_tells_18 : zBk mSR_tells 18 [(1, 4, 0, 0, 0), (0, 0, 0, 0, 10)] = some 22 := by decide +kernel
theorem bkSR_tells_95 : zBk mSR_tells 95 [(1, 3, 0, 0, 0)] = some 96 := by decide +kernel
theorem bkSR_tells_25 : zBk mSR_tells 25 [(0, 0, 0, 0, 0), (2, 5, 0, 0, 0)] = some 28 := by decide +kernel
theorem bkSR_tells_28 : zBk mSR_tells 28 [(1, 5, 0, 0, 0), (1, 0, 1, 0, 0), (5, 9, 0, 1, 0), (5, 5, 4, 0, 4)] = some 37 := by decide +kernel
theorem bkSR_tells_89 : zBk mSR_tells 89 [(3, 4, 0, 0, 1), (22, 18, 0, 0, 0)] = some 18 := by decide +kernel
theorem bkSR_tells_40 : zBk mSR_tells 40 [(1, 0, 1, 0, 0), (5, 9, 0, 1, 0), (5, 5, 3, 3, 3), (1, 5, 0, 0, 0), (9, 0, 0, 0, 0), (2, 6, 1, 0, 0), (1, 6, 1, 0, 0), (5, 6, 3, 0, 3), (1, 4, 0, 0, 0)] = some 59 := by decide +kernel
theorem bkSR_tells_83 : zBk mSR_tells 83 [(3, 5, 0, 0, 1), (22, 28, 0, 0, 0)] = some 28 := by decide +kernel
theorem bkSR_tells_62 : zBk mSR_tells 62 [(1, 6, 1, 0, 0), (1, 1, 0, 0, 0)] = some 65 := by decide +kernel
theorem bkSR_tells_68 : zBk mSR_tells 68 [] = some 68 := by decide +kernel
theorem bkSR_tells_71 : zBk mSR_tells 71 [(1, 6, 1, 0, 0), (1, 2, 0, 0, 0)] = some 74 := by decide +kernel
theorem bkSR_tells_77 : zBk mSR_tells 77 [] = some 77 := by decide +kernel
theorem bkSR_tells_80 : zBk mSR_tells 80 [(1, 5, 0, 0, 0), (2, 3, 0, 0, 0), (3, 5, 0, 0, 1), (22, 28, 0, 0, 0)] = some 28 := by decide +kernel
theorem bkSR_tells_11 : zBk mSR_tells 11 [(0, 0, 0, 0, -1)] = some 12 := by decide +kernel
theorem bdSR_tells_5 : decode mSR_tells.2.2.1 5 = .ok (.invokevirtual 245, 3) := by decide +kernel
theorem bdSR_tells_8 : decode mSR_tells.2.2.1 8 = .ok (.ifCond .ne 5, 3) := by decide +kernel
theorem bdSR_tells_12 : decode mSR_tells.2.2.1 12 = .ok (.ireturn, 1) := by decide +kernel
theorem bdSR_tells_22 : decode mSR_tells.2.2.1 22 = .ok (.if_icmp .ge 73, 3) := by decide +kernel
theorem bdSR_tells_37 : decode mSR_tells.2.2.1 37 = .ok (.if_icmp .ge 52, 3) := by decide +kernel
theorem bdSR_tells_59 : decode mSR_tells.2.2.1 59 = .ok (.if_icmp .ne 24, 3) := by decide +kernel
theorem bdSR_tells_65 : decode mSR_tells.2.2.1 65 = .ok (.invokevirtual 266, 3) := by decide +kernel
theorem bdSR_tells_68 : decode mSR_tells.2.2.1 68 = .ok (.ifCond .eq 15, 3) := by decide +kernel
theorem bdSR_tells_74 : decode mSR_tells.2.2.1 74 = .ok (.invokevirtual 269, 3) := by decide +kernel
theorem bdSR_tells_77 : decode mSR_tells.2.2.1 77 = .ok (.ifCond .eq 6, 3) := by decide +kernel
theorem bdSR_tells_96 : decode mSR_tells.2.2.1 96 = .ok (.ireturn, 1) := by decide +kernel
theorem lSR_tells {sg : zSig} {i w : Int32} (ob : okS sg 1) (h0 : 0 ≤ sg 36 2) (h1 : sg 36 2 < 8) (u0 : 0 ≤ sg 36 3) (u1 : sg 36 3 ≤ 8) (hf : okF sg) {Q : Option Value → zHp → Prop} (hq : ∀ rr h', (∃ v sg', rr = some (.int v) ∧ h' = zN sg' ∧ hQ sg sg' ∧ v = qTl sg i w) → Q rr h') : zG mSR_tells 411 Q 0 [(0, .ref 0), (1, .int i), (2, .int w)] [] (zN sg) := by
  obtain ⟨⟨n0, n1⟩, ⟨g0, g1⟩, ⟨a0, a1⟩, -⟩ := id ob
  refine zG_run bkSR_tells_0 (lv' := [(0, .ref 0), (1, .int i), (2, .int w)]) (st' := [.int i, .ref 1]) (h' := zN sg) (Ps := [zOb (zN sg) 0 9 ∧ (zN sg).2.2 0 0 = true]) rfl (zA ⟨zob_0, rfl⟩ trivial) ?_
  refine zG_callv (a := 1) (c := 5) (As := [.int i]) (rest := []) (N2 := 411) bdSR_tells_5 okShe_hasLetter lk9_245 (And.intro (by decide) (by decide)) (by decide) rfl rfl rfl (Nat.le_of_ble_eq_true rfl) (Nat.le_of_ble_eq_true rfl) (Nat.le_refl 411) (Nat.le_refl 411) zob_1 cShe_hasLetter ?_
  rintro rr h' ⟨rfl, rfl⟩ -
  refine zb_ifne (tgt := 13) bkSR_tells_8 bdSR_tells_8 (by decide) (lv' := [(0, .ref 0), (1, .int i), (2, .int w)]) (st' := []) (h' := zN sg) (x := if 0 ≤ i ∧ i < sg 1 2 then 1 else 0) (Ps := []) rfl trivial (fun c1 => ?_) (fun c1 => ?_)
  · skip
    refine zG_run bkSR_tells_13 (lv' := [(4, .int 0), (3, .int (-1)), (0, .ref 0), (1, .int i), (2, .int w)]) (st' := []) (h' := zN sg) (Ps := []) rfl trivial ?_
    refine zG_pick (lv' := [(0, .ref 0), (1, .int i), (2, .int w), (3, .int (-1)), (4, .int 0)]) [2, 3, 4, 1, 0] rfl ?_
    refine zlp2 (fun (n : Int32) (lay : Int32) => zG mSR_tells 411 Q 18 [(0, .ref 0), (1, .int i), (2, .int w), (3, .int n), (4, .int lay)] [] (zN sg)) (fun (n : Int32) (lay : Int32) => (0 ≤ lay) ∧ (lay ≤ 10) ∧ (n = zit (tl2 sg i w) (-1) lay)) (fun (n : Int32) (lay : Int32) => zmu 10 lay) ?_ (-1) 0 ?_
    · intro n lay ho iho
      obtain ⟨l0, l1, lz⟩ := ho
      refine zb_icge (tgt := 95) bkSR_tells_18 bdSR_tells_22 (by decide) (lv' := [(0, .ref 0), (1, .int i), (2, .int w), (3, .int n), (4, .int lay)]) (st' := []) (h' := zN sg) (x := lay) (y := 10) (Ps := []) rfl trivial (fun c2 => ?_) (fun c2 => ?_)
      · skip
        refine zb_iret bkSR_tells_95 bdSR_tells_96 rfl (x := n) (h' := zN sg) (Ps := []) rfl trivial rfl ?_
        refine hq _ _ ?_
        refine ⟨_, _, rfl, rfl, hQ_refl hf, ?_⟩
        unfold qTl
        rw [if_pos (by lia), show (10 : Int32) = lay by lia]; exact lz
      · skip
        refine zG_run bkSR_tells_25 (lv' := [(5, .int 0), (0, .ref 0), (1, .int i), (2, .int w), (3, .int n), (4, .int lay)]) (st' := []) (h' := zN sg) (Ps := []) rfl trivial ?_
        refine zG_pick (lv' := [(0, .ref 0), (1, .int i), (2, .int w), (3, .int n), (4, .int lay), (5, .int 0)]) [1, 2, 3, 4, 5, 0] rfl ?_
        refine zlp2 (fun (n : Int32) (k : Int32) => zG mSR_tells 411 Q 28 [(0, .ref 0), (1, .int i), (2, .int w), (3, .int n), (4, .int lay), (5, .int k)] [] (zN sg)) (fun (n : Int32) (k : Int32) => (0 ≤ k) ∧ (k ≤ sg 1 4) ∧ (n = zit (tl1 sg i w lay) (zit (tl2 sg i w) (-1) lay) k)) (fun (n : Int32) (k : Int32) => zmu (sg 1 4) k) ?_ n 0 ?_
        · intro n k hk ihk
          obtain ⟨k0, k1, kz⟩ := hk
          refine zb_icge (tgt := 89) bkSR_tells_28 bdSR_tells_37 (by decide) (lv' := [(0, .ref 0), (1, .int i), (2, .int w), (3, .int n), (4, .int lay), (5, .int k)]) (st' := []) (h' := zN sg) (x := k) (y := sg 1 4) (Ps := [zOb (zN sg) 0 9 ∧ (zN sg).2.2 0 0 = true, zOb (zN sg) 1 5]) rfl (zA ⟨zob_0, rfl⟩ (zA zob_1 trivial)) (fun c3 => ?_) (fun c3 => ?_)
          · skip
            refine zG_run bkSR_tells_89 (lv' := [(4, .int (lay + 1)), (0, .ref 0), (1, .int i), (2, .int w), (3, .int n), (5, .int k)]) (st' := []) (h' := zN sg) (Ps := []) rfl trivial ?_
            refine zG_pick (lv' := [(0, .ref 0), (1, .int i), (2, .int w), (3, .int n), (4, .int (lay + 1))]) [1, 2, 3, 4, 0] rfl ?_
            refine iho n (lay + 1) ?_ ?_
            · refine ⟨?_, ?_, ?_⟩
              · lia
              · lia
              · rw [zit_s _ _ l0 (by lia : lay < 10)]; rw [show k = sg 1 4 by lia] at kz; exact kz
            · exact zmu_up (by lia)
          · skip
            refine zb_icne (tgt := 83) bkSR_tells_40 bdSR_tells_59 (by decide) (lv' := [(6, .ref (zel 4 k)), (0, .ref 0), (1, .int i), (2, .int w), (3, .int n), (4, .int lay), (5, .int k)]) (st' := []) (h' := zN sg) (x := sg (zel 4 k) 3) (y := lay) (Ps := [zOb (zN sg) 0 9 ∧ (zN sg).2.2 0 0 = true, zOb (zN sg) 1 5 ∧ (zN sg).2.2 1 3 = true, zInR (zN sg) 4 k, zOb (zN sg) (zel 4 k) 6]) rfl (zA ⟨zob_0, rfl⟩ (zA ⟨zob_1, rfl⟩ (zA (zinR_4 (i := k) (by lia) (by lia)) (zA (zel_ob4 (i := k) (by lia) (by lia)) trivial)))) (fun c4 => ?_) (fun c4 => ?_)
            · skip
              refine zG_run bkSR_tells_83 (lv' := [(5, .int (k + 1)), (6, .ref (zel 4 k)), (0, .ref 0), (1, .int i), (2, .int w), (3, .int n), (4, .int lay)]) (st' := []) (h' := zN sg) (Ps := []) rfl trivial ?_
              refine zG_pick (lv' := [(0, .ref 0), (1, .int i), (2, .int w), (3, .int n), (4, .int lay), (5, .int (k + 1))]) [2, 3, 4, 5, 6, 0] rfl ?_
              refine ihk n (k + 1) ?_ ?_
              · refine ⟨?_, ?_, ?_⟩
                · lia
                · lia
                · rw [zit_s _ _ k0 (by lia : k < sg 1 4), ← kz]; unfold tl1; clear ihk iho hq kz lz; grind
              · exact zmu_up (by lia)
            · skip
              refine zG_run bkSR_tells_62 (lv' := [(6, .ref (zel 4 k)), (0, .ref 0), (1, .int i), (2, .int w), (3, .int n), (4, .int lay), (5, .int k)]) (st' := [.int i, .ref (zel 4 k)]) (h' := zN sg) (Ps := []) rfl trivial ?_
              refine zG_callv (a := zel 4 k) (c := 6) (As := [.int i]) (rest := []) (N2 := 411) bdSR_tells_65 okSpa_liesOver lk9_266 (And.intro (by decide) (by decide)) (by decide) rfl rfl rfl (Nat.le_of_ble_eq_true rfl) (Nat.le_of_ble_eq_true rfl) (Nat.le_refl 411) (Nat.le_refl 411) (zel_ob4 (i := k) (by lia) (by lia)) (cSpa_liesOver (zel_ob4 (i := k) (by lia) (by lia))) ?_
              rintro rr h' ⟨rfl, rfl⟩ -
              refine zb_ifeq (tgt := 83) bkSR_tells_68 bdSR_tells_68 (by decide) (lv' := [(6, .ref (zel 4 k)), (0, .ref 0), (1, .int i), (2, .int w), (3, .int n), (4, .int lay), (5, .int k)]) (st' := []) (h' := zN sg) (x := if sg (zel 4 k) 0 ≠ 0 ∧ sg (zel 4 k) 1 ≤ i ∧ i < sg (zel 4 k) 2 then 1 else 0) (Ps := []) rfl trivial (fun c5 => ?_) (fun c5 => ?_)
              · skip
                refine zG_run bkSR_tells_83 (lv' := [(5, .int (k + 1)), (6, .ref (zel 4 k)), (0, .ref 0), (1, .int i), (2, .int w), (3, .int n), (4, .int lay)]) (st' := []) (h' := zN sg) (Ps := []) rfl trivial ?_
                refine zG_pick (lv' := [(0, .ref 0), (1, .int i), (2, .int w), (3, .int n), (4, .int lay), (5, .int (k + 1))]) [2, 3, 4, 5, 6, 0] rfl ?_
                refine ihk n (k + 1) ?_ ?_
                · refine ⟨?_, ?_, ?_⟩
                  · lia
                  · lia
                  · rw [zit_s _ _ k0 (by lia : k < sg 1 4), ← kz]; unfold tl1; clear ihk iho hq kz lz; grind
                · exact zmu_up (by lia)
              · skip
                refine zG_run bkSR_tells_71 (lv' := [(6, .ref (zel 4 k)), (0, .ref 0), (1, .int i), (2, .int w), (3, .int n), (4, .int lay), (5, .int k)]) (st' := [.int w, .ref (zel 4 k)]) (h' := zN sg) (Ps := []) rfl trivial ?_
                refine zG_callv (a := zel 4 k) (c := 6) (As := [.int w]) (rest := []) (N2 := 411) bdSR_tells_74 okSpa_speaksOf lk9_269 (And.intro (by decide) (by decide)) (by decide) rfl rfl rfl (Nat.le_of_ble_eq_true rfl) (Nat.le_of_ble_eq_true rfl) (Nat.le_refl 411) (Nat.le_refl 411) (zel_ob4 (i := k) (by lia) (by lia)) (cSpa_speaksOf (zel_ob4 (i := k) (by lia) (by lia))) ?_
                rintro rr h' ⟨rfl, rfl⟩ -
                refine zb_ifeq (tgt := 83) bkSR_tells_77 bdSR_tells_77 (by decide) (lv' := [(6, .ref (zel 4 k)), (0, .ref 0), (1, .int i), (2, .int w), (3, .int n), (4, .int lay), (5, .int k)]) (st' := []) (h' := zN sg) (x := spk sg k w) (Ps := []) rfl trivial (fun c6 => ?_) (fun c6 => ?_)
                · skip
                  refine zG_run bkSR_tells_83 (lv' := [(5, .int (k + 1)), (6, .ref (zel 4 k)), (0, .ref 0), (1, .int i), (2, .int w), (3, .int n), (4, .int lay)]) (st' := []) (h' := zN sg) (Ps := []) rfl trivial ?_
                  refine zG_pick (lv' := [(0, .ref 0), (1, .int i), (2, .int w), (3, .int n), (4, .int lay), (5, .int (k + 1))]) [2, 3, 4, 5, 6, 0] rfl ?_
                  refine ihk n (k + 1) ?_ ?_
                  · refine ⟨?_, ?_, ?_⟩
                    · lia
                    · lia
                    · rw [zit_s _ _ k0 (by lia : k < sg 1 4), ← kz]; unfold tl1; clear ihk iho hq kz lz; grind
                  · exact zmu_up (by lia)
                · skip
                  refine zG_run bkSR_tells_80 (lv' := [(5, .int (k + 1)), (3, .int k), (6, .ref (zel 4 k)), (0, .ref 0), (1, .int i), (2, .int w), (4, .int lay)]) (st' := []) (h' := zN sg) (Ps := []) rfl trivial ?_
                  refine zG_pick (lv' := [(0, .ref 0), (1, .int i), (2, .int w), (3, .int k), (4, .int lay), (5, .int (k + 1))]) [3, 4, 5, 1, 6, 0] rfl ?_
                  refine ihk k (k + 1) ?_ ?_
                  · refine ⟨?_, ?_, ?_⟩
                    · lia
                    · lia
                    · rw [zit_s _ _ k0 (by lia : k < sg 1 4), ← kz]; unfold tl1; clear ihk iho hq kz lz; grind
                  · exact zmu_up (by lia)
        · refine ⟨?_, ?_, ?_⟩
          · lia
          · lia
          · rw [zit_0]; exact lz
    · refine ⟨?_, ?_, ?_⟩
      · lia
      · lia
      · rfl
  · skip
    refine zb_iret bkSR_tells_11 bdSR_tells_12 rfl (x := (-1)) (h' := zN sg) (Ps := []) rfl trivial rfl ?_
    refine hq _ _ ?_
    refine ⟨_, _, rfl, rfl, hQ_refl hf, ?_⟩
    unfold qTl
    rw [if_neg (by lia)]
theorem cSR_tells {sg : zSig} {i w : Int32} (ob : okS sg 1) (h0 : 0 ≤ sg 36 2) (h1 : sg 36 2 < 8) (u0 : 0 ≤ sg 36 3) (u1 : sg 36 3 ≤ 8) (hf : okF sg) : zG mSR_tells 411 (fun rr h' => ∃ v sg', rr = some (.int v) ∧ h' = zN sg' ∧ hQ sg sg' ∧ v = qTl sg i w) 0 [(0, .ref 0), (1, .int i), (2, .int w)] [] (zN sg) := lSR_tells ob h0 h1 u0 u1 hf (fun _ _ q => q)
theorem bkSR_runsWithout_0 : zBk mSR_runsWithout 0 [(1, 0, 1, 0, 0), (5, 9, 6, 315, 6), (1, 0, 1, 0, 0), (5, 9, 0, 1, 0), (1, 1, 0, 0, 0), (0, 0, 0, 0, -1), (0, 0, 0, 0, 0)] = some 11 := by decide +kernel
theorem bkSR_runsWithout_14 : zBk mSR_runsWithout 14 [(1, 0, 1, 0, 0), (5, 9, 6, 315, 6)] = some 18 := by decide +kernel
theorem bkSR_runsWithout_21 : zBk mSR_runsWithout 21 [] = some 21 := by decide +kernel
theorem bdSR_runsWithout_11 : decode mSR_runsWithout.2.2.1 11 = .ok (.invokevirtual 337, 3) := by decide +kernel
theorem bdSR_runsWithout_18 : decode mSR_runsWithout.2.2.1 18 = .ok (.invokevirtual 312, 3) := by decide +kernel
theorem bdSR_runsWithout_21 : decode mSR_runsWithout.2.2.1 21 = .ok (.ireturn, 1) := by decide +kernel
theorem cSR_runsWithout {sg : zSig} {k : Int32} (ob : okS sg 1) (h0 : 0 ≤ sg 36 2) (h1 : sg 36 2 < 8) (u0 : 0 ≤ sg 36 3) (u1 : sg 36 3 ≤ 8) (hf : okF sg) : zG mSR_runsWithout 411 (fun rr h' => ∃ v sg', rr = some (.int v) ∧ h' = zN sg' ∧ hQ sg sg' ∧ v = zit (rN (cS sg k (-1) 0)) 0 (sg 1 2)) 0 [(0, .ref 0), (1, .int k)] [] (zN sg) := by
  obtain ⟨⟨n0, n1⟩, ⟨g0, g1⟩, ⟨a0, a1⟩, -⟩ := id ob
  refine zG_run bkSR_runsWithout_0 (lv' := [(0, .ref 0), (1, .int k)]) (st' := [.int 0, .int (-1), .int k, .ref 1, .ref 315]) (h' := zN sg) (Ps := [zOb (zN sg) 0 9 ∧ (zN sg).2.2 0 6 = true, zOb (zN sg) 0 9 ∧ (zN sg).2.2 0 0 = true]) rfl (zA ⟨zob_0, rfl⟩ (zA ⟨zob_0, rfl⟩ trivial)) ?_
  refine zG_callv (a := 315) (c := 3) (As := [.ref 1, .int k, .int (-1), .int 0]) (rest := []) (N2 := 411) bdSR_runsWithout_11 okLoo_see lk9_337 (And.intro (by decide) (by decide)) (by decide) rfl rfl rfl (Nat.le_of_ble_eq_true rfl) (Nat.le_of_ble_eq_true rfl) (Nat.le_refl 411) (Nat.le_refl 411) zob_315 (cLoo_see_315 (by lia) (by lia) (by lia) (by lia)) ?_
  rintro rr h' ⟨sg5, rfl, rfl, s5, n5, t5⟩ -
  have hq5 : hQ sg sg5 := hQ_see hf ob s5
  refine zG_run bkSR_runsWithout_14 (lv' := [(0, .ref 0), (1, .int k)]) (st' := [.ref 315]) (h' := zN sg5) (Ps := [zOb (zN sg5) 0 9 ∧ (zN sg5).2.2 0 6 = true]) rfl (zA ⟨zob_0, rfl⟩ trivial) ?_
  refine zG_callv (a := 315) (c := 3) (As := []) (rest := []) (N2 := 411) bdSR_runsWithout_18 okLoo_howManyRuns lk9_312 (And.intro (by decide) (by decide)) (by decide) rfl rfl rfl (Nat.le_of_ble_eq_true rfl) (Nat.le_of_ble_eq_true rfl) (Nat.le_refl 411) (Nat.le_refl 411) zob_315 (cLoo_howManyRuns_315 (by lia) (by lia)) ?_
  rintro rr h' ⟨rfl, rfl⟩ -
  refine zb_iret bkSR_runsWithout_21 bdSR_runsWithout_21 rfl (x := zit (rN (sg5 316)) 0 (sg5 315 1)) (h' := zN sg5) (Ps := []) rfl trivial rfl ?_
  refine ⟨_, _, rfl, rfl, hq5, ?_⟩
  rw [n5]
  exact rN_congr (T := cS sg k (-1) 0) t5 n0 (Int32.le_refl _)
theorem bkSR_runsIfRaised_0 : zBk mSR_runsIfRaised 0 [(1, 0, 1, 0, 0), (5, 9, 6, 315, 6), (1, 0, 1, 0, 0), (5, 9, 0, 1, 0), (0, 0, 0, 0, -1), (1, 1, 0, 0, 0), (1, 2, 0, 0, 0)] = some 11 := by decide +kernel
theorem bkSR_runsIfRaised_14 : zBk mSR_runsIfRaised 14 [(1, 0, 1, 0, 0), (5, 9, 6, 315, 6)] = some 18 := by decide +kernel
theorem bkSR_runsIfRaised_21 : zBk mSR_runsIfRaised 21 [] = some 21 := by decide +kernel
theorem bdSR_runsIfRaised_11 : decode mSR_runsIfRaised.2.2.1 11 = .ok (.invokevirtual 337, 3) := by decide +kernel
theorem bdSR_runsIfRaised_18 : decode mSR_runsIfRaised.2.2.1 18 = .ok (.invokevirtual 312, 3) := by decide +kernel
theorem bdSR_runsIfRaised_21 : decode mSR_runsIfRaised.2.2.1 21 = .ok (.ireturn, 1) := by decide +kernel
theorem cSR_runsIfRaised {sg : zSig} {k l : Int32} (ob : okS sg 1) (h0 : 0 ≤ sg 36 2) (h1 : sg 36 2 < 8) (u0 : 0 ≤ sg 36 3) (u1 : sg 36 3 ≤ 8) (hf : okF sg) : zG mSR_runsIfRaised 411 (fun rr h' => ∃ v sg', rr = some (.int v) ∧ h' = zN sg' ∧ hQ sg sg' ∧ v = zit (rN (cS sg (-1) k l)) 0 (sg 1 2)) 0 [(0, .ref 0), (1, .int k), (2, .int l)] [] (zN sg) := by
  obtain ⟨⟨n0, n1⟩, ⟨g0, g1⟩, ⟨a0, a1⟩, -⟩ := id ob
  refine zG_run bkSR_runsIfRaised_0 (lv' := [(0, .ref 0), (1, .int k), (2, .int l)]) (st' := [.int l, .int k, .int (-1), .ref 1, .ref 315]) (h' := zN sg) (Ps := [zOb (zN sg) 0 9 ∧ (zN sg).2.2 0 6 = true, zOb (zN sg) 0 9 ∧ (zN sg).2.2 0 0 = true]) rfl (zA ⟨zob_0, rfl⟩ (zA ⟨zob_0, rfl⟩ trivial)) ?_
  refine zG_callv (a := 315) (c := 3) (As := [.ref 1, .int (-1), .int k, .int l]) (rest := []) (N2 := 411) bdSR_runsIfRaised_11 okLoo_see lk9_337 (And.intro (by decide) (by decide)) (by decide) rfl rfl rfl (Nat.le_of_ble_eq_true rfl) (Nat.le_of_ble_eq_true rfl) (Nat.le_refl 411) (Nat.le_refl 411) zob_315 (cLoo_see_315 (by lia) (by lia) (by lia) (by lia)) ?_
  rintro rr h' ⟨sg5, rfl, rfl, s5, n5, t5⟩ -
  have hq5 : hQ sg sg5 := hQ_see hf ob s5
  refine zG_run bkSR_runsIfRaised_14 (lv' := [(0, .ref 0), (1, .int k), (2, .int l)]) (st' := [.ref 315]) (h' := zN sg5) (Ps := [zOb (zN sg5) 0 9 ∧ (zN sg5).2.2 0 6 = true]) rfl (zA ⟨zob_0, rfl⟩ trivial) ?_
  refine zG_callv (a := 315) (c := 3) (As := []) (rest := []) (N2 := 411) bdSR_runsIfRaised_18 okLoo_howManyRuns lk9_312 (And.intro (by decide) (by decide)) (by decide) rfl rfl rfl (Nat.le_of_ble_eq_true rfl) (Nat.le_of_ble_eq_true rfl) (Nat.le_refl 411) (Nat.le_refl 411) zob_315 (cLoo_howManyRuns_315 (by lia) (by lia)) ?_
  rintro rr h' ⟨rfl, rfl⟩ -
  refine zb_iret bkSR_runsIfRaised_21 bdSR_runsIfRaised_21 rfl (x := zit (rN (sg5 316)) 0 (sg5 315 1)) (h' := zN sg5) (Ps := []) rfl trivial rfl ?_
  refine ⟨_, _, rfl, rfl, hq5, ?_⟩
  rw [n5]
  exact rN_congr (T := cS sg (-1) k l) t5 n0 (Int32.le_refl _)
def qId (sg : zSig) (k v : Int32) : Prop := ((v = 1 ∧ ∀ j, 0 ≤ j → j < sg 1 2 → cS sg k (-1) 0 j = nS sg j) ∨ (v = 0 ∧ ∃ j, 0 ≤ j ∧ j < sg 1 2 ∧ cS sg k (-1) 0 j ≠ nS sg j))
theorem bkSR_isIdle_0 : zBk mSR_isIdle 0 [(1, 0, 1, 0, 0), (5, 9, 6, 315, 6), (1, 0, 1, 0, 0), (5, 9, 0, 1, 0), (1, 1, 0, 0, 0), (0, 0, 0, 0, -1), (0, 0, 0, 0, 0)] = some 11 := by decide +kernel
theorem bkSR_isIdle_14 : zBk mSR_isIdle 14 [(1, 0, 1, 0, 0), (5, 9, 6, 315, 6), (1, 0, 1, 0, 0)] = some 19 := by decide +kernel
theorem bkSR_isIdle_22 : zBk mSR_isIdle 22 [] = some 22 := by decide +kernel
theorem bkSR_isIdle_25 : zBk mSR_isIdle 25 [] = some 25 := by decide +kernel
theorem bdSR_isIdle_11 : decode mSR_isIdle.2.2.1 11 = .ok (.invokevirtual 337, 3) := by decide +kernel
theorem bdSR_isIdle_19 : decode mSR_isIdle.2.2.1 19 = .ok (.invokevirtual 184, 3) := by decide +kernel
theorem bdSR_isIdle_22 : decode mSR_isIdle.2.2.1 22 = .ok (.invokevirtual 344, 3) := by decide +kernel
theorem bdSR_isIdle_25 : decode mSR_isIdle.2.2.1 25 = .ok (.ireturn, 1) := by decide +kernel
theorem cSR_isIdle {sg : zSig} {k : Int32} (ob : okS sg 1) (h0 : 0 ≤ sg 36 2) (h1 : sg 36 2 < 8) (u0 : 0 ≤ sg 36 3) (u1 : sg 36 3 ≤ 8) (hf : okF sg) : zG mSR_isIdle 411 (fun rr h' => ∃ v sg', rr = some (.int v) ∧ h' = zN sg' ∧ hQ sg sg' ∧ qId sg k v) 0 [(0, .ref 0), (1, .int k)] [] (zN sg) := by
  obtain ⟨⟨n0, n1⟩, ⟨g0, g1⟩, ⟨a0, a1⟩, -⟩ := id ob
  refine zG_run bkSR_isIdle_0 (lv' := [(0, .ref 0), (1, .int k)]) (st' := [.int 0, .int (-1), .int k, .ref 1, .ref 315]) (h' := zN sg) (Ps := [zOb (zN sg) 0 9 ∧ (zN sg).2.2 0 6 = true, zOb (zN sg) 0 9 ∧ (zN sg).2.2 0 0 = true]) rfl (zA ⟨zob_0, rfl⟩ (zA ⟨zob_0, rfl⟩ trivial)) ?_
  refine zG_callv (a := 315) (c := 3) (As := [.ref 1, .int k, .int (-1), .int 0]) (rest := []) (N2 := 411) bdSR_isIdle_11 okLoo_see lk9_337 (And.intro (by decide) (by decide)) (by decide) rfl rfl rfl (Nat.le_of_ble_eq_true rfl) (Nat.le_of_ble_eq_true rfl) (Nat.le_refl 411) (Nat.le_refl 411) zob_315 (cLoo_see_315 (by lia) (by lia) (by lia) (by lia)) ?_
  rintro rr h' ⟨sg5, rfl, rfl, s5, n5, t5⟩ -
  have hq5 : hQ sg sg5 := hQ_see hf ob s5
  refine zG_run bkSR_isIdle_14 (lv' := [(0, .ref 0), (1, .int k)]) (st' := [.ref 0, .ref 315]) (h' := zN sg5) (Ps := [zOb (zN sg5) 0 9 ∧ (zN sg5).2.2 0 6 = true]) rfl (zA ⟨zob_0, rfl⟩ trivial) ?_
  refine zG_callv (a := 0) (c := 9) (As := []) (rest := [.ref 315]) (N2 := 411) bdSR_isIdle_19 okSR_looksNow lk9_184 (And.intro (by decide) (by decide)) (by decide) rfl rfl rfl (Nat.le_of_ble_eq_true rfl) (Nat.le_of_ble_eq_true rfl) (Nat.le_refl 411) (Nat.le_refl 411) zob_0 (cSR_looksNow (hQ_okS hq5 ob) hq5.2) ?_
  rintro rr h' ⟨sg0, rfl, rfl, hl⟩ -
  have hq0 : hQ sg5 sg0 := hLk_Q (hQ_okS hq5 ob) hl
  have m5 : sg0 315 1 = sg 1 2 := by rw [hl.1 315 1 (by decide) (by decide) (by decide)]; exact n5
  have m3 : sg0 313 1 = sg 1 2 := by rw [hl.2.2.1]; exact hQ_s hq5 1 2 (by decide) (by decide)
  refine zG_run bkSR_isIdle_22 (lv' := [(0, .ref 0), (1, .int k)]) (st' := [.ref 313, .ref 315]) (h' := zN sg0) (Ps := []) rfl trivial ?_
  refine zG_callv (a := 315) (c := 3) (As := [.ref 313]) (rest := []) (N2 := 411) bdSR_isIdle_22 okLoo_isLike lk9_344 (And.intro (by decide) (by decide)) (by decide) rfl rfl rfl (Nat.le_of_ble_eq_true rfl) (Nat.le_of_ble_eq_true rfl) (Nat.le_refl 411) (Nat.le_refl 411) zob_315 (cLoo_isLike (by lia) (by lia)) ?_
  rintro rr h' ⟨v1, rfl, rfl, hx⟩ -
  refine zb_zret bkSR_isIdle_25 bdSR_isIdle_25 rfl (x := v1) (h' := zN sg0) (Ps := []) rfl trivial rfl (by rcases hx with hx | hx; exact Or.inr hx.1; exact Or.inl hx.1) ?_
  refine ⟨_, _, rfl, rfl, hQ_trans hq5 hq0, ?_⟩
  have e6 : ∀ j, 0 ≤ j → j < sg 1 2 → sg0 316 j = cS sg k (-1) 0 j := fun j j0 j1 => by rw [hl.1 316 j (by decide) (by decide) (Or.inl (by decide))]; exact t5 j j0 j1
  have e4 : ∀ j, 0 ≤ j → j < sg 1 2 → sg0 314 j = nS sg j := fun j j0 j1 => by rw [hl.2.2.2 j j0 (by rw [hQ_s hq5 1 2 (by decide) (by decide)]; exact j1)]; exact hQ_cS hq5 ob
  rcases hx with ⟨h1, h2, h3⟩ | ⟨h1, h2⟩
  · exact Or.inl ⟨h1, fun j j0 j1 => by rw [← e6 j j0 j1, ← e4 j j0 j1]; exact h3 j j0 (by lia)⟩
  · rcases h2 with h2 | ⟨j, j0, j1, j2⟩
    · exfalso; lia
    · exact Or.inr ⟨h1, j, j0, by lia, by rw [← e6 j j0 (by lia), ← e4 j j0 (by lia)]; exact j2⟩
def qSp (sg : zSig) (n w v : Int32) : Prop := if (0 ≤ n ∧ n < sg 1 4) ∧ sg (zel 4 n) 0 ≠ 0 then (if 0 ≤ w ∧ w ≤ 2 then v = sg (zel 4 n) (w + 1) else if 3 ≤ w ∧ w ≤ 7 then v = sg (zel 4 n) (w + 1) else if w = 8 then qId sg n v else if w = 9 then v = zit (rN (cS sg n (-1) 0)) 0 (sg 1 2) else v = -2147483648) else v = -2147483648
theorem bkSR_span_0 : zBk mSR_span 0 [(1, 0, 1, 0, 0), (5, 9, 0, 1, 0), (1, 1, 0, 0, 0)] = some 5 := by decide +kernel
theorem bkSR_span_8 : zBk mSR_span 8 [] = some 8 := by decide +kernel
theorem bkSR_span_15 : zBk mSR_span 15 [(1, 0, 1, 0, 0), (5, 9, 0, 1, 0), (5, 5, 3, 3, 3), (1, 1, 0, 0, 0), (9, 0, 0, 0, 0), (2, 3, 1, 0, 0), (1, 2, 0, 0, 0)] = some 26 := by decide +kernel
theorem bkSR_span_80 : zBk mSR_span 80 [(1, 3, 1, 0, 0), (5, 6, 1, 0, 1)] = some 84 := by decide +kernel
theorem bkSR_span_85 : zBk mSR_span 85 [(1, 3, 1, 0, 0), (5, 6, 2, 0, 2)] = some 89 := by decide +kernel
theorem bkSR_span_90 : zBk mSR_span 90 [(1, 3, 1, 0, 0), (5, 6, 3, 0, 3)] = some 94 := by decide +kernel
theorem bkSR_span_95 : zBk mSR_span 95 [(1, 3, 1, 0, 0), (5, 6, 4, 0, 4)] = some 99 := by decide +kernel
theorem bkSR_span_100 : zBk mSR_span 100 [(1, 3, 1, 0, 0), (5, 6, 5, 0, 5)] = some 104 := by decide +kernel
theorem bkSR_span_105 : zBk mSR_span 105 [(1, 3, 1, 0, 0), (5, 6, 6, 0, 6)] = some 109 := by decide +kernel
theorem bkSR_span_110 : zBk mSR_span 110 [(1, 3, 1, 0, 0), (5, 6, 7, 0, 7)] = some 114 := by decide +kernel
theorem bkSR_span_115 : zBk mSR_span 115 [(1, 3, 1, 0, 0), (5, 6, 8, 0, 8)] = some 119 := by decide +kernel
theorem bkSR_span_120 : zBk mSR_span 120 [(1, 0, 1, 0, 0), (1, 1, 0, 0, 0)] = some 122 := by decide +kernel
theorem bkSR_span_125 : zBk mSR_span 125 [] = some 125 := by decide +kernel
theorem bkSR_span_132 : zBk mSR_span 132 [(0, 0, 0, 0, 0)] = some 133 := by decide +kernel
theorem bkSR_span_128 : zBk mSR_span 128 [(0, 0, 0, 0, 1), (22, 133, 0, 0, 0)] = some 133 := by decide +kernel
theorem bkSR_span_134 : zBk mSR_span 134 [(1, 0, 1, 0, 0), (1, 1, 0, 0, 0)] = some 136 := by decide +kernel
theorem bkSR_span_139 : zBk mSR_span 139 [] = some 139 := by decide +kernel
theorem bkSR_span_140 : zBk mSR_span 140 [(0, 0, 0, 0, -2147483648)] = some 143 := by decide +kernel
theorem bkSR_span_11 : zBk mSR_span 11 [(0, 0, 0, 0, -2147483648)] = some 14 := by decide +kernel
theorem bdSR_span_5 : decode mSR_span.2.2.1 5 = .ok (.invokevirtual 169, 3) := by decide +kernel
theorem bdSR_span_8 : decode mSR_span.2.2.1 8 = .ok (.ifCond .ne 7, 3) := by decide +kernel
theorem bdSR_span_14 : decode mSR_span.2.2.1 14 = .ok (.ireturn, 1) := by decide +kernel
theorem bdSR_span_26 : decode mSR_span.2.2.1 26 = .ok (.tableswitch 114 0 9 #[54, 59, 64, 69, 74, 79, 84, 89, 94, 108], 54) := by decide +kernel
theorem bdSR_span_84 : decode mSR_span.2.2.1 84 = .ok (.ireturn, 1) := by decide +kernel
theorem bdSR_span_89 : decode mSR_span.2.2.1 89 = .ok (.ireturn, 1) := by decide +kernel
theorem bdSR_span_94 : decode mSR_span.2.2.1 94 = .ok (.ireturn, 1) := by decide +kernel
theorem bdSR_span_99 : decode mSR_span.2.2.1 99 = .ok (.ireturn, 1) := by decide +kernel
theorem bdSR_span_104 : decode mSR_span.2.2.1 104 = .ok (.ireturn, 1) := by decide +kernel
theorem bdSR_span_109 : decode mSR_span.2.2.1 109 = .ok (.ireturn, 1) := by decide +kernel
theorem bdSR_span_114 : decode mSR_span.2.2.1 114 = .ok (.ireturn, 1) := by decide +kernel
theorem bdSR_span_119 : decode mSR_span.2.2.1 119 = .ok (.ireturn, 1) := by decide +kernel
theorem bdSR_span_122 : decode mSR_span.2.2.1 122 = .ok (.invokevirtual 275, 3) := by decide +kernel
theorem bdSR_span_125 : decode mSR_span.2.2.1 125 = .ok (.ifCond .eq 7, 3) := by decide +kernel
theorem bdSR_span_133 : decode mSR_span.2.2.1 133 = .ok (.ireturn, 1) := by decide +kernel
theorem bdSR_span_136 : decode mSR_span.2.2.1 136 = .ok (.invokevirtual 278, 3) := by decide +kernel
theorem bdSR_span_139 : decode mSR_span.2.2.1 139 = .ok (.ireturn, 1) := by decide +kernel
theorem bdSR_span_143 : decode mSR_span.2.2.1 143 = .ok (.ireturn, 1) := by decide +kernel
theorem cSR_span {sg : zSig} {n w : Int32} (ob : okS sg 1) (h0 : 0 ≤ sg 36 2) (h1 : sg 36 2 < 8) (u0 : 0 ≤ sg 36 3) (u1 : sg 36 3 ≤ 8) (hf : okF sg) : zG mSR_span 411 (fun rr h' => ∃ v sg', rr = some (.int v) ∧ h' = zN sg' ∧ hQ sg sg' ∧ qSp sg n w v) 0 [(0, .ref 0), (1, .int n), (2, .int w)] [] (zN sg) := by
  obtain ⟨⟨n0, n1⟩, ⟨g0, g1⟩, ⟨a0, a1⟩, -⟩ := id ob
  refine zG_run bkSR_span_0 (lv' := [(0, .ref 0), (1, .int n), (2, .int w)]) (st' := [.int n, .ref 1]) (h' := zN sg) (Ps := [zOb (zN sg) 0 9 ∧ (zN sg).2.2 0 0 = true]) rfl (zA ⟨zob_0, rfl⟩ trivial) ?_
  refine zG_callv (a := 1) (c := 5) (As := [.int n]) (rest := []) (N2 := 411) bdSR_span_5 okShe_hasSpan lk9_169 (And.intro (by decide) (by decide)) (by decide) rfl rfl rfl (Nat.le_of_ble_eq_true rfl) (Nat.le_of_ble_eq_true rfl) (Nat.le_refl 411) (Nat.le_refl 411) zob_1 (cShe_hasSpan (by lia)) ?_
  rintro rr h' ⟨rfl, rfl⟩ -
  refine zb_ifne (tgt := 15) bkSR_span_8 bdSR_span_8 (by decide) (lv' := [(0, .ref 0), (1, .int n), (2, .int w)]) (st' := []) (h' := zN sg) (x := if (0 ≤ n ∧ n < sg 1 4) ∧ sg (zel 4 n) 0 ≠ 0 then 1 else 0) (Ps := []) rfl trivial (fun c1 => ?_) (fun c1 => ?_)
  · skip
    have hs : (0 ≤ n ∧ n < sg 1 4) ∧ sg (zel 4 n) 0 ≠ 0 := by grind
    refine zG_run bkSR_span_15 (lv' := [(3, .ref (zel 4 n)), (0, .ref 0), (1, .int n), (2, .int w)]) (st' := [.int w]) (h' := zN sg) (Ps := [zOb (zN sg) 0 9 ∧ (zN sg).2.2 0 0 = true, zOb (zN sg) 1 5 ∧ (zN sg).2.2 1 3 = true, zInR (zN sg) 4 n]) rfl (zA ⟨zob_0, rfl⟩ (zA ⟨zob_1, rfl⟩ (zA (zinR_4 (i := n) (by lia) (by lia)) trivial))) ?_
    by_cases w2 : w = 0
    · refine zs_tableIn (off := 54) (tgt := 80) bdSR_span_26 (by rw [w2]; decide) (by rw [w2]; decide) (by rw [w2]; decide) (by decide) ?_
      refine zb_iret bkSR_span_80 bdSR_span_84 rfl (x := sg (zel 4 n) 1) (h' := zN sg) (Ps := [zOb (zN sg) (zel 4 n) 6]) rfl (zA (zel_ob4 (i := n) (by lia) (by lia)) trivial) rfl ?_
      refine ⟨_, _, rfl, rfl, hQ_refl hf, ?_⟩
      unfold qSp
      rw [if_pos hs]
      first | (rw [if_pos (by lia)]; congr 1; lia) | (rw [if_neg (by lia), if_pos (by lia)]; congr 1; lia)
    by_cases w3 : w = 1
    · refine zs_tableIn (off := 59) (tgt := 85) bdSR_span_26 (by rw [w3]; decide) (by rw [w3]; decide) (by rw [w3]; decide) (by decide) ?_
      refine zb_iret bkSR_span_85 bdSR_span_89 rfl (x := sg (zel 4 n) 2) (h' := zN sg) (Ps := [zOb (zN sg) (zel 4 n) 6]) rfl (zA (zel_ob4 (i := n) (by lia) (by lia)) trivial) rfl ?_
      refine ⟨_, _, rfl, rfl, hQ_refl hf, ?_⟩
      unfold qSp
      rw [if_pos hs]
      first | (rw [if_pos (by lia)]; congr 1; lia) | (rw [if_neg (by lia), if_pos (by lia)]; congr 1; lia)
    by_cases w4 : w = 2
    · refine zs_tableIn (off := 64) (tgt := 90) bdSR_span_26 (by rw [w4]; decide) (by rw [w4]; decide) (by rw [w4]; decide) (by decide) ?_
      refine zb_iret bkSR_span_90 bdSR_span_94 rfl (x := sg (zel 4 n) 3) (h' := zN sg) (Ps := [zOb (zN sg) (zel 4 n) 6]) rfl (zA (zel_ob4 (i := n) (by lia) (by lia)) trivial) rfl ?_
      refine ⟨_, _, rfl, rfl, hQ_refl hf, ?_⟩
      unfold qSp
      rw [if_pos hs]
      first | (rw [if_pos (by lia)]; congr 1; lia) | (rw [if_neg (by lia), if_pos (by lia)]; congr 1; lia)
    by_cases w5 : w = 3
    · refine zs_tableIn (off := 69) (tgt := 95) bdSR_span_26 (by rw [w5]; decide) (by rw [w5]; decide) (by rw [w5]; decide) (by decide) ?_
      refine zb_iret bkSR_span_95 bdSR_span_99 rfl (x := sg (zel 4 n) 4) (h' := zN sg) (Ps := [zOb (zN sg) (zel 4 n) 6]) rfl (zA (zel_ob4 (i := n) (by lia) (by lia)) trivial) rfl ?_
      refine ⟨_, _, rfl, rfl, hQ_refl hf, ?_⟩
      unfold qSp
      rw [if_pos hs]
      first | (rw [if_pos (by lia)]; congr 1; lia) | (rw [if_neg (by lia), if_pos (by lia)]; congr 1; lia)
    by_cases w6 : w = 4
    · refine zs_tableIn (off := 74) (tgt := 100) bdSR_span_26 (by rw [w6]; decide) (by rw [w6]; decide) (by rw [w6]; decide) (by decide) ?_
      refine zb_iret bkSR_span_100 bdSR_span_104 rfl (x := sg (zel 4 n) 5) (h' := zN sg) (Ps := [zOb (zN sg) (zel 4 n) 6]) rfl (zA (zel_ob4 (i := n) (by lia) (by lia)) trivial) rfl ?_
      refine ⟨_, _, rfl, rfl, hQ_refl hf, ?_⟩
      unfold qSp
      rw [if_pos hs]
      first | (rw [if_pos (by lia)]; congr 1; lia) | (rw [if_neg (by lia), if_pos (by lia)]; congr 1; lia)
    by_cases w7 : w = 5
    · refine zs_tableIn (off := 79) (tgt := 105) bdSR_span_26 (by rw [w7]; decide) (by rw [w7]; decide) (by rw [w7]; decide) (by decide) ?_
      refine zb_iret bkSR_span_105 bdSR_span_109 rfl (x := sg (zel 4 n) 6) (h' := zN sg) (Ps := [zOb (zN sg) (zel 4 n) 6]) rfl (zA (zel_ob4 (i := n) (by lia) (by lia)) trivial) rfl ?_
      refine ⟨_, _, rfl, rfl, hQ_refl hf, ?_⟩
      unfold qSp
      rw [if_pos hs]
      first | (rw [if_pos (by lia)]; congr 1; lia) | (rw [if_neg (by lia), if_pos (by lia)]; congr 1; lia)
    by_cases w8 : w = 6
    · refine zs_tableIn (off := 84) (tgt := 110) bdSR_span_26 (by rw [w8]; decide) (by rw [w8]; decide) (by rw [w8]; decide) (by decide) ?_
      refine zb_iret bkSR_span_110 bdSR_span_114 rfl (x := sg (zel 4 n) 7) (h' := zN sg) (Ps := [zOb (zN sg) (zel 4 n) 6]) rfl (zA (zel_ob4 (i := n) (by lia) (by lia)) trivial) rfl ?_
      refine ⟨_, _, rfl, rfl, hQ_refl hf, ?_⟩
      unfold qSp
      rw [if_pos hs]
      first | (rw [if_pos (by lia)]; congr 1; lia) | (rw [if_neg (by lia), if_pos (by lia)]; congr 1; lia)
    by_cases w9 : w = 7
    · refine zs_tableIn (off := 89) (tgt := 115) bdSR_span_26 (by rw [w9]; decide) (by rw [w9]; decide) (by rw [w9]; decide) (by decide) ?_
      refine zb_iret bkSR_span_115 bdSR_span_119 rfl (x := sg (zel 4 n) 8) (h' := zN sg) (Ps := [zOb (zN sg) (zel 4 n) 6]) rfl (zA (zel_ob4 (i := n) (by lia) (by lia)) trivial) rfl ?_
      refine ⟨_, _, rfl, rfl, hQ_refl hf, ?_⟩
      unfold qSp
      rw [if_pos hs]
      first | (rw [if_pos (by lia)]; congr 1; lia) | (rw [if_neg (by lia), if_pos (by lia)]; congr 1; lia)
    by_cases w10 : w = 8
    · refine zs_tableIn (off := 94) (tgt := 120) bdSR_span_26 (by rw [w10]; decide) (by rw [w10]; decide) (by rw [w10]; decide) (by decide) ?_
      refine zG_run bkSR_span_120 (lv' := [(3, .ref (zel 4 n)), (0, .ref 0), (1, .int n), (2, .int w)]) (st' := [.int n, .ref 0]) (h' := zN sg) (Ps := []) rfl trivial ?_
      refine zG_callv (a := 0) (c := 9) (As := [.int n]) (rest := []) (N2 := 411) bdSR_span_122 okSR_isIdle lk9_275 (And.intro (by decide) (by decide)) (by decide) rfl rfl rfl (Nat.le_of_ble_eq_true rfl) (Nat.le_of_ble_eq_true rfl) (Nat.le_refl 411) (Nat.le_refl 411) zob_0 (cSR_isIdle (k := n) ob h0 h1 u0 u1 hf) ?_
      rintro rr h' ⟨vq, sgq, rfl, rfl, hqq, hv⟩ -
      refine zb_ifeq (tgt := 132) bkSR_span_125 bdSR_span_125 (by decide) (lv' := [(3, .ref (zel 4 n)), (0, .ref 0), (1, .int n), (2, .int w)]) (st' := []) (h' := zN sgq) (x := vq) (Ps := []) rfl trivial (fun c11 => ?_) (fun c11 => ?_)
      · skip
        refine zb_iret bkSR_span_132 bdSR_span_133 rfl (x := 0) (h' := zN sgq) (Ps := []) rfl trivial rfl ?_
        refine ⟨_, _, rfl, rfl, hqq, ?_⟩
        unfold qSp
        rw [if_pos hs, if_neg (by lia), if_neg (by lia), if_pos (by lia)]
        rcases hv with hv | hv
        · first | (exact Or.inl ⟨rfl, hv.2⟩) | (exfalso; lia)
        · first | (exact Or.inr ⟨rfl, hv.2⟩) | (exfalso; lia)
      · skip
        refine zb_iret bkSR_span_128 bdSR_span_133 rfl (x := 1) (h' := zN sgq) (Ps := []) rfl trivial rfl ?_
        refine ⟨_, _, rfl, rfl, hqq, ?_⟩
        unfold qSp
        rw [if_pos hs, if_neg (by lia), if_neg (by lia), if_pos (by lia)]
        rcases hv with hv | hv
        · first | (exact Or.inl ⟨rfl, hv.2⟩) | (exfalso; lia)
        · first | (exact Or.inr ⟨rfl, hv.2⟩) | (exfalso; lia)
    by_cases w12 : w = 9
    · refine zs_tableIn (off := 108) (tgt := 134) bdSR_span_26 (by rw [w12]; decide) (by rw [w12]; decide) (by rw [w12]; decide) (by decide) ?_
      refine zG_run bkSR_span_134 (lv' := [(3, .ref (zel 4 n)), (0, .ref 0), (1, .int n), (2, .int w)]) (st' := [.int n, .ref 0]) (h' := zN sg) (Ps := []) rfl trivial ?_
      refine zG_callv (a := 0) (c := 9) (As := [.int n]) (rest := []) (N2 := 411) bdSR_span_136 okSR_runsWithout lk9_278 (And.intro (by decide) (by decide)) (by decide) rfl rfl rfl (Nat.le_of_ble_eq_true rfl) (Nat.le_of_ble_eq_true rfl) (Nat.le_refl 411) (Nat.le_refl 411) zob_0 (cSR_runsWithout (k := n) ob h0 h1 u0 u1 hf) ?_
      rintro rr h' ⟨vq, sgq, rfl, rfl, hqq, hv⟩ -
      refine zb_iret bkSR_span_139 bdSR_span_139 rfl (x := vq) (h' := zN sgq) (Ps := []) rfl trivial rfl ?_
      refine ⟨_, _, rfl, rfl, hqq, ?_⟩
      unfold qSp
      rw [if_pos hs, if_neg (by lia), if_neg (by lia), if_neg (by lia), if_pos (by lia)]; exact hv
    refine zs_tableOut (tgt := 140) bdSR_span_26 (zsw_out (x := w) (n := 10) (by decide) (by intro j hj; match j, hj with | 0, _ => exact w2 | 1, _ => exact w3 | 2, _ => exact w4 | 3, _ => exact w5 | 4, _ => exact w6 | 5, _ => exact w7 | 6, _ => exact w8 | 7, _ => exact w9 | 8, _ => exact w10 | 9, _ => exact w12)) (by decide) ?_
    refine zb_iret bkSR_span_140 bdSR_span_143 rfl (x := (-2147483648)) (h' := zN sg) (Ps := []) rfl trivial rfl ?_
    refine ⟨_, _, rfl, rfl, hQ_refl hf, ?_⟩
    unfold qSp
    first | (rw [if_neg hs]; done) | (rw [if_pos hs, if_neg (by lia), if_neg (by lia), if_neg (by lia), if_neg (by lia)]; done)
  · skip
    have hs : ¬ ((0 ≤ n ∧ n < sg 1 4) ∧ sg (zel 4 n) 0 ≠ 0) := by grind
    refine zb_iret bkSR_span_11 bdSR_span_14 rfl (x := (-2147483648)) (h' := zN sg) (Ps := []) rfl trivial rfl ?_
    refine ⟨_, _, rfl, rfl, hQ_refl hf, ?_⟩
    unfold qSp
    first | (rw [if_neg hs]; done) | (rw [if_pos hs, if_neg (by lia), if_neg (by lia), if_neg (by lia), if_neg (by lia)]; done)
