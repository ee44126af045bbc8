/-! a sheet becomes another: printed by wip/whole/p18.py -/
def iSh (a : Nat) : Prop := a + 33 ≤ 411 ∧ zSh a = (0, 5, 0) ∧ zSh (a + 1) = (1, 0, 200) ∧ zSh (a + 2) = (1, 0, 200) ∧ zSh (a + 3) = (2, 0, 16) ∧ zSh (a + 4) = (2, 1, 12) ∧ (∀ j, j < 16 → zSh (a + 5 + j) = (0, 6, 0)) ∧ ∀ j, j < 12 → zSh (a + 21 + j) = (0, 1, 0)
theorem iSh_1 : iSh 1 := ⟨by decide, by decide, by decide, by decide, by decide, by decide, by decide +kernel, by decide +kernel⟩
theorem iSh_h : ∀ k, k < 8 → iSh (39 + 34 * k) := by
  intro k hk
  refine ⟨by omega, ?_, ?_, ?_, ?_, ?_, ?_, ?_⟩ <;> revert k <;> decide +kernel
theorem iSh_i : ∀ k, k < 2 → iSh (327 + 33 * k) := by
  intro k hk
  refine ⟨by omega, ?_, ?_, ?_, ?_, ?_, ?_, ?_⟩ <;> revert k <;> decide +kernel
section
variable {sg : zSig} {a : Nat} {i : Int32}
theorem sh_ob (h : iSh a) : zOb (zN sg) a 5 := ⟨(by have := h.1; omega : a < 411), h.2.1⟩
theorem sh_l (h : iSh a) (h0 : 0 ≤ i) (h1 : i < 200) : zIn (zN sg) (a + 1) 0 i := ⟨(by have := h.1; omega : a + 1 < 411), by rw [h.2.2.1], by rw [h.2.2.1], h0, by rw [h.2.2.1]; exact h1⟩
theorem sh_p (h : iSh a) (h0 : 0 ≤ i) (h1 : i < 200) : zIn (zN sg) (a + 2) 0 i := ⟨(by have := h.1; omega : a + 2 < 411), by rw [h.2.2.2.1], by rw [h.2.2.2.1], h0, by rw [h.2.2.2.1]; exact h1⟩
theorem sh_zs (h : iSh a) (h0 : 0 ≤ i) (h1 : i < 16) : ∃ j : Nat, j < 16 ∧ i = nI j ∧ zel (a + 3) i = a + 5 + j := by
  obtain ⟨j, hj, rfl⟩ := vp_in_of (zvp_in (n := 16) (by decide) h0 h1) (by decide)
  refine ⟨j, hj, rfl, ?_⟩
  unfold zel
  rw [h.2.2.2.2.1, nI_clamp (by omega)]
  show a + 3 + 2 + 1 * j = _
  omega
theorem sh_za (h : iSh a) (h0 : 0 ≤ i) (h1 : i < 12) : ∃ j : Nat, j < 12 ∧ i = nI j ∧ zel (a + 4) i = a + 21 + j := by
  obtain ⟨j, hj, rfl⟩ := vp_in_of (zvp_in (n := 12) (by decide) h0 h1) (by decide)
  refine ⟨j, hj, rfl, ?_⟩
  unfold zel
  rw [h.2.2.2.2.2.1, nI_clamp (by omega)]
  show a + 4 + 17 + 1 * j = _
  omega
theorem sh_s_rng (h : iSh a) (h0 : 0 ≤ i) (h1 : i < 16) : a + 5 ≤ zel (a + 3) i ∧ zel (a + 3) i < a + 21 := by
  obtain ⟨j, hj, -, he⟩ := sh_zs h h0 h1
  rw [he]; omega
theorem sh_a_rng (h : iSh a) (h0 : 0 ≤ i) (h1 : i < 12) : a + 21 ≤ zel (a + 4) i ∧ zel (a + 4) i < a + 33 := by
  obtain ⟨j, hj, -, he⟩ := sh_za h h0 h1
  rw [he]; omega
theorem sh_s_inj (h : iSh a) {j : Int32} (h0 : 0 ≤ i) (h1 : i < 16) (h2 : 0 ≤ j) (h3 : j < 16) (he : zel (a + 3) i = zel (a + 3) j) : i = j := by
  obtain ⟨x, hx, rfl, hq⟩ := sh_zs h h0 h1
  obtain ⟨y, hy, rfl, hr⟩ := sh_zs h h2 h3
  rw [hq, hr] at he
  have : x = y := by omega
  rw [this]
theorem sh_a_inj (h : iSh a) {j : Int32} (h0 : 0 ≤ i) (h1 : i < 12) (h2 : 0 ≤ j) (h3 : j < 12) (he : zel (a + 4) i = zel (a + 4) j) : i = j := by
  obtain ⟨x, hx, rfl, hq⟩ := sh_za h h0 h1
  obtain ⟨y, hy, rfl, hr⟩ := sh_za h h2 h3
  rw [hq, hr] at he
  have : x = y := by omega
  rw [this]
theorem sh_sR (h : iSh a) (h0 : 0 ≤ i) (h1 : i < 16) : zInR (zN sg) (a + 3) i := by
  obtain ⟨j, hj, rfl, he⟩ := sh_zs h h0 h1
  have hb := h.1
  refine ⟨(by omega : a + 3 < 411), by rw [h.2.2.2.2.1], h0, by rw [h.2.2.2.2.1]; exact h1, rfl, ?_⟩
  have : zel (a + 3) (nI j) < 100000 := by rw [he]; omega
  exact this
theorem sh_aR (h : iSh a) (h0 : 0 ≤ i) (h1 : i < 12) : zInR (zN sg) (a + 4) i := by
  obtain ⟨j, hj, rfl, he⟩ := sh_za h h0 h1
  have hb := h.1
  refine ⟨(by omega : a + 4 < 411), by rw [h.2.2.2.2.2.1], h0, by rw [h.2.2.2.2.2.1]; exact h1, rfl, ?_⟩
  have : zel (a + 4) (nI j) < 100000 := by rw [he]; omega
  exact this
theorem sh_so (h : iSh a) (h0 : 0 ≤ i) (h1 : i < 16) : zOb (zN sg) (zel (a + 3) i) 6 := by
  obtain ⟨j, hj, rfl, he⟩ := sh_zs h h0 h1
  have hb := h.1
  rw [he]
  exact ⟨(by omega : a + 5 + j < 411), h.2.2.2.2.2.2.1 j hj⟩
theorem sh_ao (h : iSh a) (h0 : 0 ≤ i) (h1 : i < 12) : zOb (zN sg) (zel (a + 4) i) 1 := by
  obtain ⟨j, hj, rfl, he⟩ := sh_za h h0 h1
  have hb := h.1
  rw [he]
  exact ⟨(by omega : a + 21 + j < 411), h.2.2.2.2.2.2.2 j hj⟩
theorem sh_cp (h : iSh a) {b : Nat} (hb : iSh b) {n : Int32} (h0 : 0 ≤ n) (h1 : n ≤ 200) : zCp (zN sg) (b + 1) (a + 1) 0 0 n ∧ zCp (zN sg) (b + 2) (a + 2) 0 0 n := by
  have q1 := h.1
  have q2 := hb.1
  refine ⟨⟨(by omega : b + 1 < 411), (by omega : a + 1 < 411), by rw [hb.2.2.1], by rw [hb.2.2.1], by rw [h.2.2.1], by rw [h.2.2.1], by decide, by decide, h0, ?_, ?_, ?_, ?_⟩, ⟨(by omega : b + 2 < 411), (by omega : a + 2 < 411), by rw [hb.2.2.2.1], by rw [hb.2.2.2.1], by rw [h.2.2.2.1], by rw [h.2.2.2.1], by decide, by decide, h0, ?_, ?_, ?_, ?_⟩⟩
  · rw [hb.2.2.1]; exact h1
  · rw [h.2.2.1]; exact h1
  · rw [hb.2.2.1]; show 0 ≤ (200 : Int32) - n; grind
  · rw [h.2.2.1]; show 0 ≤ (200 : Int32) - n; grind
  · rw [hb.2.2.2.1]; exact h1
  · rw [h.2.2.2.1]; exact h1
  · rw [hb.2.2.2.1]; show 0 ≤ (200 : Int32) - n; grind
  · rw [h.2.2.2.1]; show 0 ≤ (200 : Int32) - n; grind
end
theorem hSpB_e {sg : zSig} {x y c : Nat} {j : Int32} (h : y ≠ x) : hSpB sg x y c j = if c = x ∧ 0 ≤ j ∧ j ≤ 8 then sg y j else sg c j := by
  simp only [hSpB, zup_e]
  grind (splits := 40)
theorem hAnB_e {sg : zSig} {x y c : Nat} {j : Int32} (h : y ≠ x) : hAnB sg x y c j = if c = x ∧ 0 ≤ j ∧ j ≤ 3 then sg y j else sg c j := by
  simp only [hAnB, zup_e]
  grind (splits := 40)
/-- sheet a is as sheet b was; nothing else changes -/
def hSB (sg sg' : zSig) (a b : Nat) : Prop := (∀ c j, (c < a ∨ a + 33 ≤ c) → sg' c j = sg c j) ∧ sg' a 2 = sg b 2 ∧ (∀ j, 0 ≤ j → j < sg b 2 → sg' (a + 1) j = sg (b + 1) j ∧ sg' (a + 2) j = sg (b + 2) j) ∧ sg' a 4 = sg b 4 ∧ (∀ k f, 0 ≤ k → k < sg b 4 → 0 ≤ f → f ≤ 8 → sg' (zel (a + 3) k) f = sg (zel (b + 3) k) f) ∧ sg' a 6 = sg b 6 ∧ ∀ k f, 0 ≤ k → k < sg b 6 → 0 ≤ f → f ≤ 3 → sg' (zel (a + 4) k) f = sg (zel (b + 4) k) f
/-- a sheet whose numbers are as they can be -/
def okS (sg : zSig) (b : Nat) : Prop := (0 ≤ sg b 2 ∧ sg b 2 ≤ 200) ∧ (0 ≤ sg b 4 ∧ sg b 4 ≤ 16) ∧ (0 ≤ sg b 6 ∧ sg b 6 ≤ 12) ∧ (∀ k, 0 ≤ k → k < sg b 4 → sg (zel (b + 3) k) 0 = 0 ∨ sg (zel (b + 3) k) 0 = 1) ∧ ∀ k, 0 ≤ k → k < sg b 6 → sg (zel (b + 4) k) 0 = 0 ∨ sg (zel (b + 4) k) 0 = 1
theorem bkShe_become_0 : zBk mShe_become 0 [(1, 0, 1, 0, 0), (1, 1, 1, 0, 0), (5, 5, 2, 0, 2), (6, 5, 2, 0, 2)] = some 8 := by decide +kernel
theorem bkShe_become_8 : zBk mShe_become 8 [(1, 1, 1, 0, 0), (5, 5, 0, 1, 0), (0, 0, 0, 0, 0), (1, 0, 1, 0, 0), (5, 5, 0, 1, 0), (0, 0, 0, 0, 0), (1, 0, 1, 0, 0), (5, 5, 2, 0, 2)] = some 22 := by decide +kernel
theorem bkShe_become_25 : zBk mShe_become 25 [(1, 1, 1, 0, 0), (5, 5, 1, 2, 1), (0, 0, 0, 0, 0), (1, 0, 1, 0, 0), (5, 5, 1, 2, 1), (0, 0, 0, 0, 0), (1, 0, 1, 0, 0), (5, 5, 2, 0, 2)] = some 39 := by decide +kernel
theorem bkShe_become_42 : zBk mShe_become 42 [(1, 0, 1, 0, 0), (1, 1, 1, 0, 0), (5, 5, 4, 0, 4), (6, 5, 4, 0, 4)] = some 50 := by decide +kernel
theorem bkShe_become_50 : zBk mShe_become 50 [(0, 0, 0, 0, 0), (2, 2, 0, 0, 0)] = some 52 := by decide +kernel
theorem bkShe_become_52 : zBk mShe_become 52 [(1, 2, 0, 0, 0), (1, 0, 1, 0, 0), (5, 5, 4, 0, 4)] = some 57 := by decide +kernel
theorem bkShe_become_81 : zBk mShe_become 81 [(1, 0, 1, 0, 0), (1, 1, 1, 0, 0), (5, 5, 6, 0, 6), (6, 5, 6, 0, 6)] = some 89 := by decide +kernel
theorem bkShe_become_89 : zBk mShe_become 89 [(0, 0, 0, 0, 0), (2, 2, 0, 0, 0)] = some 91 := by decide +kernel
theorem bkShe_become_91 : zBk mShe_become 91 [(1, 2, 0, 0, 0), (1, 0, 1, 0, 0), (5, 5, 6, 0, 6)] = some 96 := by decide +kernel
theorem bkShe_become_120 : zBk mShe_become 120 [] = some 120 := by decide +kernel
theorem bkShe_become_99 : zBk mShe_become 99 [(1, 0, 1, 0, 0), (5, 5, 5, 4, 5), (1, 2, 0, 0, 0), (9, 0, 0, 0, 0), (1, 1, 1, 0, 0), (5, 5, 5, 4, 5), (1, 2, 0, 0, 0), (9, 0, 0, 0, 0)] = some 111 := by decide +kernel
theorem bkShe_become_114 : zBk mShe_become 114 [(3, 2, 0, 0, 1), (22, 91, 0, 0, 0)] = some 91 := by decide +kernel
theorem bkShe_become_60 : zBk mShe_become 60 [(1, 0, 1, 0, 0), (5, 5, 3, 3, 3), (1, 2, 0, 0, 0), (9, 0, 0, 0, 0), (1, 1, 1, 0, 0), (5, 5, 3, 3, 3), (1, 2, 0, 0, 0), (9, 0, 0, 0, 0)] = some 72 := by decide +kernel
theorem bkShe_become_75 : zBk mShe_become 75 [(3, 2, 0, 0, 1), (22, 52, 0, 0, 0)] = some 52 := by decide +kernel
theorem bdShe_become_22 : decode mShe_become.2.2.1 22 = .ok (.invokestatic 42, 3) := by decide +kernel
theorem bdShe_become_39 : decode mShe_become.2.2.1 39 = .ok (.invokestatic 42, 3) := by decide +kernel
theorem bdShe_become_57 : decode mShe_become.2.2.1 57 = .ok (.if_icmp .ge 24, 3) := by decide +kernel
theorem bdShe_become_72 : decode mShe_become.2.2.1 72 = .ok (.invokevirtual 48, 3) := by decide +kernel
theorem bdShe_become_96 : decode mShe_become.2.2.1 96 = .ok (.if_icmp .ge 24, 3) := by decide +kernel
theorem bdShe_become_111 : decode mShe_become.2.2.1 111 = .ok (.invokevirtual 52, 3) := by decide +kernel
theorem bdShe_become_120 : decode mShe_become.2.2.1 120 = .ok (.return_, 1) := by decide +kernel
theorem lShe_become {sg : zSig} {a b : Nat} (ia : iSh a) (ib : iSh b) (hd : a + 33 ≤ b ∨ b + 33 ≤ a) (ob : okS sg b)  {Q : Option Value → zHp → Prop} (hq : ∀ rr h', (∃ sg', rr = none ∧ h' = zN sg' ∧ hSB sg sg' a b) → Q rr h') : zG mShe_become 411 Q 0 [(0, .ref a), (1, .ref b)] [] (zN sg) := by
  obtain ⟨⟨z1, z2⟩, ⟨z3, z4⟩, ⟨z5, z6⟩, -⟩ := id ob
  refine zG_run bkShe_become_0 (lv' := [(0, .ref a), (1, .ref b)]) (st' := []) (h' := zN (zup sg a 2 (sg b 2))) (Ps := [zOb (zN sg) b 5, zOb (zN sg) a 5]) rfl (zA (sh_ob ib) (zA (sh_ob ia) trivial)) ?_
  refine zG_nm (sg := zup sg a 2 (sg b 2)) (fun sg1 e1 => ?_)
  have f1 : ∀ c j, (c < a ∨ a + 33 ≤ c) → sg1 c j = sg c j := fun c j h => by rw [e1, zup_e, if_neg (by omega)]
  have s1 : sg1 a 2 = sg b 2 := by rw [e1]; exact zup_s
  refine zG_run bkShe_become_8 (lv' := [(0, .ref a), (1, .ref b)]) (st' := [.int (sg1 a 2), .int 0, .ref (a + 1), .int 0, .ref (b + 1)]) (h' := zN sg1) (Ps := [zOb (zN sg1) b 5 ∧ (zN sg1).2.2 b 0 = true, zOb (zN sg1) a 5 ∧ (zN sg1).2.2 a 0 = true, zOb (zN sg1) a 5]) rfl (zA ⟨(sh_ob ib), rfl⟩ (zA ⟨(sh_ob ia), rfl⟩ (zA (sh_ob ia) trivial))) ?_
  refine zs_acopy bdShe_become_22 lk5_42 (And.intro (by decide) (by decide)) (Nat.le_of_ble_eq_true rfl) (sh_cp ia ib (n := sg1 a 2) (by grind) (by grind)).1 ?_
  refine zG_nm (sg := zcp sg1 (b + 1) (a + 1) 0 0 (sg1 a 2)) (fun sg2 e2 => ?_)
  have f2 : ∀ c j, (c < a ∨ a + 33 ≤ c) → sg2 c j = sg c j := fun c j h => by rw [e2, zcp_e, if_neg (by omega)]; exact f1 c j h
  have s2 : sg2 a 2 = sg b 2 := by rw [e2, zcp_e, if_neg (by omega)]; exact s1
  have l2 : ∀ j, 0 ≤ j → j < sg b 2 → sg2 (a + 1) j = sg (b + 1) j := fun j h1 h2 => by rw [e2, zcp_e, if_pos ⟨rfl, h1, by rw [s1]; grind⟩, f1 _ _ (by omega)]; congr 1; grind
  refine zG_run bkShe_become_25 (lv' := [(0, .ref a), (1, .ref b)]) (st' := [.int (sg2 a 2), .int 0, .ref (a + 2), .int 0, .ref (b + 2)]) (h' := zN sg2) (Ps := [zOb (zN sg2) b 5 ∧ (zN sg2).2.2 b 1 = true, zOb (zN sg2) a 5 ∧ (zN sg2).2.2 a 1 = true, zOb (zN sg2) a 5]) rfl (zA ⟨(sh_ob ib), rfl⟩ (zA ⟨(sh_ob ia), rfl⟩ (zA (sh_ob ia) trivial))) ?_
  refine zs_acopy bdShe_become_39 lk5_42 (And.intro (by decide) (by decide)) (Nat.le_of_ble_eq_true rfl) (sh_cp ia ib (n := sg2 a 2) (by grind) (by grind)).2 ?_
  refine zG_nm (sg := zcp sg2 (b + 2) (a + 2) 0 0 (sg2 a 2)) (fun sg3 e3 => ?_)
  have f3 : ∀ c j, (c < a ∨ a + 33 ≤ c) → sg3 c j = sg c j := fun c j h => by rw [e3, zcp_e, if_neg (by omega)]; exact f2 c j h
  have s3 : sg3 a 2 = sg b 2 := by rw [e3, zcp_e, if_neg (by omega)]; exact s2
  have l3 : ∀ j, 0 ≤ j → j < sg b 2 → sg3 (a + 1) j = sg (b + 1) j := fun j h1 h2 => by rw [e3, zcp_e, if_neg (by omega)]; exact l2 j h1 h2
  have p3 : ∀ j, 0 ≤ j → j < sg b 2 → sg3 (a + 2) j = sg (b + 2) j := fun j h1 h2 => by rw [e3, zcp_e, if_pos ⟨rfl, h1, by rw [s2]; grind⟩, f2 _ _ (by omega)]; congr 1; grind
  refine zG_run bkShe_become_42 (lv' := [(0, .ref a), (1, .ref b)]) (st' := []) (h' := zN (zup sg3 a 4 (sg3 b 4))) (Ps := [zOb (zN sg3) b 5, zOb (zN sg3) a 5]) rfl (zA (sh_ob ib) (zA (sh_ob ia) trivial)) ?_
  refine zG_nm (sg := zup sg3 a 4 (sg3 b 4)) (fun sg4 e4 => ?_)
  have f4 : ∀ c j, (c < a ∨ a + 33 ≤ c) → sg4 c j = sg c j := fun c j h => by rw [e4, zup_e, if_neg (by omega)]; exact f3 c j h
  have s4 : sg4 a 2 = sg b 2 := by rw [e4, zup_i (by decide)]; exact s3
  have l4 : ∀ j, 0 ≤ j → j < sg b 2 → sg4 (a + 1) j = sg (b + 1) j := fun j h1 h2 => by rw [e4, zup_a (by omega)]; exact l3 j h1 h2
  have p4 : ∀ j, 0 ≤ j → j < sg b 2 → sg4 (a + 2) j = sg (b + 2) j := fun j h1 h2 => by rw [e4, zup_a (by omega)]; exact p3 j h1 h2
  have g4 : sg4 a 4 = sg b 4 := by rw [e4, zup_s]; exact f3 b 4 (by omega)
  refine zG_run bkShe_become_50 (lv' := [(2, .int 0), (0, .ref a), (1, .ref b)]) (st' := []) (h' := zN sg4) (Ps := []) rfl trivial ?_
  refine zG_pick (lv' := [(0, .ref a), (1, .ref b), (2, .int 0)]) [1, 2, 0] rfl ?_
  refine zlp2 (fun (k : Int32) (sg5 : zSig) => zG mShe_become 411 Q 52 [(0, .ref a), (1, .ref b), (2, .int k)] [] (zN sg5)) (fun (k : Int32) (sg5 : zSig) => (0 ≤ k) ∧ (k ≤ sg b 4) ∧ (∀ c j, (c < a ∨ a + 33 ≤ c) → sg5 c j = sg c j) ∧ (sg5 a 2 = sg b 2) ∧ (∀ j, 0 ≤ j → j < sg b 2 → sg5 (a + 1) j = sg (b + 1) j) ∧ (∀ j, 0 ≤ j → j < sg b 2 → sg5 (a + 2) j = sg (b + 2) j) ∧ (sg5 a 4 = sg b 4) ∧ (∀ k2 f, 0 ≤ k2 → k2 < k → 0 ≤ f → f ≤ 8 → sg5 (zel (a + 3) k2) f = sg (zel (b + 3) k2) f)) (fun (k : Int32) (sg5 : zSig) => zmu (sg b 4) k) ?_ 0 sg4 ?_
  · intro k sg5 hk ihk
    obtain ⟨k0, k1, kf, ks, kl, kp, kg, kk⟩ := hk
    refine zb_icge (tgt := 81) bkShe_become_52 bdShe_become_57 (by decide) (lv' := [(0, .ref a), (1, .ref b), (2, .int k)]) (st' := []) (h' := zN sg5) (x := k) (y := sg5 a 4) (Ps := [zOb (zN sg5) a 5]) rfl (zA (sh_ob ia) trivial) (fun c1 => ?_) (fun c1 => ?_)
    · skip
      refine zG_run bkShe_become_81 (lv' := [(0, .ref a), (1, .ref b), (2, .int k)]) (st' := []) (h' := zN (zup sg5 a 6 (sg5 b 6))) (Ps := [zOb (zN sg5) b 5, zOb (zN sg5) a 5]) rfl (zA (sh_ob ib) (zA (sh_ob ia) trivial)) ?_
      refine zG_nm (sg := zup sg5 a 6 (sg5 b 6)) (fun sg6 e6 => ?_)
      have f6 : ∀ c j, (c < a ∨ a + 33 ≤ c) → sg6 c j = sg c j := fun c j h => by rw [e6, zup_e, if_neg (by omega)]; exact kf c j h
      have s6 : sg6 a 2 = sg b 2 := by rw [e6, zup_i (by decide)]; exact ks
      have l6 : ∀ j, 0 ≤ j → j < sg b 2 → sg6 (a + 1) j = sg (b + 1) j := fun j h1 h2 => by rw [e6, zup_a (by omega)]; exact kl j h1 h2
      have p6 : ∀ j, 0 ≤ j → j < sg b 2 → sg6 (a + 2) j = sg (b + 2) j := fun j h1 h2 => by rw [e6, zup_a (by omega)]; exact kp j h1 h2
      have g6 : sg6 a 4 = sg b 4 := by rw [e6, zup_i (by decide)]; exact kg
      have q6 : ∀ k2 f, 0 ≤ k2 → k2 < sg b 4 → 0 ≤ f → f ≤ 8 → sg6 (zel (a + 3) k2) f = sg (zel (b + 3) k2) f := fun k2 f h1 h2 h3 h4 => by have zk := sh_s_rng ia h1 (by grind : k2 < 16); rw [e6, zup_a (by omega)]; exact kk k2 f h1 (by grind) h3 h4
      have h6 : sg6 a 6 = sg b 6 := by rw [e6, zup_s]; exact kf b 6 (by omega)
      refine zG_run bkShe_become_89 (lv' := [(2, .int 0), (0, .ref a), (1, .ref b)]) (st' := []) (h' := zN sg6) (Ps := []) rfl trivial ?_
      refine zG_pick (lv' := [(0, .ref a), (1, .ref b), (2, .int 0)]) [1, 2, 0] rfl ?_
      refine zlp2 (fun (m : Int32) (sg7 : zSig) => zG mShe_become 411 Q 91 [(0, .ref a), (1, .ref b), (2, .int m)] [] (zN sg7)) (fun (m : Int32) (sg7 : zSig) => (0 ≤ m) ∧ (m ≤ sg b 6) ∧ (∀ c j, (c < a ∨ a + 33 ≤ c) → sg7 c j = sg c j) ∧ (sg7 a 2 = sg b 2) ∧ (∀ j, 0 ≤ j → j < sg b 2 → sg7 (a + 1) j = sg (b + 1) j) ∧ (∀ j, 0 ≤ j → j < sg b 2 → sg7 (a + 2) j = sg (b + 2) j) ∧ (sg7 a 4 = sg b 4) ∧ (∀ k2 f, 0 ≤ k2 → k2 < sg b 4 → 0 ≤ f → f ≤ 8 → sg7 (zel (a + 3) k2) f = sg (zel (b + 3) k2) f) ∧ (sg7 a 6 = sg b 6) ∧ (∀ k2 f, 0 ≤ k2 → k2 < m → 0 ≤ f → f ≤ 3 → sg7 (zel (a + 4) k2) f = sg (zel (b + 4) k2) f)) (fun (m : Int32) (sg7 : zSig) => zmu (sg b 6) m) ?_ 0 sg6 ?_
      · intro m sg7 hm ihm
        obtain ⟨m0, m1, mf, ms, ml, mp, mg, mk, mh, mm⟩ := hm
        refine zb_icge (tgt := 120) bkShe_become_91 bdShe_become_96 (by decide) (lv' := [(0, .ref a), (1, .ref b), (2, .int m)]) (st' := []) (h' := zN sg7) (x := m) (y := sg7 a 6) (Ps := [zOb (zN sg7) a 5]) rfl (zA (sh_ob ia) trivial) (fun c2 => ?_) (fun c2 => ?_)
        · skip
          refine zb_vret bkShe_become_120 bdShe_become_120 rfl (h' := zN sg7) (Ps := []) rfl trivial rfl ?_
          refine hq _ _ ?_
          exact ⟨sg7, rfl, rfl, mf, ms, fun j h1 h2 => ⟨ml j h1 h2, mp j h1 h2⟩, mg, mk, mh, fun k f h1 h2 h3 h4 => mm k f h1 (by grind) h3 h4⟩
        · skip
          have hlt : m < sg b 6 := by grind
          have za := sh_a_rng ia m0 (by grind : m < 12)
          have zb := sh_a_rng ib m0 (by grind : m < 12)
          refine zG_run bkShe_become_99 (lv' := [(0, .ref a), (1, .ref b), (2, .int m)]) (st' := [.ref (zel (b + 4) m), .ref (zel (a + 4) m)]) (h' := zN sg7) (Ps := [zOb (zN sg7) a 5 ∧ (zN sg7).2.2 a 5 = true, zInR (zN sg7) (a + 4) m, zOb (zN sg7) b 5 ∧ (zN sg7).2.2 b 5 = true, zInR (zN sg7) (b + 4) m]) rfl (zA ⟨(sh_ob ia), rfl⟩ (zA (sh_aR ia (i := m) (by grind) (by grind)) (zA ⟨(sh_ob ib), rfl⟩ (zA (sh_aR ib (i := m) (by grind) (by grind)) trivial)))) ?_
          refine zG_callv (a := zel (a + 4) m) (c := 1) (As := [.ref (zel (b + 4) m)]) (rest := []) (N2 := 411) bdShe_become_111 okAnc_become lk5_52 (And.intro (by decide) (by decide)) (by decide) rfl rfl rfl (Nat.le_of_ble_eq_true rfl) (Nat.le_of_ble_eq_true rfl) (Nat.le_refl 411) (Nat.le_refl 411) (sh_ao ia (i := m) (by grind) (by grind)) (cAnc_become (sh_ao ia (i := m) (by grind) (by grind)) (sh_ao ib (i := m) (by grind) (by grind)) (by omega) (by rw [mf _ _ (by omega)]; exact ob.2.2.2.2 m m0 hlt)) ?_
          rintro rr h' ⟨rfl, rfl⟩ -
          refine zG_run bkShe_become_114 (lv' := [(2, .int (m + 1)), (0, .ref a), (1, .ref b)]) (st' := []) (h' := zN (hAnB sg7 (zel (a + 4) m) (zel (b + 4) m))) (Ps := []) rfl trivial ?_
          refine zG_pick (lv' := [(0, .ref a), (1, .ref b), (2, .int (m + 1))]) [1, 2, 0] rfl ?_
          refine ihm (m + 1) (hAnB sg7 (zel (a + 4) m) (zel (b + 4) m)) ?_ ?_
          · refine ⟨?_, ?_, ?_, ?_, ?_, ?_, ?_, ?_, ?_, ?_⟩
            · grind
            · grind
            · intro c j hc; rw [hAnB_e (by omega), if_neg (by omega)]; exact mf c j hc
            · rw [hAnB_e (by omega), if_neg (by omega)]; exact ms
            · intro j h1 h2; rw [hAnB_e (by omega), if_neg (by omega)]; exact ml j h1 h2
            · intro j h1 h2; rw [hAnB_e (by omega), if_neg (by omega)]; exact mp j h1 h2
            · rw [hAnB_e (by omega), if_neg (by omega)]; exact mg
            · intro k2 f h1 h2 h3 h4; have zk := sh_s_rng ia h1 (by grind : k2 < 16); rw [hAnB_e (by omega), if_neg (by omega)]; exact mk k2 f h1 h2 h3 h4
            · rw [hAnB_e (by omega), if_neg (by omega)]; exact mh
            · intro k2 f h1 h2 h3 h4; rw [hAnB_e (by omega)]; by_cases hk : k2 = m
              · subst hk; rw [if_pos ⟨rfl, h3, h4⟩]; exact mf _ f (by omega)
              · rw [if_neg (fun q => hk (sh_a_inj ia h1 (by grind) m0 (by grind) q.1))]; exact mm k2 f h1 (by grind) h3 h4
          · exact zmu_up (by grind)
      · refine ⟨?_, ?_, ?_, ?_, ?_, ?_, ?_, ?_, ?_, ?_⟩
        · grind
        · grind
        · exact f6
        · exact s6
        · exact l6
        · exact p6
        · exact g6
        · exact q6
        · exact h6
        · grind
    · skip
      have hlt : k < sg b 4 := by grind
      have za := sh_s_rng ia k0 (by grind : k < 16)
      have zb := sh_s_rng ib k0 (by grind : k < 16)
      refine zG_run bkShe_become_60 (lv' := [(0, .ref a), (1, .ref b), (2, .int k)]) (st' := [.ref (zel (b + 3) k), .ref (zel (a + 3) k)]) (h' := zN sg5) (Ps := [zOb (zN sg5) a 5 ∧ (zN sg5).2.2 a 3 = true, zInR (zN sg5) (a + 3) k, zOb (zN sg5) b 5 ∧ (zN sg5).2.2 b 3 = true, zInR (zN sg5) (b + 3) k]) rfl (zA ⟨(sh_ob ia), rfl⟩ (zA (sh_sR ia (i := k) (by grind) (by grind)) (zA ⟨(sh_ob ib), rfl⟩ (zA (sh_sR ib (i := k) (by grind) (by grind)) trivial)))) ?_
      refine zG_callv (a := zel (a + 3) k) (c := 6) (As := [.ref (zel (b + 3) k)]) (rest := []) (N2 := 411) bdShe_become_72 okSpa_become lk5_48 (And.intro (by decide) (by decide)) (by decide) rfl rfl rfl (Nat.le_of_ble_eq_true rfl) (Nat.le_of_ble_eq_true rfl) (Nat.le_refl 411) (Nat.le_refl 411) (sh_so ia (i := k) (by grind) (by grind)) (cSpa_become (sh_so ia (i := k) (by grind) (by grind)) (sh_so ib (i := k) (by grind) (by grind)) (by omega) (by rw [kf _ _ (by omega)]; exact ob.2.2.2.1 k k0 hlt)) ?_
      rintro rr h' ⟨rfl, rfl⟩ -
      refine zG_run bkShe_become_75 (lv' := [(2, .int (k + 1)), (0, .ref a), (1, .ref b)]) (st' := []) (h' := zN (hSpB sg5 (zel (a + 3) k) (zel (b + 3) k))) (Ps := []) rfl trivial ?_
      refine zG_pick (lv' := [(0, .ref a), (1, .ref b), (2, .int (k + 1))]) [1, 2, 0] rfl ?_
      refine ihk (k + 1) (hSpB sg5 (zel (a + 3) k) (zel (b + 3) k)) ?_ ?_
      · refine ⟨?_, ?_, ?_, ?_, ?_, ?_, ?_, ?_⟩
        · grind
        · grind
        · intro c j hc; rw [hSpB_e (by omega), if_neg (by omega)]; exact kf c j hc
        · rw [hSpB_e (by omega), if_neg (by omega)]; exact ks
        · intro j h1 h2; rw [hSpB_e (by omega), if_neg (by omega)]; exact kl j h1 h2
        · intro j h1 h2; rw [hSpB_e (by omega), if_neg (by omega)]; exact kp j h1 h2
        · rw [hSpB_e (by omega), if_neg (by omega)]; exact kg
        · intro k2 f h1 h2 h3 h4; rw [hSpB_e (by omega)]; by_cases hk : k2 = k
          · subst hk; rw [if_pos ⟨rfl, h3, h4⟩]; exact kf _ f (by omega)
          · rw [if_neg (fun q => hk (sh_s_inj ia h1 (by grind) k0 (by grind) q.1))]; exact kk k2 f h1 (by grind) h3 h4
      · exact zmu_up (by grind)
  · refine ⟨?_, ?_, ?_, ?_, ?_, ?_, ?_, ?_⟩
    · grind
    · grind
    · exact f4
    · exact s4
    · exact l4
    · exact p4
    · exact g4
    · grind
theorem cShe_become {sg : zSig} {a b : Nat} (ia : iSh a) (ib : iSh b) (hd : a + 33 ≤ b ∨ b + 33 ≤ a) (ob : okS sg b)  : zG mShe_become 411 (fun rr h' => ∃ sg', rr = none ∧ h' = zN sg' ∧ hSB sg sg' a b) 0 [(0, .ref a), (1, .ref b)] [] (zN sg) := lShe_become ia ib hd ob (fun _ _ q => q)
