/-! the constructors with loops: printed by wip/whole/gen_init2.py -/
theorem bkShe_init_0 : zBk mShe_init 0 [(1, 0, 1, 0, 0)] = some 1 := by decide +kernel
theorem bkShe_init_4 : zBk mShe_init 4 [(1, 0, 1, 0, 0), (0, 0, 0, 0, 200)] = some 8 := by decide +kernel
theorem bkShe_init_13 : zBk mShe_init 13 [(1, 0, 1, 0, 0), (0, 0, 0, 0, 200)] = some 17 := by decide +kernel
theorem bkShe_init_22 : zBk mShe_init 22 [(1, 0, 1, 0, 0), (0, 0, 0, 0, 0), (6, 5, 2, 0, 2)] = some 27 := by decide +kernel
theorem bkShe_init_27 : zBk mShe_init 27 [(1, 0, 1, 0, 0), (0, 0, 0, 0, 16)] = some 30 := by decide +kernel
theorem bkShe_init_36 : zBk mShe_init 36 [(1, 0, 1, 0, 0), (0, 0, 0, 0, 0), (6, 5, 4, 0, 4)] = some 41 := by decide +kernel
theorem bkShe_init_41 : zBk mShe_init 41 [(1, 0, 1, 0, 0), (0, 0, 0, 0, 12)] = some 44 := by decide +kernel
theorem bkShe_init_50 : zBk mShe_init 50 [(1, 0, 1, 0, 0), (0, 0, 0, 0, 0), (6, 5, 6, 0, 6)] = some 55 := by decide +kernel
theorem bkShe_init_55 : zBk mShe_init 55 [(0, 0, 0, 0, 0), (2, 1, 0, 0, 0)] = some 57 := by decide +kernel
theorem bkShe_init_57 : zBk mShe_init 57 [(1, 1, 0, 0, 0), (0, 0, 0, 0, 16)] = some 60 := by decide +kernel
theorem bkShe_init_60 : zBk mShe_init 60 [] = some 60 := by decide +kernel
theorem bkShe_init_82 : zBk mShe_init 82 [(0, 0, 0, 0, 0), (2, 1, 0, 0, 0)] = some 84 := by decide +kernel
theorem bkShe_init_84 : zBk mShe_init 84 [(1, 1, 0, 0, 0), (0, 0, 0, 0, 12)] = some 87 := by decide +kernel
theorem bkShe_init_87 : zBk mShe_init 87 [] = some 87 := by decide +kernel
theorem bkShe_init_109 : zBk mShe_init 109 [] = some 109 := by decide +kernel
theorem bkShe_init_90 : zBk mShe_init 90 [(1, 0, 1, 0, 0), (5, 5, 5, 4, 5), (1, 1, 0, 0, 0)] = some 95 := by decide +kernel
theorem bkShe_init_98 : zBk mShe_init 98 [(18, 0, 0, 0, 0)] = some 99 := by decide +kernel
theorem bkShe_init_103 : zBk mShe_init 103 [(3, 1, 0, 0, 1), (22, 84, 0, 0, 0)] = some 84 := by decide +kernel
theorem bkShe_init_63 : zBk mShe_init 63 [(1, 0, 1, 0, 0), (5, 5, 3, 3, 3), (1, 1, 0, 0, 0)] = some 68 := by decide +kernel
theorem bkShe_init_71 : zBk mShe_init 71 [(18, 0, 0, 0, 0)] = some 72 := by decide +kernel
theorem bkShe_init_76 : zBk mShe_init 76 [(3, 1, 0, 0, 1), (22, 57, 0, 0, 0)] = some 57 := by decide +kernel
theorem bdShe_init_1 : decode mShe_init.2.2.1 1 = .ok (.invokespecial 3, 3) := by decide +kernel
theorem bdShe_init_8 : decode mShe_init.2.2.1 8 = .ok (.newarray .int, 2) := by decide +kernel
theorem bdShe_init_10 : decode mShe_init.2.2.1 10 = .ok (.putfield 9, 3) := by decide +kernel
theorem bdShe_init_17 : decode mShe_init.2.2.1 17 = .ok (.newarray .int, 2) := by decide +kernel
theorem bdShe_init_19 : decode mShe_init.2.2.1 19 = .ok (.putfield 15, 3) := by decide +kernel
theorem bdShe_init_30 : decode mShe_init.2.2.1 30 = .ok (.anewarray 22, 3) := by decide +kernel
theorem bdShe_init_33 : decode mShe_init.2.2.1 33 = .ok (.putfield 24, 3) := by decide +kernel
theorem bdShe_init_44 : decode mShe_init.2.2.1 44 = .ok (.anewarray 31, 3) := by decide +kernel
theorem bdShe_init_47 : decode mShe_init.2.2.1 47 = .ok (.putfield 33, 3) := by decide +kernel
theorem bdShe_init_60 : decode mShe_init.2.2.1 60 = .ok (.if_icmp .ge 22, 3) := by decide +kernel
theorem bdShe_init_68 : decode mShe_init.2.2.1 68 = .ok (.new 22, 3) := by decide +kernel
theorem bdShe_init_72 : decode mShe_init.2.2.1 72 = .ok (.invokespecial 40, 3) := by decide +kernel
theorem bdShe_init_75 : decode mShe_init.2.2.1 75 = .ok (.aastore, 1) := by decide +kernel
theorem bdShe_init_87 : decode mShe_init.2.2.1 87 = .ok (.if_icmp .ge 22, 3) := by decide +kernel
theorem bdShe_init_95 : decode mShe_init.2.2.1 95 = .ok (.new 31, 3) := by decide +kernel
theorem bdShe_init_99 : decode mShe_init.2.2.1 99 = .ok (.invokespecial 41, 3) := by decide +kernel
theorem bdShe_init_102 : decode mShe_init.2.2.1 102 = .ok (.aastore, 1) := by decide +kernel
theorem bdShe_init_109 : decode mShe_init.2.2.1 109 = .ok (.return_, 1) := by decide +kernel
set_option maxHeartbeats 4000000 in
theorem lShe_init {a : Nat} {h : zHp} (hn : h.2.1 = a + 1) (hi : iSh a) (hf : zFA h a) {Q : Option Value → zHp → Prop} (hq : ∀ rr h', (rr = none ∧ zMd a (a + 33) h h') → Q rr h') : zG mShe_init (a + 33) Q 0 [(0, .ref a)] [] h := by
  have hlt := hi.1
  have c0 := zCo_0 hn hf (by omega)
  have c0 := zCo_w (q' := fun _ _ => False) c0 (fun _ _ _ _ k => k) (fun c j k => k.2 (zIv_0 hi.2.1 (by decide) (by decide) (by decide)))
  refine zG_run bkShe_init_0 (lv' := [(0, .ref a)]) (st' := [.ref a]) (h' := h) (Ps := []) rfl trivial ?_
  refine zs_objinit (a := a) bdShe_init_1 lo5_3 (And.intro (by decide) (by decide)) (Nat.le_of_ble_eq_true rfl) ?_
  refine zG_run bkShe_init_4 (lv' := [(0, .ref a)]) (st' := [.int 200, .ref a]) (h' := h) (Ps := []) rfl trivial ?_
  refine zc_newI (m := 200) (n := a + 1) c0.1 bdShe_init_8 hi.2.2.1 rfl (by omega) (by omega) (c0.2.2.2.2.1 (a + 1) (Nat.le_refl _) (by omega)) ?_
  refine zG_nmh (h := (h.1, a + 1 + 1, h.2.2)) (fun g1 e1 => ?_)
  have c1 := zCo_arr c0 (fun _ => zrv_1 hi.2.2.1) (fun _ => zIv_1 hi.2.2.1) (by omega)
  rw [← e1] at c1
  clear e1
  refine zs_putref (c := 5) (j := 0) (a := a) (b := a + 1) (ty := .array .int) bdShe_init_10 (by decide +kernel) (by decide) (by show _ = _ + 1; omega) (by omega) ⟨by rw [c1.1]; omega, hi.2.1⟩ rfl (by decide) (by decide +kernel) (fun _ => rfl) (fun _ => rfl) ?_
  refine zG_nmh (h := (g1.1, g1.2.1, zini g1.2.2 a 0)) (fun g2 e2 => ?_)
  have c2 := zCo_put (b := a) (j := 0) c1 (Nat.le_refl _) (by omega)
  rw [← e2] at c2
  clear e2
  refine zG_run bkShe_init_13 (lv' := [(0, .ref a)]) (st' := [.int 200, .ref a]) (h' := g2) (Ps := []) rfl trivial ?_
  refine zc_newI (m := 200) (n := a + 2) c2.1 bdShe_init_17 hi.2.2.2.1 rfl (by omega) (by omega) (c2.2.2.2.2.1 (a + 2) (Nat.le_refl _) (by omega)) ?_
  refine zG_nmh (h := (g2.1, a + 2 + 1, g2.2.2)) (fun g3 e3 => ?_)
  have c3 := zCo_arr c2 (fun _ => zrv_1 hi.2.2.2.1) (fun _ => zIv_1 hi.2.2.2.1) (by omega)
  rw [← e3] at c3
  clear e3
  refine zs_putref (c := 5) (j := 1) (a := a) (b := a + 2) (ty := .array .int) bdShe_init_19 (by decide +kernel) (by decide) (by show _ = _ + 2; omega) (by omega) ⟨by rw [c3.1]; omega, hi.2.1⟩ rfl (by decide) (by decide +kernel) (fun _ => rfl) (fun _ => rfl) ?_
  refine zG_nmh (h := (g3.1, g3.2.1, zini g3.2.2 a 1)) (fun g4 e4 => ?_)
  have c4 := zCo_put (b := a) (j := 1) c3 (Nat.le_refl _) (by omega)
  rw [← e4] at c4
  clear e4
  refine zG_run bkShe_init_22 (lv' := [(0, .ref a)]) (st' := []) (h' := (zup g4.1 a 2 0, g4.2)) (Ps := [zOb g4 a 5]) rfl (zA ⟨by rw [c4.1]; omega, hi.2.1⟩ trivial) ?_
  refine zG_nmh (h := (zup g4.1 a 2 0, g4.2)) (fun g5 e5 => ?_)
  have c5 := zCo_int2 (b := a) (j := 2) (x := 0) c4 (Nat.le_refl _) (by omega) (by rw [zIv, hi.2.1]; rfl) (by omega)
  rw [← e5] at c5
  clear e5
  refine zG_run bkShe_init_27 (lv' := [(0, .ref a)]) (st' := [.int 16, .ref a]) (h' := g5) (Ps := []) rfl trivial ?_
  refine zc_newq (r := 0) (m := 16) (n := a + 3) c5.1 bdShe_init_30 (by decide +kernel) (by decide) (fun _ => rfl) hi.2.2.2.2.1 rfl (by omega) (by omega) (c5.2.2.2.2.1 (a + 3) (Nat.le_refl _) (by omega)) ?_
  refine zG_nmh (h := (g5.1, a + 3 + 1, g5.2.2)) (fun g6 e6 => ?_)
  have c6 := zCo_row c5 (fun _ => zIv_1 hi.2.2.2.2.1) (by omega)
  rw [← e6] at c6
  clear e6
  refine zs_putref (c := 5) (j := 3) (a := a) (b := a + 3) (ty := .array (.object "StyledRuns$Span")) bdShe_init_33 (by decide +kernel) (by decide) (by show _ = _ + 3; omega) (by omega) ⟨by rw [c6.1]; omega, hi.2.1⟩ rfl (by decide) (by decide +kernel) (fun _ => rfl) (fun _ => rfl) ?_
  refine zG_nmh (h := (g6.1, g6.2.1, zini g6.2.2 a 3)) (fun g7 e7 => ?_)
  have c7 := zCo_put (b := a) (j := 3) c6 (Nat.le_refl _) (by omega)
  rw [← e7] at c7
  clear e7
  refine zG_run bkShe_init_36 (lv' := [(0, .ref a)]) (st' := []) (h' := (zup g7.1 a 4 0, g7.2)) (Ps := [zOb g7 a 5]) rfl (zA ⟨by rw [c7.1]; omega, hi.2.1⟩ trivial) ?_
  refine zG_nmh (h := (zup g7.1 a 4 0, g7.2)) (fun g8 e8 => ?_)
  have c8 := zCo_int2 (b := a) (j := 4) (x := 0) c7 (Nat.le_refl _) (by omega) (by rw [zIv, hi.2.1]; rfl) (by omega)
  rw [← e8] at c8
  clear e8
  refine zG_run bkShe_init_41 (lv' := [(0, .ref a)]) (st' := [.int 12, .ref a]) (h' := g8) (Ps := []) rfl trivial ?_
  refine zc_newq (r := 1) (m := 12) (n := a + 4) c8.1 bdShe_init_44 (by decide +kernel) (by decide) (fun _ => rfl) hi.2.2.2.2.2.1 rfl (by omega) (by omega) (c8.2.2.2.2.1 (a + 4) (Nat.le_refl _) (by omega)) ?_
  refine zG_nmh (h := (g8.1, a + 4 + 1, g8.2.2)) (fun g9 e9 => ?_)
  have c9 := zCo_row c8 (fun _ => zIv_1 hi.2.2.2.2.2.1) (by omega)
  rw [← e9] at c9
  clear e9
  refine zs_putref (c := 5) (j := 5) (a := a) (b := a + 4) (ty := .array (.object "StyledRuns$Anchor")) bdShe_init_47 (by decide +kernel) (by decide) (by show _ = _ + 4; omega) (by omega) ⟨by rw [c9.1]; omega, hi.2.1⟩ rfl (by decide) (by decide +kernel) (fun _ => rfl) (fun _ => rfl) ?_
  refine zG_nmh (h := (g9.1, g9.2.1, zini g9.2.2 a 5)) (fun g10 e10 => ?_)
  have c10 := zCo_put (b := a) (j := 5) c9 (Nat.le_refl _) (by omega)
  rw [← e10] at c10
  clear e10
  refine zG_run bkShe_init_50 (lv' := [(0, .ref a)]) (st' := []) (h' := (zup g10.1 a 6 0, g10.2)) (Ps := [zOb g10 a 5]) rfl (zA ⟨by rw [c10.1]; omega, hi.2.1⟩ trivial) ?_
  refine zG_nmh (h := (zup g10.1 a 6 0, g10.2)) (fun g11 e11 => ?_)
  have c11 := zCo_int2 (b := a) (j := 6) (x := 0) c10 (Nat.le_refl _) (by omega) (by rw [zIv, hi.2.1]; rfl) (by omega)
  rw [← e11] at c11
  clear e11
  refine zG_run bkShe_init_55 (lv' := [(1, .int 0), (0, .ref a)]) (st' := []) (h' := g11) (Ps := []) rfl trivial ?_
  refine zG_pick (lv' := [(0, .ref a), (1, .int 0)]) [1, 0] rfl ?_
  refine zlp2 (fun (k : Int32) (g : zHp) => zG mShe_init (a + 33) Q 57 [(0, .ref a), (1, .int k)] [] g) (fun (k : Int32) (g : zHp) => 0 ≤ k ∧ k ≤ 16 ∧ zCo a (a + 5 + k.toNatClampNeg) h g (fun c i => (c = a + 3 ∧ k.toNatClampNeg ≤ i) ∨ c = a + 4) (fun _ _ => False)) (fun (k : Int32) _ => zmu 16 k) ?_ 0 g11 ?_
  · intro k gk hI ihk
    obtain ⟨k0, k1, ck⟩ := hI
    refine zG_run bkShe_init_57 (lv' := [(0, .ref a), (1, .int k)]) (st' := [.int 16, .int k]) (h' := gk) (Ps := []) rfl trivial ?_
    refine zb_icge (tgt := 82) bkShe_init_60 bdShe_init_60 (by decide) (lv' := [(0, .ref a), (1, .int k)]) (st' := []) (h' := gk) (x := k) (y := 16) (Ps := []) rfl trivial (fun ct => ?_) (fun ct => ?_)
    · skip
      have ek : k = 16 := by lia
      have ekk : k.toNatClampNeg = 16 := by rw [ek]; rfl
      rw [ekk] at ck
      have cxk : zCo a (a + 21) h gk (fun c i => (c = a + 3 ∧ 16 ≤ i) ∨ c = a + 4) (fun _ _ => False) := ck
      refine zG_run bkShe_init_82 (lv' := [(1, .int 0), (0, .ref a)]) (st' := []) (h' := gk) (Ps := []) rfl trivial ?_
      refine zG_pick (lv' := [(0, .ref a), (1, .int 0)]) [1, 0] rfl ?_
      refine zlp2 (fun (q : Int32) (g : zHp) => zG mShe_init (a + 33) Q 84 [(0, .ref a), (1, .int q)] [] g) (fun (q : Int32) (g : zHp) => 0 ≤ q ∧ q ≤ 12 ∧ zCo a (a + 21 + q.toNatClampNeg) h g (fun c i => c = a + 4 ∧ q.toNatClampNeg ≤ i) (fun _ _ => False)) (fun (q : Int32) _ => zmu 12 q) ?_ 0 gk ?_
      · intro q gq hI ihq
        obtain ⟨q0, q1, cq⟩ := hI
        refine zG_run bkShe_init_84 (lv' := [(0, .ref a), (1, .int q)]) (st' := [.int 12, .int q]) (h' := gq) (Ps := []) rfl trivial ?_
        refine zb_icge (tgt := 109) bkShe_init_87 bdShe_init_87 (by decide) (lv' := [(0, .ref a), (1, .int q)]) (st' := []) (h' := gq) (x := q) (y := 12) (Ps := []) rfl trivial (fun ct => ?_) (fun ct => ?_)
        · skip
          have ek : q = 12 := by lia
          have ekk : q.toNatClampNeg = 12 := by rw [ek]; rfl
          rw [ekk] at cq
          have cxq : zCo a (a + 33) h gq (fun c i => c = a + 4 ∧ 12 ≤ i) (fun _ _ => False) := cq
          refine zb_vret (h' := gq) (Ps := []) bkShe_init_109 bdShe_init_109 rfl rfl trivial cxq.1 ?_
          refine hq _ _ ⟨rfl, zCo_end cxq (fun c j hc hz hp => ?_) (fun _ _ k => k)⟩
          try dsimp only at hp
          by_cases hca : c = a
          · subst hca
            have hj := zrvc5 hi.2.1 hz
            simp only [List.mem_cons, List.not_mem_nil, or_false] at hj
            clear hz; omega
          by_cases hra_3 : c = a + 3
          · subst hra_3
            have hj := zrv_2 hi.2.2.2.2.1 hz
            clear hz; omega
          by_cases hra_4 : c = a + 4
          · subst hra_4
            have hj := zrv_2 hi.2.2.2.2.2.1 hz
            clear hz; omega
          clear hz; omega
        · skip
          have hkq := zcl_lt (n := 12) q0 (by decide) (by show q < 12; lia)
          refine zG_run bkShe_init_90 (lv' := [(0, .ref a), (1, .int q)]) (st' := [.int q, .ref (a + 4)]) (h' := gq) (Ps := [zOb gq a 5 ∧ gq.2.2 a 5 = true]) rfl (zA ⟨⟨by rw [cq.1]; omega, hi.2.1⟩, cq.2.2.2.2.2 a 5 (Nat.le_refl _) (by omega) (by unfold zrv; rw [hi.2.1]; decide) (by (try dsimp only); omega)⟩ trivial) ?_
          refine zc_new (c := 1) (n := a + 21 + q.toNatClampNeg) cq.1 bdShe_init_95 (by decide +kernel) (hi.2.2.2.2.2.2.2 _ hkq) (by omega) (by omega) (cq.2.2.2.2.1 (a + 21 + q.toNatClampNeg) (Nat.le_refl _) (by omega)) ?_
          refine zG_run bkShe_init_98 (lv' := [(0, .ref a), (1, .int q)]) (st' := [.ref (a + 21 + q.toNatClampNeg), .ref (a + 21 + q.toNatClampNeg), .int q, .ref (a + 4)]) (h' := (gq.1, a + 21 + q.toNatClampNeg + 1, gq.2.2)) (Ps := []) rfl trivial ?_
          refine zG_calliN (a := a + 21 + q.toNatClampNeg) (rest := [.ref (a + 21 + q.toNatClampNeg), .int q, .ref (a + 4)]) (N2 := a + 21 + q.toNatClampNeg + 1) bdShe_init_99 okAnc_init li5_41 ⟨rfl, rfl⟩ (And.intro (by decide) (by decide)) rfl (Nat.le_of_ble_eq_true rfl) (by decide) (by show a + 21 + q.toNatClampNeg + 1 ≤ _; omega) (by omega) (cAnc_init rfl (by omega) (hi.2.2.2.2.2.2.2 _ hkq)  (zCo_fa cq)) ?_
          rintro rr g12 ⟨rfl, hm12⟩ -
          have c12 := zCo_call cq hm12 (by omega) (by omega)
          refine zs_aastore (a := a + 4) (r := 1) (n := 12) (v := a + 21 + q.toNatClampNeg) (i := q) bdShe_init_102 (by rw [c12.1]; omega) hi.2.2.2.2.2.1 (by decide) (fun _ => rfl) (by lia) (by show q < 12; lia) (by show _ = a + 4 + 17 + 1 * _; omega) ⟨by rw [c12.1]; omega, (hi.2.2.2.2.2.2.2 _ hkq)⟩ ?_
          refine zG_nmh (h := (g12.1, g12.2.1, zini g12.2.2 (a + 4) q.toNatClampNeg)) (fun g13 e13 => ?_)
          have c13 := zCo_put (b := a + 4) (j := q.toNatClampNeg) c12 (by omega) (by omega)
          rw [← e13] at c13
          clear e13
          refine zG_run bkShe_init_103 (lv' := [(1, .int (q + 1)), (0, .ref a)]) (st' := []) (h' := g13) (Ps := []) rfl trivial ?_
          refine zG_pick (lv' := [(0, .ref a), (1, .int (q + 1))]) [1, 0] rfl ?_
          have e1 := (zcl q0 (by lia)).1
          refine ihq (q + 1) g13 ⟨by lia, by lia, ?_⟩ (zmu_up (by lia))
          have en : a + 21 + (q + 1).toNatClampNeg = a + 21 + q.toNatClampNeg + 1 := by rw [e1]; omega
          rw [en]
          refine zCo_w c13 (fun c j hc hz hp => ?_) (fun _ _ k => k)
          try dsimp only at hp
          try dsimp only
          by_cases hca : c = a
          · subst hca
            have hj := zrvc5 hi.2.1 hz
            simp only [List.mem_cons, List.not_mem_nil, or_false] at hj
            clear hz; omega
          by_cases hra_3 : c = a + 3
          · subst hra_3
            have hj := zrv_2 hi.2.2.2.2.1 hz
            clear hz; omega
          by_cases hra_4 : c = a + 4
          · subst hra_4
            have hj := zrv_2 hi.2.2.2.2.2.1 hz
            clear hz; omega
          clear hz; omega
      · have e0 : (0 : Int32).toNatClampNeg = 0 := rfl
        refine ⟨by decide, by decide, ?_⟩
        have en : a + 21 + (0 : Int32).toNatClampNeg = a + 21 := by omega
        rw [en]
        refine zCo_w cxk (fun c j hc hz hp => ?_) (fun _ _ k => k)
        try dsimp only at hp
        try dsimp only
        by_cases hca : c = a
        · subst hca
          have hj := zrvc5 hi.2.1 hz
          simp only [List.mem_cons, List.not_mem_nil, or_false] at hj
          clear hz; omega
        by_cases hra_3 : c = a + 3
        · subst hra_3
          have hj := zrv_2 hi.2.2.2.2.1 hz
          clear hz; omega
        by_cases hra_4 : c = a + 4
        · subst hra_4
          have hj := zrv_2 hi.2.2.2.2.2.1 hz
          clear hz; omega
        clear hz; omega
    · skip
      have hkk := zcl_lt (n := 16) k0 (by decide) (by show k < 16; lia)
      refine zG_run bkShe_init_63 (lv' := [(0, .ref a), (1, .int k)]) (st' := [.int k, .ref (a + 3)]) (h' := gk) (Ps := [zOb gk a 5 ∧ gk.2.2 a 3 = true]) rfl (zA ⟨⟨by rw [ck.1]; omega, hi.2.1⟩, ck.2.2.2.2.2 a 3 (Nat.le_refl _) (by omega) (by unfold zrv; rw [hi.2.1]; decide) (by (try dsimp only); omega)⟩ trivial) ?_
      refine zc_new (c := 6) (n := a + 5 + k.toNatClampNeg) ck.1 bdShe_init_68 (by decide +kernel) (hi.2.2.2.2.2.2.1 _ hkk) (by omega) (by omega) (ck.2.2.2.2.1 (a + 5 + k.toNatClampNeg) (Nat.le_refl _) (by omega)) ?_
      refine zG_run bkShe_init_71 (lv' := [(0, .ref a), (1, .int k)]) (st' := [.ref (a + 5 + k.toNatClampNeg), .ref (a + 5 + k.toNatClampNeg), .int k, .ref (a + 3)]) (h' := (gk.1, a + 5 + k.toNatClampNeg + 1, gk.2.2)) (Ps := []) rfl trivial ?_
      refine zG_calliN (a := a + 5 + k.toNatClampNeg) (rest := [.ref (a + 5 + k.toNatClampNeg), .int k, .ref (a + 3)]) (N2 := a + 5 + k.toNatClampNeg + 1) bdShe_init_72 okSpa_init li5_40 ⟨rfl, rfl⟩ (And.intro (by decide) (by decide)) rfl (Nat.le_of_ble_eq_true rfl) (by decide) (by show a + 5 + k.toNatClampNeg + 1 ≤ _; omega) (by omega) (cSpa_init rfl (by omega) (hi.2.2.2.2.2.2.1 _ hkk)  (zCo_fa ck)) ?_
      rintro rr g14 ⟨rfl, hm14⟩ -
      have c14 := zCo_call ck hm14 (by omega) (by omega)
      refine zs_aastore (a := a + 3) (r := 0) (n := 16) (v := a + 5 + k.toNatClampNeg) (i := k) bdShe_init_75 (by rw [c14.1]; omega) hi.2.2.2.2.1 (by decide) (fun _ => rfl) (by lia) (by show k < 16; lia) (by show _ = a + 3 + 2 + 1 * _; omega) ⟨by rw [c14.1]; omega, (hi.2.2.2.2.2.2.1 _ hkk)⟩ ?_
      refine zG_nmh (h := (g14.1, g14.2.1, zini g14.2.2 (a + 3) k.toNatClampNeg)) (fun g15 e15 => ?_)
      have c15 := zCo_put (b := a + 3) (j := k.toNatClampNeg) c14 (by omega) (by omega)
      rw [← e15] at c15
      clear e15
      refine zG_run bkShe_init_76 (lv' := [(1, .int (k + 1)), (0, .ref a)]) (st' := []) (h' := g15) (Ps := []) rfl trivial ?_
      refine zG_pick (lv' := [(0, .ref a), (1, .int (k + 1))]) [1, 0] rfl ?_
      have e1 := (zcl k0 (by lia)).1
      refine ihk (k + 1) g15 ⟨by lia, by lia, ?_⟩ (zmu_up (by lia))
      have en : a + 5 + (k + 1).toNatClampNeg = a + 5 + k.toNatClampNeg + 1 := by rw [e1]; omega
      rw [en]
      refine zCo_w c15 (fun c j hc hz hp => ?_) (fun _ _ k => k)
      try dsimp only at hp
      try dsimp only
      by_cases hca : c = a
      · subst hca
        have hj := zrvc5 hi.2.1 hz
        simp only [List.mem_cons, List.not_mem_nil, or_false] at hj
        clear hz; omega
      by_cases hra_3 : c = a + 3
      · subst hra_3
        have hj := zrv_2 hi.2.2.2.2.1 hz
        clear hz; omega
      by_cases hra_4 : c = a + 4
      · subst hra_4
        have hj := zrv_2 hi.2.2.2.2.2.1 hz
        clear hz; omega
      clear hz; omega
  · have e0 : (0 : Int32).toNatClampNeg = 0 := rfl
    refine ⟨by decide, by decide, ?_⟩
    have en : a + 5 + (0 : Int32).toNatClampNeg = a + 5 := by omega
    rw [en]
    refine zCo_w c11 (fun c j hc hz hp => ?_) (fun _ _ k => k)
    try dsimp only at hp
    try dsimp only
    by_cases hca : c = a
    · subst hca
      have hj := zrvc5 hi.2.1 hz
      simp only [List.mem_cons, List.not_mem_nil, or_false] at hj
      clear hz; omega
    by_cases hra_3 : c = a + 3
    · subst hra_3
      have hj := zrv_2 hi.2.2.2.2.1 hz
      clear hz; omega
    by_cases hra_4 : c = a + 4
    · subst hra_4
      have hj := zrv_2 hi.2.2.2.2.2.1 hz
      clear hz; omega
    clear hz; omega
theorem cShe_init {a : Nat} {h : zHp} (hn : h.2.1 = a + 1) (hi : iSh a) (hf : zFA h a) : zG mShe_init (a + 33) (fun rr h' => rr = none ∧ zMd a (a + 33) h h') 0 [(0, .ref a)] [] h := lShe_init hn hi hf (fun _ _ q => q)
theorem bkHis_init_0 : zBk mHis_init 0 [(1, 0, 1, 0, 0)] = some 1 := by decide +kernel
theorem bkHis_init_4 : zBk mHis_init 4 [(1, 0, 1, 0, 0), (0, 0, 0, 0, 8)] = some 7 := by decide +kernel
theorem bkHis_init_13 : zBk mHis_init 13 [(1, 0, 1, 0, 0), (0, 0, 0, 0, 8)] = some 16 := by decide +kernel
theorem bkHis_init_22 : zBk mHis_init 22 [(1, 0, 1, 0, 0), (0, 0, 0, 0, 0), (6, 2, 2, 0, 2)] = some 27 := by decide +kernel
theorem bkHis_init_27 : zBk mHis_init 27 [(1, 0, 1, 0, 0), (0, 0, 0, 0, 0), (6, 2, 3, 0, 3)] = some 32 := by decide +kernel
theorem bkHis_init_32 : zBk mHis_init 32 [(0, 0, 0, 0, 0), (2, 1, 0, 0, 0)] = some 34 := by decide +kernel
theorem bkHis_init_34 : zBk mHis_init 34 [(1, 1, 0, 0, 0), (0, 0, 0, 0, 8)] = some 37 := by decide +kernel
theorem bkHis_init_37 : zBk mHis_init 37 [] = some 37 := by decide +kernel
theorem bkHis_init_72 : zBk mHis_init 72 [] = some 72 := by decide +kernel
theorem bkHis_init_40 : zBk mHis_init 40 [(1, 0, 1, 0, 0), (5, 2, 0, 1, 0), (1, 1, 0, 0, 0)] = some 45 := by decide +kernel
theorem bkHis_init_48 : zBk mHis_init 48 [(18, 0, 0, 0, 0)] = some 49 := by decide +kernel
theorem bkHis_init_53 : zBk mHis_init 53 [(1, 0, 1, 0, 0), (5, 2, 1, 2, 1), (1, 1, 0, 0, 0)] = some 58 := by decide +kernel
theorem bkHis_init_61 : zBk mHis_init 61 [(18, 0, 0, 0, 0)] = some 62 := by decide +kernel
theorem bkHis_init_66 : zBk mHis_init 66 [(3, 1, 0, 0, 1), (22, 34, 0, 0, 0)] = some 34 := by decide +kernel
theorem bdHis_init_1 : decode mHis_init.2.2.1 1 = .ok (.invokespecial 3, 3) := by decide +kernel
theorem bdHis_init_7 : decode mHis_init.2.2.1 7 = .ok (.anewarray 9, 3) := by decide +kernel
theorem bdHis_init_10 : decode mHis_init.2.2.1 10 = .ok (.putfield 11, 3) := by decide +kernel
theorem bdHis_init_16 : decode mHis_init.2.2.1 16 = .ok (.anewarray 17, 3) := by decide +kernel
theorem bdHis_init_19 : decode mHis_init.2.2.1 19 = .ok (.putfield 19, 3) := by decide +kernel
theorem bdHis_init_37 : decode mHis_init.2.2.1 37 = .ok (.if_icmp .ge 35, 3) := by decide +kernel
theorem bdHis_init_45 : decode mHis_init.2.2.1 45 = .ok (.new 9, 3) := by decide +kernel
theorem bdHis_init_49 : decode mHis_init.2.2.1 49 = .ok (.invokespecial 30, 3) := by decide +kernel
theorem bdHis_init_52 : decode mHis_init.2.2.1 52 = .ok (.aastore, 1) := by decide +kernel
theorem bdHis_init_58 : decode mHis_init.2.2.1 58 = .ok (.new 17, 3) := by decide +kernel
theorem bdHis_init_62 : decode mHis_init.2.2.1 62 = .ok (.invokespecial 31, 3) := by decide +kernel
theorem bdHis_init_65 : decode mHis_init.2.2.1 65 = .ok (.aastore, 1) := by decide +kernel
theorem bdHis_init_72 : decode mHis_init.2.2.1 72 = .ok (.return_, 1) := by decide +kernel
set_option maxHeartbeats 4000000 in
theorem lHis_init  {h : zHp} (hn : h.2.1 = 37)  (hf : zFA h 36) {Q : Option Value → zHp → Prop} (hq : ∀ rr h', (rr = none ∧ zMd 36 (311) h h') → Q rr h') : zG mHis_init (311) Q 0 [(0, .ref 36)] [] h := by
  have c0 := zCo_0 hn hf (by omega)
  have c0 := zCo_w (q' := fun _ _ => False) c0 (fun _ _ _ _ k => k) (fun c j k => k.2 (zIv_0 (by decide : zSh 36 = (0, 2, 0)) (by decide) (by decide) (by decide)))
  refine zG_run bkHis_init_0 (lv' := [(0, .ref 36)]) (st' := [.ref 36]) (h' := h) (Ps := []) rfl trivial ?_
  refine zs_objinit (a := 36) bdHis_init_1 lo2_3 (And.intro (by decide) (by decide)) (Nat.le_of_ble_eq_true rfl) ?_
  refine zG_run bkHis_init_4 (lv' := [(0, .ref 36)]) (st' := [.int 8, .ref 36]) (h' := h) (Ps := []) rfl trivial ?_
  refine zc_newq (r := 2) (m := 8) (n := 37) c0.1 bdHis_init_7 (by decide +kernel) (by decide) (fun _ => rfl) (by decide : zSh 37 = (2, 2, 8)) rfl (by omega) (by omega) (c0.2.2.2.2.1 37 (Nat.le_refl _) (by omega)) ?_
  refine zG_nmh (h := (h.1, 37 + 1, h.2.2)) (fun g1 e1 => ?_)
  have c1 := zCo_row c0 (fun _ => zIv_1 (by decide : zSh 37 = (2, 2, 8))) (by omega)
  rw [← e1] at c1
  clear e1
  refine zs_putref (c := 2) (j := 0) (a := 36) (b := 37) (ty := .array (.object "StyledRuns$Sheet")) bdHis_init_10 (by decide +kernel) (by decide) (by show _ = _ + 1; omega) (by omega) ⟨by rw [c1.1]; omega, (by decide : zSh 36 = (0, 2, 0))⟩ rfl (by decide) (by decide +kernel) (fun _ => rfl) (fun _ => rfl) ?_
  refine zG_nmh (h := (g1.1, g1.2.1, zini g1.2.2 36 0)) (fun g2 e2 => ?_)
  have c2 := zCo_put (b := 36) (j := 0) c1 (Nat.le_refl _) (by omega)
  rw [← e2] at c2
  clear e2
  refine zG_run bkHis_init_13 (lv' := [(0, .ref 36)]) (st' := [.int 8, .ref 36]) (h' := g2) (Ps := []) rfl trivial ?_
  refine zc_newq (r := 4) (m := 8) (n := 38) c2.1 bdHis_init_16 (by decide +kernel) (by decide) (fun _ => rfl) (by decide : zSh 38 = (2, 4, 8)) rfl (by omega) (by omega) (c2.2.2.2.2.1 38 (Nat.le_refl _) (by omega)) ?_
  refine zG_nmh (h := (g2.1, 38 + 1, g2.2.2)) (fun g3 e3 => ?_)
  have c3 := zCo_row c2 (fun _ => zIv_1 (by decide : zSh 38 = (2, 4, 8))) (by omega)
  rw [← e3] at c3
  clear e3
  refine zs_putref (c := 2) (j := 1) (a := 36) (b := 38) (ty := .array (.object "StyledRuns$Act")) bdHis_init_19 (by decide +kernel) (by decide) (by show _ = _ + 2; omega) (by omega) ⟨by rw [c3.1]; omega, (by decide : zSh 36 = (0, 2, 0))⟩ rfl (by decide) (by decide +kernel) (fun _ => rfl) (fun _ => rfl) ?_
  refine zG_nmh (h := (g3.1, g3.2.1, zini g3.2.2 36 1)) (fun g4 e4 => ?_)
  have c4 := zCo_put (b := 36) (j := 1) c3 (Nat.le_refl _) (by omega)
  rw [← e4] at c4
  clear e4
  refine zG_run bkHis_init_22 (lv' := [(0, .ref 36)]) (st' := []) (h' := (zup g4.1 36 2 0, g4.2)) (Ps := [zOb g4 36 2]) rfl (zA ⟨by rw [c4.1]; omega, (by decide : zSh 36 = (0, 2, 0))⟩ trivial) ?_
  refine zG_nmh (h := (zup g4.1 36 2 0, g4.2)) (fun g5 e5 => ?_)
  have c5 := zCo_int2 (b := 36) (j := 2) (x := 0) c4 (Nat.le_refl _) (by omega) (by rw [zIv, (by decide : zSh 36 = (0, 2, 0))]; rfl) (by omega)
  rw [← e5] at c5
  clear e5
  refine zG_run bkHis_init_27 (lv' := [(0, .ref 36)]) (st' := []) (h' := (zup g5.1 36 3 0, g5.2)) (Ps := [zOb g5 36 2]) rfl (zA ⟨by rw [c5.1]; omega, (by decide : zSh 36 = (0, 2, 0))⟩ trivial) ?_
  refine zG_nmh (h := (zup g5.1 36 3 0, g5.2)) (fun g6 e6 => ?_)
  have c6 := zCo_int2 (b := 36) (j := 3) (x := 0) c5 (Nat.le_refl _) (by omega) (by rw [zIv, (by decide : zSh 36 = (0, 2, 0))]; rfl) (by omega)
  rw [← e6] at c6
  clear e6
  refine zG_run bkHis_init_32 (lv' := [(1, .int 0), (0, .ref 36)]) (st' := []) (h' := g6) (Ps := []) rfl trivial ?_
  refine zG_pick (lv' := [(0, .ref 36), (1, .int 0)]) [1, 0] rfl ?_
  refine zlp2 (fun (k : Int32) (g : zHp) => zG mHis_init (311) Q 34 [(0, .ref 36), (1, .int k)] [] g) (fun (k : Int32) (g : zHp) => 0 ≤ k ∧ k ≤ 8 ∧ zCo 36 (39 + 34 * k.toNatClampNeg) h g (fun c i => (c = 37 ∨ c = 38) ∧ k.toNatClampNeg ≤ i) (fun _ _ => False)) (fun (k : Int32) _ => zmu 8 k) ?_ 0 g6 ?_
  · intro k gk hI ihk
    obtain ⟨k0, k1, ck⟩ := hI
    refine zG_run bkHis_init_34 (lv' := [(0, .ref 36), (1, .int k)]) (st' := [.int 8, .int k]) (h' := gk) (Ps := []) rfl trivial ?_
    refine zb_icge (tgt := 72) bkHis_init_37 bdHis_init_37 (by decide) (lv' := [(0, .ref 36), (1, .int k)]) (st' := []) (h' := gk) (x := k) (y := 8) (Ps := []) rfl trivial (fun ct => ?_) (fun ct => ?_)
    · skip
      have ek : k = 8 := by lia
      have ekk : k.toNatClampNeg = 8 := by rw [ek]; rfl
      rw [ekk] at ck
      have cxk : zCo 36 (311) h gk (fun c i => (c = 37 ∨ c = 38) ∧ 8 ≤ i) (fun _ _ => False) := ck
      refine zb_vret (h' := gk) (Ps := []) bkHis_init_72 bdHis_init_72 rfl rfl trivial cxk.1 ?_
      refine hq _ _ ⟨rfl, zCo_end cxk (fun c j hc hz hp => ?_) (fun _ _ k => k)⟩
      try dsimp only at hp
      by_cases hca : c = 36
      · subst hca
        have hj := zrvc2 (by decide : zSh 36 = (0, 2, 0)) hz
        simp only [List.mem_cons, List.not_mem_nil, or_false] at hj
        clear hz; omega
      by_cases hr37 : c = 37
      · subst hr37
        have hj := zrv_2 (by decide : zSh 37 = (2, 2, 8)) hz
        clear hz; omega
      by_cases hr38 : c = 38
      · subst hr38
        have hj := zrv_2 (by decide : zSh 38 = (2, 4, 8)) hz
        clear hz; omega
      clear hz; omega
    · skip
      have hkk := zcl_lt (n := 8) k0 (by decide) (by show k < 8; lia)
      refine zG_run bkHis_init_40 (lv' := [(0, .ref 36), (1, .int k)]) (st' := [.int k, .ref 37]) (h' := gk) (Ps := [zOb gk 36 2 ∧ gk.2.2 36 0 = true]) rfl (zA ⟨⟨by rw [ck.1]; omega, (by decide : zSh 36 = (0, 2, 0))⟩, ck.2.2.2.2.2 36 0 (Nat.le_refl _) (by omega) (by unfold zrv; rw [(by decide : zSh 36 = (0, 2, 0))]; decide) (by (try dsimp only); omega)⟩ trivial) ?_
      refine zc_new (c := 5) (n := 39 + 34 * k.toNatClampNeg) ck.1 bdHis_init_45 (by decide +kernel) (iSh_h _ hkk).2.1 (by omega) (by omega) (ck.2.2.2.2.1 (39 + 34 * k.toNatClampNeg) (Nat.le_refl _) (by omega)) ?_
      refine zG_run bkHis_init_48 (lv' := [(0, .ref 36), (1, .int k)]) (st' := [.ref (39 + 34 * k.toNatClampNeg), .ref (39 + 34 * k.toNatClampNeg), .int k, .ref 37]) (h' := (gk.1, 39 + 34 * k.toNatClampNeg + 1, gk.2.2)) (Ps := []) rfl trivial ?_
      refine zG_calli (a := 39 + 34 * k.toNatClampNeg) (rest := [.ref (39 + 34 * k.toNatClampNeg), .int k, .ref 37]) (N2 := 39 + 34 * k.toNatClampNeg + 33) bdHis_init_49 okShe_init li2_30 ⟨rfl, rfl⟩ (And.intro (by decide) (by decide)) rfl (Nat.le_of_ble_eq_true rfl) (by decide) (by show 39 + 34 * k.toNatClampNeg + 1 ≤ _; omega) (by omega) (cShe_init rfl (iSh_h _ hkk) (zCo_fa ck)) ?_
      rintro rr g7 ⟨rfl, hm7⟩ -
      have c7 := zCo_call ck hm7 (by omega) (by omega)
      refine zs_aastore (a := 37) (r := 2) (n := 8) (v := 39 + 34 * k.toNatClampNeg) (i := k) bdHis_init_52 (by rw [c7.1]; omega) (by decide : zSh 37 = (2, 2, 8)) (by decide) (fun _ => rfl) (by lia) (by show k < 8; lia) (by show _ = 37 + 2 + 34 * _; omega) ⟨by rw [c7.1]; omega, (iSh_h _ hkk).2.1⟩ ?_
      refine zG_nmh (h := (g7.1, g7.2.1, zini g7.2.2 37 k.toNatClampNeg)) (fun g8 e8 => ?_)
      have c8 := zCo_put (b := 37) (j := k.toNatClampNeg) c7 (by omega) (by omega)
      rw [← e8] at c8
      clear e8
      refine zG_run bkHis_init_53 (lv' := [(0, .ref 36), (1, .int k)]) (st' := [.int k, .ref 38]) (h' := g8) (Ps := [zOb g8 36 2 ∧ g8.2.2 36 1 = true]) rfl (zA ⟨⟨by rw [c8.1]; omega, (by decide : zSh 36 = (0, 2, 0))⟩, c8.2.2.2.2.2 36 1 (Nat.le_refl _) (by omega) (by unfold zrv; rw [(by decide : zSh 36 = (0, 2, 0))]; decide) (by (try dsimp only); omega)⟩ trivial) ?_
      refine zc_new (c := 0) (n := 39 + 34 * k.toNatClampNeg + 33) c8.1 bdHis_init_58 (by decide +kernel) (by rw [show 39 + 34 * k.toNatClampNeg + 33 = 72 + 34 * k.toNatClampNeg by omega]; exact sh_act _ hkk) (by omega) (by omega) (c8.2.2.2.2.1 (39 + 34 * k.toNatClampNeg + 33) (Nat.le_refl _) (by omega)) ?_
      refine zG_run bkHis_init_61 (lv' := [(0, .ref 36), (1, .int k)]) (st' := [.ref (39 + 34 * k.toNatClampNeg + 33), .ref (39 + 34 * k.toNatClampNeg + 33), .int k, .ref 38]) (h' := (g8.1, 39 + 34 * k.toNatClampNeg + 33 + 1, g8.2.2)) (Ps := []) rfl trivial ?_
      refine zG_calliN (a := 39 + 34 * k.toNatClampNeg + 33) (rest := [.ref (39 + 34 * k.toNatClampNeg + 33), .int k, .ref 38]) (N2 := 39 + 34 * k.toNatClampNeg + 34) bdHis_init_62 okAct_init li2_31 ⟨rfl, rfl⟩ (And.intro (by decide) (by decide)) rfl (Nat.le_of_ble_eq_true rfl) (by decide) (by show 39 + 34 * k.toNatClampNeg + 33 + 1 ≤ _; omega) (by omega) (cAct_init rfl (by omega) (by rw [show 39 + 34 * k.toNatClampNeg + 33 = 72 + 34 * k.toNatClampNeg by omega]; exact sh_act _ hkk)  (zCo_fa c8)) ?_
      rintro rr g9 ⟨rfl, hm9⟩ -
      have c9 := zCo_call c8 hm9 (by omega) (by omega)
      refine zs_aastore (a := 38) (r := 4) (n := 8) (v := 39 + 34 * k.toNatClampNeg + 33) (i := k) bdHis_init_65 (by rw [c9.1]; omega) (by decide : zSh 38 = (2, 4, 8)) (by decide) (fun _ => rfl) (by lia) (by show k < 8; lia) (by show _ = 38 + 34 + 34 * _; omega) ⟨by rw [c9.1]; omega, (by rw [show 39 + 34 * k.toNatClampNeg + 33 = 72 + 34 * k.toNatClampNeg by omega]; exact sh_act _ hkk)⟩ ?_
      refine zG_nmh (h := (g9.1, g9.2.1, zini g9.2.2 38 k.toNatClampNeg)) (fun g10 e10 => ?_)
      have c10 := zCo_put (b := 38) (j := k.toNatClampNeg) c9 (by omega) (by omega)
      rw [← e10] at c10
      clear e10
      refine zG_run bkHis_init_66 (lv' := [(1, .int (k + 1)), (0, .ref 36)]) (st' := []) (h' := g10) (Ps := []) rfl trivial ?_
      refine zG_pick (lv' := [(0, .ref 36), (1, .int (k + 1))]) [1, 0] rfl ?_
      have e1 := (zcl k0 (by lia)).1
      refine ihk (k + 1) g10 ⟨by lia, by lia, ?_⟩ (zmu_up (by lia))
      have en : 39 + 34 * (k + 1).toNatClampNeg = 39 + 34 * k.toNatClampNeg + 34 := by rw [e1]; omega
      rw [en]
      refine zCo_w c10 (fun c j hc hz hp => ?_) (fun _ _ k => k)
      try dsimp only at hp
      try dsimp only
      by_cases hca : c = 36
      · subst hca
        have hj := zrvc2 (by decide : zSh 36 = (0, 2, 0)) hz
        simp only [List.mem_cons, List.not_mem_nil, or_false] at hj
        clear hz; omega
      by_cases hr37 : c = 37
      · subst hr37
        have hj := zrv_2 (by decide : zSh 37 = (2, 2, 8)) hz
        clear hz; omega
      by_cases hr38 : c = 38
      · subst hr38
        have hj := zrv_2 (by decide : zSh 38 = (2, 4, 8)) hz
        clear hz; omega
      clear hz; omega
  · have e0 : (0 : Int32).toNatClampNeg = 0 := rfl
    refine ⟨by decide, by decide, ?_⟩
    have en : 39 + 34 * (0 : Int32).toNatClampNeg = 39 := by omega
    rw [en]
    refine zCo_w c6 (fun c j hc hz hp => ?_) (fun _ _ k => k)
    try dsimp only at hp
    try dsimp only
    by_cases hca : c = 36
    · subst hca
      have hj := zrvc2 (by decide : zSh 36 = (0, 2, 0)) hz
      simp only [List.mem_cons, List.not_mem_nil, or_false] at hj
      clear hz; omega
    by_cases hr37 : c = 37
    · subst hr37
      have hj := zrv_2 (by decide : zSh 37 = (2, 2, 8)) hz
      clear hz; omega
    by_cases hr38 : c = 38
    · subst hr38
      have hj := zrv_2 (by decide : zSh 38 = (2, 4, 8)) hz
      clear hz; omega
    clear hz; omega
theorem cHis_init  {h : zHp} (hn : h.2.1 = 37)  (hf : zFA h 36) : zG mHis_init (311) (fun rr h' => rr = none ∧ zMd 36 (311) h h') 0 [(0, .ref 36)] [] h := lHis_init hn hf (fun _ _ q => q)
theorem bkSR_init_0 : zBk mSR_init 0 [(1, 0, 1, 0, 0)] = some 1 := by decide +kernel
theorem bkSR_init_4 : zBk mSR_init 4 [(1, 0, 1, 0, 0)] = some 5 := by decide +kernel
theorem bkSR_init_8 : zBk mSR_init 8 [(18, 0, 0, 0, 0)] = some 9 := by decide +kernel
theorem bkSR_init_15 : zBk mSR_init 15 [(1, 0, 1, 0, 0)] = some 16 := by decide +kernel
theorem bkSR_init_19 : zBk mSR_init 19 [(18, 0, 0, 0, 0)] = some 20 := by decide +kernel
theorem bkSR_init_26 : zBk mSR_init 26 [(1, 0, 1, 0, 0)] = some 27 := by decide +kernel
theorem bkSR_init_30 : zBk mSR_init 30 [(18, 0, 0, 0, 0)] = some 31 := by decide +kernel
theorem bkSR_init_37 : zBk mSR_init 37 [(1, 0, 1, 0, 0), (0, 0, 0, 0, 2)] = some 39 := by decide +kernel
theorem bkSR_init_45 : zBk mSR_init 45 [(1, 0, 1, 0, 0), (0, 0, 0, 0, 2)] = some 47 := by decide +kernel
theorem bkSR_init_52 : zBk mSR_init 52 [(1, 0, 1, 0, 0)] = some 53 := by decide +kernel
theorem bkSR_init_56 : zBk mSR_init 56 [(18, 0, 0, 0, 0)] = some 57 := by decide +kernel
theorem bkSR_init_63 : zBk mSR_init 63 [(1, 0, 1, 0, 0)] = some 64 := by decide +kernel
theorem bkSR_init_67 : zBk mSR_init 67 [(18, 0, 0, 0, 0)] = some 68 := by decide +kernel
theorem bkSR_init_74 : zBk mSR_init 74 [(1, 0, 1, 0, 0)] = some 75 := by decide +kernel
theorem bkSR_init_78 : zBk mSR_init 78 [(18, 0, 0, 0, 0)] = some 79 := by decide +kernel
theorem bkSR_init_85 : zBk mSR_init 85 [(1, 0, 1, 0, 0)] = some 86 := by decide +kernel
theorem bkSR_init_89 : zBk mSR_init 89 [(18, 0, 0, 0, 0)] = some 90 := by decide +kernel
theorem bkSR_init_96 : zBk mSR_init 96 [(1, 0, 1, 0, 0), (0, 0, 0, 0, 7)] = some 99 := by decide +kernel
theorem bkSR_init_104 : zBk mSR_init 104 [(1, 0, 1, 0, 0), (0, 0, 0, 0, 0), (6, 9, 10, 0, 10)] = some 109 := by decide +kernel
theorem bkSR_init_109 : zBk mSR_init 109 [(1, 0, 1, 0, 0), (0, 0, 0, 0, 0), (6, 9, 11, 1, 11)] = some 114 := by decide +kernel
theorem bkSR_init_114 : zBk mSR_init 114 [(0, 0, 0, 0, 0), (2, 1, 0, 0, 0)] = some 116 := by decide +kernel
theorem bkSR_init_116 : zBk mSR_init 116 [(1, 1, 0, 0, 0), (0, 0, 0, 0, 2)] = some 118 := by decide +kernel
theorem bkSR_init_118 : zBk mSR_init 118 [] = some 118 := by decide +kernel
theorem bkSR_init_140 : zBk mSR_init 140 [] = some 140 := by decide +kernel
theorem bkSR_init_121 : zBk mSR_init 121 [(1, 0, 1, 0, 0), (5, 9, 3, 311, 3), (1, 1, 0, 0, 0)] = some 126 := by decide +kernel
theorem bkSR_init_129 : zBk mSR_init 129 [(18, 0, 0, 0, 0)] = some 130 := by decide +kernel
theorem bkSR_init_134 : zBk mSR_init 134 [(3, 1, 0, 0, 1), (22, 116, 0, 0, 0)] = some 116 := by decide +kernel
theorem bdSR_init_1 : decode mSR_init.2.2.1 1 = .ok (.invokespecial 1, 3) := by decide +kernel
theorem bdSR_init_5 : decode mSR_init.2.2.1 5 = .ok (.new 7, 3) := by decide +kernel
theorem bdSR_init_9 : decode mSR_init.2.2.1 9 = .ok (.invokespecial 9, 3) := by decide +kernel
theorem bdSR_init_12 : decode mSR_init.2.2.1 12 = .ok (.putfield 10, 3) := by decide +kernel
theorem bdSR_init_16 : decode mSR_init.2.2.1 16 = .ok (.new 16, 3) := by decide +kernel
theorem bdSR_init_20 : decode mSR_init.2.2.1 20 = .ok (.invokespecial 18, 3) := by decide +kernel
theorem bdSR_init_23 : decode mSR_init.2.2.1 23 = .ok (.putfield 19, 3) := by decide +kernel
theorem bdSR_init_27 : decode mSR_init.2.2.1 27 = .ok (.new 23, 3) := by decide +kernel
theorem bdSR_init_31 : decode mSR_init.2.2.1 31 = .ok (.invokespecial 25, 3) := by decide +kernel
theorem bdSR_init_34 : decode mSR_init.2.2.1 34 = .ok (.putfield 26, 3) := by decide +kernel
theorem bdSR_init_39 : decode mSR_init.2.2.1 39 = .ok (.anewarray 7, 3) := by decide +kernel
theorem bdSR_init_42 : decode mSR_init.2.2.1 42 = .ok (.putfield 30, 3) := by decide +kernel
theorem bdSR_init_47 : decode mSR_init.2.2.1 47 = .ok (.newarray .boolean, 2) := by decide +kernel
theorem bdSR_init_49 : decode mSR_init.2.2.1 49 = .ok (.putfield 34, 3) := by decide +kernel
theorem bdSR_init_53 : decode mSR_init.2.2.1 53 = .ok (.new 38, 3) := by decide +kernel
theorem bdSR_init_57 : decode mSR_init.2.2.1 57 = .ok (.invokespecial 40, 3) := by decide +kernel
theorem bdSR_init_60 : decode mSR_init.2.2.1 60 = .ok (.putfield 41, 3) := by decide +kernel
theorem bdSR_init_64 : decode mSR_init.2.2.1 64 = .ok (.new 38, 3) := by decide +kernel
theorem bdSR_init_68 : decode mSR_init.2.2.1 68 = .ok (.invokespecial 40, 3) := by decide +kernel
theorem bdSR_init_71 : decode mSR_init.2.2.1 71 = .ok (.putfield 45, 3) := by decide +kernel
theorem bdSR_init_75 : decode mSR_init.2.2.1 75 = .ok (.new 48, 3) := by decide +kernel
theorem bdSR_init_79 : decode mSR_init.2.2.1 79 = .ok (.invokespecial 50, 3) := by decide +kernel
theorem bdSR_init_82 : decode mSR_init.2.2.1 82 = .ok (.putfield 51, 3) := by decide +kernel
theorem bdSR_init_86 : decode mSR_init.2.2.1 86 = .ok (.new 55, 3) := by decide +kernel
theorem bdSR_init_90 : decode mSR_init.2.2.1 90 = .ok (.invokespecial 57, 3) := by decide +kernel
theorem bdSR_init_93 : decode mSR_init.2.2.1 93 = .ok (.putfield 58, 3) := by decide +kernel
theorem bdSR_init_99 : decode mSR_init.2.2.1 99 = .ok (.newarray .int, 2) := by decide +kernel
theorem bdSR_init_101 : decode mSR_init.2.2.1 101 = .ok (.putfield 62, 3) := by decide +kernel
theorem bdSR_init_118 : decode mSR_init.2.2.1 118 = .ok (.if_icmp .ge 22, 3) := by decide +kernel
theorem bdSR_init_126 : decode mSR_init.2.2.1 126 = .ok (.new 7, 3) := by decide +kernel
theorem bdSR_init_130 : decode mSR_init.2.2.1 130 = .ok (.invokespecial 9, 3) := by decide +kernel
theorem bdSR_init_133 : decode mSR_init.2.2.1 133 = .ok (.aastore, 1) := by decide +kernel
theorem bdSR_init_140 : decode mSR_init.2.2.1 140 = .ok (.return_, 1) := by decide +kernel
set_option maxHeartbeats 4000000 in
theorem lSR_init  {h : zHp} (hn : h.2.1 = 1)  (hf : zFA h 0) {Q : Option Value → zHp → Prop} (hq : ∀ rr h', (rr = none ∧ zMd 0 (393) h h') → Q rr h') : zG mSR_init (393) Q 0 [(0, .ref 0)] [] h := by
  have c0 := zCo_0 hn hf (by omega)
  have c0 := zCo_w (q' := fun _ _ => False) c0 (fun _ _ _ _ k => k) (fun c j k => k.2 (zIv_0 (by decide : zSh 0 = (0, 9, 0)) (by decide) (by decide) (by decide)))
  refine zG_run bkSR_init_0 (lv' := [(0, .ref 0)]) (st' := [.ref 0]) (h' := h) (Ps := []) rfl trivial ?_
  refine zs_objinit (a := 0) bdSR_init_1 lo9_1 (And.intro (by decide) (by decide)) (Nat.le_of_ble_eq_true rfl) ?_
  refine zG_run bkSR_init_4 (lv' := [(0, .ref 0)]) (st' := [.ref 0]) (h' := h) (Ps := []) rfl trivial ?_
  refine zc_new (c := 5) (n := 1) c0.1 bdSR_init_5 (by decide +kernel) (by decide : zSh 1 = (0, 5, 0)) (by omega) (by omega) (c0.2.2.2.2.1 1 (Nat.le_refl _) (by omega)) ?_
  refine zG_run bkSR_init_8 (lv' := [(0, .ref 0)]) (st' := [.ref 1, .ref 1, .ref 0]) (h' := (h.1, 1 + 1, h.2.2)) (Ps := []) rfl trivial ?_
  refine zG_calli (a := 1) (rest := [.ref 1, .ref 0]) (N2 := 34) bdSR_init_9 okShe_init li9_9 ⟨rfl, rfl⟩ (And.intro (by decide) (by decide)) rfl (Nat.le_of_ble_eq_true rfl) (by decide) (by show 1 + 1 ≤ _; omega) (by omega) (cShe_init rfl iSh_1 (zCo_fa c0)) ?_
  rintro rr g1 ⟨rfl, hm1⟩ -
  have c1 := zCo_call c0 hm1 (by omega) (by omega)
  refine zs_putref (c := 9) (j := 0) (a := 0) (b := 1) (ty := .object "StyledRuns$Sheet") bdSR_init_12 (by decide +kernel) (by decide) (by show _ = _ + 1; omega) (by omega) ⟨by rw [c1.1]; omega, (by decide : zSh 0 = (0, 9, 0))⟩ rfl (by decide) (by decide +kernel) (fun _ => rfl) (fun _ => rfl) ?_
  refine zG_nmh (h := (g1.1, g1.2.1, zini g1.2.2 0 0)) (fun g2 e2 => ?_)
  have c2 := zCo_put (b := 0) (j := 0) c1 (Nat.le_refl _) (by omega)
  rw [← e2] at c2
  clear e2
  refine zG_run bkSR_init_15 (lv' := [(0, .ref 0)]) (st' := [.ref 0]) (h' := g2) (Ps := []) rfl trivial ?_
  refine zc_new (c := 7) (n := 34) c2.1 bdSR_init_16 (by decide +kernel) (by decide : zSh 34 = (0, 7, 0)) (by omega) (by omega) (c2.2.2.2.2.1 34 (Nat.le_refl _) (by omega)) ?_
  refine zG_run bkSR_init_19 (lv' := [(0, .ref 0)]) (st' := [.ref 34, .ref 34, .ref 0]) (h' := (g2.1, 34 + 1, g2.2.2)) (Ps := []) rfl trivial ?_
  refine zG_calliN (a := 34) (rest := [.ref 34, .ref 0]) (N2 := 36) bdSR_init_20 okTap_init li9_18 ⟨rfl, rfl⟩ (And.intro (by decide) (by decide)) rfl (Nat.le_of_ble_eq_true rfl) (by decide) (by show 34 + 1 ≤ _; omega) (by omega) (cTap_init rfl (zCo_fa c2)) ?_
  rintro rr g3 ⟨rfl, hm3⟩ -
  have c3 := zCo_call c2 hm3 (by omega) (by omega)
  refine zs_putref (c := 9) (j := 1) (a := 0) (b := 34) (ty := .object "StyledRuns$Tape") bdSR_init_23 (by decide +kernel) (by decide) (by show _ = _ + 34; omega) (by omega) ⟨by rw [c3.1]; omega, (by decide : zSh 0 = (0, 9, 0))⟩ rfl (by decide) (by decide +kernel) (fun _ => rfl) (fun _ => rfl) ?_
  refine zG_nmh (h := (g3.1, g3.2.1, zini g3.2.2 0 1)) (fun g4 e4 => ?_)
  have c4 := zCo_put (b := 0) (j := 1) c3 (Nat.le_refl _) (by omega)
  rw [← e4] at c4
  clear e4
  refine zG_run bkSR_init_26 (lv' := [(0, .ref 0)]) (st' := [.ref 0]) (h' := g4) (Ps := []) rfl trivial ?_
  refine zc_new (c := 2) (n := 36) c4.1 bdSR_init_27 (by decide +kernel) (by decide : zSh 36 = (0, 2, 0)) (by omega) (by omega) (c4.2.2.2.2.1 36 (Nat.le_refl _) (by omega)) ?_
  refine zG_run bkSR_init_30 (lv' := [(0, .ref 0)]) (st' := [.ref 36, .ref 36, .ref 0]) (h' := (g4.1, 36 + 1, g4.2.2)) (Ps := []) rfl trivial ?_
  refine zG_calli (a := 36) (rest := [.ref 36, .ref 0]) (N2 := 311) bdSR_init_31 okHis_init li9_25 ⟨rfl, rfl⟩ (And.intro (by decide) (by decide)) rfl (Nat.le_of_ble_eq_true rfl) (by decide) (by show 36 + 1 ≤ _; omega) (by omega) (cHis_init rfl (zCo_fa c4)) ?_
  rintro rr g5 ⟨rfl, hm5⟩ -
  have c5 := zCo_call c4 hm5 (by omega) (by omega)
  refine zs_putref (c := 9) (j := 2) (a := 0) (b := 36) (ty := .object "StyledRuns$History") bdSR_init_34 (by decide +kernel) (by decide) (by show _ = _ + 36; omega) (by omega) ⟨by rw [c5.1]; omega, (by decide : zSh 0 = (0, 9, 0))⟩ rfl (by decide) (by decide +kernel) (fun _ => rfl) (fun _ => rfl) ?_
  refine zG_nmh (h := (g5.1, g5.2.1, zini g5.2.2 0 2)) (fun g6 e6 => ?_)
  have c6 := zCo_put (b := 0) (j := 2) c5 (Nat.le_refl _) (by omega)
  rw [← e6] at c6
  clear e6
  refine zG_run bkSR_init_37 (lv' := [(0, .ref 0)]) (st' := [.int 2, .ref 0]) (h' := g6) (Ps := []) rfl trivial ?_
  refine zc_newq (r := 3) (m := 2) (n := 311) c6.1 bdSR_init_39 (by decide +kernel) (by decide) (fun _ => rfl) (by decide : zSh 311 = (2, 3, 2)) rfl (by omega) (by omega) (c6.2.2.2.2.1 311 (Nat.le_refl _) (by omega)) ?_
  refine zG_nmh (h := (g6.1, 311 + 1, g6.2.2)) (fun g7 e7 => ?_)
  have c7 := zCo_row c6 (fun _ => zIv_1 (by decide : zSh 311 = (2, 3, 2))) (by omega)
  rw [← e7] at c7
  clear e7
  refine zs_putref (c := 9) (j := 3) (a := 0) (b := 311) (ty := .array (.object "StyledRuns$Sheet")) bdSR_init_42 (by decide +kernel) (by decide) (by show _ = _ + 311; omega) (by omega) ⟨by rw [c7.1]; omega, (by decide : zSh 0 = (0, 9, 0))⟩ rfl (by decide) (by decide +kernel) (fun _ => rfl) (fun _ => rfl) ?_
  refine zG_nmh (h := (g7.1, g7.2.1, zini g7.2.2 0 3)) (fun g8 e8 => ?_)
  have c8 := zCo_put (b := 0) (j := 3) c7 (Nat.le_refl _) (by omega)
  rw [← e8] at c8
  clear e8
  refine zG_run bkSR_init_45 (lv' := [(0, .ref 0)]) (st' := [.int 2, .ref 0]) (h' := g8) (Ps := []) rfl trivial ?_
  refine zc_newZ (m := 2) (n := 312) c8.1 bdSR_init_47 (by decide : zSh 312 = (1, 2, 2)) rfl (by omega) (by omega) (c8.2.2.2.2.1 312 (Nat.le_refl _) (by omega)) ?_
  refine zG_nmh (h := (g8.1, 312 + 1, g8.2.2)) (fun g9 e9 => ?_)
  have c9 := zCo_arr c8 (fun _ => zrv_1 (by decide : zSh 312 = (1, 2, 2))) (fun _ => zIv_1 (by decide : zSh 312 = (1, 2, 2))) (by omega)
  rw [← e9] at c9
  clear e9
  refine zs_putref (c := 9) (j := 4) (a := 0) (b := 312) (ty := .array .boolean) bdSR_init_49 (by decide +kernel) (by decide) (by show _ = _ + 312; omega) (by omega) ⟨by rw [c9.1]; omega, (by decide : zSh 0 = (0, 9, 0))⟩ rfl (by decide) (by decide +kernel) (fun _ => rfl) (fun _ => rfl) ?_
  refine zG_nmh (h := (g9.1, g9.2.1, zini g9.2.2 0 4)) (fun g10 e10 => ?_)
  have c10 := zCo_put (b := 0) (j := 4) c9 (Nat.le_refl _) (by omega)
  rw [← e10] at c10
  clear e10
  refine zG_run bkSR_init_52 (lv' := [(0, .ref 0)]) (st' := [.ref 0]) (h' := g10) (Ps := []) rfl trivial ?_
  refine zc_new (c := 3) (n := 313) c10.1 bdSR_init_53 (by decide +kernel) (by decide : zSh 313 = (0, 3, 0)) (by omega) (by omega) (c10.2.2.2.2.1 313 (Nat.le_refl _) (by omega)) ?_
  refine zG_run bkSR_init_56 (lv' := [(0, .ref 0)]) (st' := [.ref 313, .ref 313, .ref 0]) (h' := (g10.1, 313 + 1, g10.2.2)) (Ps := []) rfl trivial ?_
  refine zG_calliN (a := 313) (rest := [.ref 313, .ref 0]) (N2 := 315) bdSR_init_57 okLoo_init li9_40 ⟨rfl, rfl⟩ (And.intro (by decide) (by decide)) rfl (Nat.le_of_ble_eq_true rfl) (by decide) (by show 313 + 1 ≤ _; omega) (by omega) (cLoo_init rfl (by omega) (by decide : zSh 313 = (0, 3, 0)) (by decide : zSh 314 = (1, 0, 200)) (zCo_fa c10)) ?_
  rintro rr g11 ⟨rfl, hm11⟩ -
  have c11 := zCo_call c10 hm11 (by omega) (by omega)
  refine zs_putref (c := 9) (j := 5) (a := 0) (b := 313) (ty := .object "StyledRuns$Looks") bdSR_init_60 (by decide +kernel) (by decide) (by show _ = _ + 313; omega) (by omega) ⟨by rw [c11.1]; omega, (by decide : zSh 0 = (0, 9, 0))⟩ rfl (by decide) (by decide +kernel) (fun _ => rfl) (fun _ => rfl) ?_
  refine zG_nmh (h := (g11.1, g11.2.1, zini g11.2.2 0 5)) (fun g12 e12 => ?_)
  have c12 := zCo_put (b := 0) (j := 5) c11 (Nat.le_refl _) (by omega)
  rw [← e12] at c12
  clear e12
  refine zG_run bkSR_init_63 (lv' := [(0, .ref 0)]) (st' := [.ref 0]) (h' := g12) (Ps := []) rfl trivial ?_
  refine zc_new (c := 3) (n := 315) c12.1 bdSR_init_64 (by decide +kernel) (by decide : zSh 315 = (0, 3, 0)) (by omega) (by omega) (c12.2.2.2.2.1 315 (Nat.le_refl _) (by omega)) ?_
  refine zG_run bkSR_init_67 (lv' := [(0, .ref 0)]) (st' := [.ref 315, .ref 315, .ref 0]) (h' := (g12.1, 315 + 1, g12.2.2)) (Ps := []) rfl trivial ?_
  refine zG_calliN (a := 315) (rest := [.ref 315, .ref 0]) (N2 := 317) bdSR_init_68 okLoo_init li9_40 ⟨rfl, rfl⟩ (And.intro (by decide) (by decide)) rfl (Nat.le_of_ble_eq_true rfl) (by decide) (by show 315 + 1 ≤ _; omega) (by omega) (cLoo_init rfl (by omega) (by decide : zSh 315 = (0, 3, 0)) (by decide : zSh 316 = (1, 0, 200)) (zCo_fa c12)) ?_
  rintro rr g13 ⟨rfl, hm13⟩ -
  have c13 := zCo_call c12 hm13 (by omega) (by omega)
  refine zs_putref (c := 9) (j := 6) (a := 0) (b := 315) (ty := .object "StyledRuns$Looks") bdSR_init_71 (by decide +kernel) (by decide) (by show _ = _ + 315; omega) (by omega) ⟨by rw [c13.1]; omega, (by decide : zSh 0 = (0, 9, 0))⟩ rfl (by decide) (by decide +kernel) (fun _ => rfl) (fun _ => rfl) ?_
  refine zG_nmh (h := (g13.1, g13.2.1, zini g13.2.2 0 6)) (fun g14 e14 => ?_)
  have c14 := zCo_put (b := 0) (j := 6) c13 (Nat.le_refl _) (by omega)
  rw [← e14] at c14
  clear e14
  refine zG_run bkSR_init_74 (lv' := [(0, .ref 0)]) (st' := [.ref 0]) (h' := g14) (Ps := []) rfl trivial ?_
  refine zc_new (c := 4) (n := 317) c14.1 bdSR_init_75 (by decide +kernel) (by decide : zSh 317 = (0, 4, 0)) (by omega) (by omega) (c14.2.2.2.2.1 317 (Nat.le_refl _) (by omega)) ?_
  refine zG_run bkSR_init_78 (lv' := [(0, .ref 0)]) (st' := [.ref 317, .ref 317, .ref 0]) (h' := (g14.1, 317 + 1, g14.2.2)) (Ps := []) rfl trivial ?_
  refine zG_calliN (a := 317) (rest := [.ref 317, .ref 0]) (N2 := 322) bdSR_init_79 okRea_init li9_50 ⟨rfl, rfl⟩ (And.intro (by decide) (by decide)) rfl (Nat.le_of_ble_eq_true rfl) (by decide) (by show 317 + 1 ≤ _; omega) (by omega) (cRea_init rfl (zCo_fa c14)) ?_
  rintro rr g15 ⟨rfl, hm15⟩ -
  have c15 := zCo_call c14 hm15 (by omega) (by omega)
  refine zs_putref (c := 9) (j := 7) (a := 0) (b := 317) (ty := .object "StyledRuns$Reader") bdSR_init_82 (by decide +kernel) (by decide) (by show _ = _ + 317; omega) (by omega) ⟨by rw [c15.1]; omega, (by decide : zSh 0 = (0, 9, 0))⟩ rfl (by decide) (by decide +kernel) (fun _ => rfl) (fun _ => rfl) ?_
  refine zG_nmh (h := (g15.1, g15.2.1, zini g15.2.2 0 7)) (fun g16 e16 => ?_)
  have c16 := zCo_put (b := 0) (j := 7) c15 (Nat.le_refl _) (by omega)
  rw [← e16] at c16
  clear e16
  refine zG_run bkSR_init_85 (lv' := [(0, .ref 0)]) (st' := [.ref 0]) (h' := g16) (Ps := []) rfl trivial ?_
  refine zc_new (c := 8) (n := 322) c16.1 bdSR_init_86 (by decide +kernel) (by decide : zSh 322 = (0, 8, 0)) (by omega) (by omega) (c16.2.2.2.2.1 322 (Nat.le_refl _) (by omega)) ?_
  refine zG_run bkSR_init_89 (lv' := [(0, .ref 0)]) (st' := [.ref 322, .ref 322, .ref 0]) (h' := (g16.1, 322 + 1, g16.2.2)) (Ps := []) rfl trivial ?_
  refine zG_calliN (a := 322) (rest := [.ref 322, .ref 0]) (N2 := 326) bdSR_init_90 okWri_init li9_57 ⟨rfl, rfl⟩ (And.intro (by decide) (by decide)) rfl (Nat.le_of_ble_eq_true rfl) (by decide) (by show 322 + 1 ≤ _; omega) (by omega) (cWri_init rfl (zCo_fa c16)) ?_
  rintro rr g17 ⟨rfl, hm17⟩ -
  have c17 := zCo_call c16 hm17 (by omega) (by omega)
  refine zs_putref (c := 9) (j := 8) (a := 0) (b := 322) (ty := .object "StyledRuns$Writer") bdSR_init_93 (by decide +kernel) (by decide) (by show _ = _ + 322; omega) (by omega) ⟨by rw [c17.1]; omega, (by decide : zSh 0 = (0, 9, 0))⟩ rfl (by decide) (by decide +kernel) (fun _ => rfl) (fun _ => rfl) ?_
  refine zG_nmh (h := (g17.1, g17.2.1, zini g17.2.2 0 8)) (fun g18 e18 => ?_)
  have c18 := zCo_put (b := 0) (j := 8) c17 (Nat.le_refl _) (by omega)
  rw [← e18] at c18
  clear e18
  refine zG_run bkSR_init_96 (lv' := [(0, .ref 0)]) (st' := [.int 7, .ref 0]) (h' := g18) (Ps := []) rfl trivial ?_
  refine zc_newI (m := 7) (n := 326) c18.1 bdSR_init_99 (by decide : zSh 326 = (1, 0, 7)) rfl (by omega) (by omega) (c18.2.2.2.2.1 326 (Nat.le_refl _) (by omega)) ?_
  refine zG_nmh (h := (g18.1, 326 + 1, g18.2.2)) (fun g19 e19 => ?_)
  have c19 := zCo_arr c18 (fun _ => zrv_1 (by decide : zSh 326 = (1, 0, 7))) (fun _ => zIv_1 (by decide : zSh 326 = (1, 0, 7))) (by omega)
  rw [← e19] at c19
  clear e19
  refine zs_putref (c := 9) (j := 9) (a := 0) (b := 326) (ty := .array .int) bdSR_init_101 (by decide +kernel) (by decide) (by show _ = _ + 326; omega) (by omega) ⟨by rw [c19.1]; omega, (by decide : zSh 0 = (0, 9, 0))⟩ rfl (by decide) (by decide +kernel) (fun _ => rfl) (fun _ => rfl) ?_
  refine zG_nmh (h := (g19.1, g19.2.1, zini g19.2.2 0 9)) (fun g20 e20 => ?_)
  have c20 := zCo_put (b := 0) (j := 9) c19 (Nat.le_refl _) (by omega)
  rw [← e20] at c20
  clear e20
  refine zG_run bkSR_init_104 (lv' := [(0, .ref 0)]) (st' := []) (h' := (zup g20.1 0 10 0, g20.2)) (Ps := [zOb g20 0 9]) rfl (zA ⟨by rw [c20.1]; omega, (by decide : zSh 0 = (0, 9, 0))⟩ trivial) ?_
  refine zG_nmh (h := (zup g20.1 0 10 0, g20.2)) (fun g21 e21 => ?_)
  have c21 := zCo_int2 (b := 0) (j := 10) (x := 0) c20 (Nat.le_refl _) (by omega) (by rw [zIv, (by decide : zSh 0 = (0, 9, 0))]; rfl) (by omega)
  rw [← e21] at c21
  clear e21
  refine zG_run bkSR_init_109 (lv' := [(0, .ref 0)]) (st' := []) (h' := (zup g21.1 0 11 0, g21.2)) (Ps := [zOb g21 0 9, 0 = 0 ∨ 0 = 1]) rfl (zA ⟨by rw [c21.1]; omega, (by decide : zSh 0 = (0, 9, 0))⟩ (zA (Or.inl rfl) trivial)) ?_
  refine zG_nmh (h := (zup g21.1 0 11 0, g21.2)) (fun g22 e22 => ?_)
  have c22 := zCo_int2 (b := 0) (j := 11) (x := 0) c21 (Nat.le_refl _) (by omega) (by rw [zIv, (by decide : zSh 0 = (0, 9, 0))]; rfl) (by omega)
  rw [← e22] at c22
  clear e22
  refine zG_run bkSR_init_114 (lv' := [(1, .int 0), (0, .ref 0)]) (st' := []) (h' := g22) (Ps := []) rfl trivial ?_
  refine zG_pick (lv' := [(0, .ref 0), (1, .int 0)]) [1, 0] rfl ?_
  refine zlp2 (fun (k : Int32) (g : zHp) => zG mSR_init (393) Q 116 [(0, .ref 0), (1, .int k)] [] g) (fun (k : Int32) (g : zHp) => 0 ≤ k ∧ k ≤ 2 ∧ zCo 0 (327 + 33 * k.toNatClampNeg) h g (fun c i => c = 311 ∧ k.toNatClampNeg ≤ i) (fun _ _ => False)) (fun (k : Int32) _ => zmu 2 k) ?_ 0 g22 ?_
  · intro k gk hI ihk
    obtain ⟨k0, k1, ck⟩ := hI
    refine zG_run bkSR_init_116 (lv' := [(0, .ref 0), (1, .int k)]) (st' := [.int 2, .int k]) (h' := gk) (Ps := []) rfl trivial ?_
    refine zb_icge (tgt := 140) bkSR_init_118 bdSR_init_118 (by decide) (lv' := [(0, .ref 0), (1, .int k)]) (st' := []) (h' := gk) (x := k) (y := 2) (Ps := []) rfl trivial (fun ct => ?_) (fun ct => ?_)
    · skip
      have ek : k = 2 := by lia
      have ekk : k.toNatClampNeg = 2 := by rw [ek]; rfl
      rw [ekk] at ck
      have cxk : zCo 0 (393) h gk (fun c i => c = 311 ∧ 2 ≤ i) (fun _ _ => False) := ck
      refine zb_vret (h' := gk) (Ps := []) bkSR_init_140 bdSR_init_140 rfl rfl trivial cxk.1 ?_
      refine hq _ _ ⟨rfl, zCo_end cxk (fun c j hc hz hp => ?_) (fun _ _ k => k)⟩
      try dsimp only at hp
      by_cases hca : c = 0
      · subst hca
        have hj := zrvc9 (by decide : zSh 0 = (0, 9, 0)) hz
        simp only [List.mem_cons, List.not_mem_nil, or_false] at hj
        clear hz; omega
      by_cases hr311 : c = 311
      · subst hr311
        have hj := zrv_2 (by decide : zSh 311 = (2, 3, 2)) hz
        clear hz; omega
      clear hz; omega
    · skip
      have hkk := zcl_lt (n := 2) k0 (by decide) (by show k < 2; lia)
      refine zG_run bkSR_init_121 (lv' := [(0, .ref 0), (1, .int k)]) (st' := [.int k, .ref 311]) (h' := gk) (Ps := [zOb gk 0 9 ∧ gk.2.2 0 3 = true]) rfl (zA ⟨⟨by rw [ck.1]; omega, (by decide : zSh 0 = (0, 9, 0))⟩, ck.2.2.2.2.2 0 3 (Nat.le_refl _) (by omega) (by unfold zrv; rw [(by decide : zSh 0 = (0, 9, 0))]; decide) (by (try dsimp only); omega)⟩ trivial) ?_
      refine zc_new (c := 5) (n := 327 + 33 * k.toNatClampNeg) ck.1 bdSR_init_126 (by decide +kernel) (iSh_i _ hkk).2.1 (by omega) (by omega) (ck.2.2.2.2.1 (327 + 33 * k.toNatClampNeg) (Nat.le_refl _) (by omega)) ?_
      refine zG_run bkSR_init_129 (lv' := [(0, .ref 0), (1, .int k)]) (st' := [.ref (327 + 33 * k.toNatClampNeg), .ref (327 + 33 * k.toNatClampNeg), .int k, .ref 311]) (h' := (gk.1, 327 + 33 * k.toNatClampNeg + 1, gk.2.2)) (Ps := []) rfl trivial ?_
      refine zG_calli (a := 327 + 33 * k.toNatClampNeg) (rest := [.ref (327 + 33 * k.toNatClampNeg), .int k, .ref 311]) (N2 := 327 + 33 * k.toNatClampNeg + 33) bdSR_init_130 okShe_init li9_9 ⟨rfl, rfl⟩ (And.intro (by decide) (by decide)) rfl (Nat.le_of_ble_eq_true rfl) (by decide) (by show 327 + 33 * k.toNatClampNeg + 1 ≤ _; omega) (by omega) (cShe_init rfl (iSh_i _ hkk) (zCo_fa ck)) ?_
      rintro rr g23 ⟨rfl, hm23⟩ -
      have c23 := zCo_call ck hm23 (by omega) (by omega)
      refine zs_aastore (a := 311) (r := 3) (n := 2) (v := 327 + 33 * k.toNatClampNeg) (i := k) bdSR_init_133 (by rw [c23.1]; omega) (by decide : zSh 311 = (2, 3, 2)) (by decide) (fun _ => rfl) (by lia) (by show k < 2; lia) (by show _ = 311 + 16 + 33 * _; omega) ⟨by rw [c23.1]; omega, (iSh_i _ hkk).2.1⟩ ?_
      refine zG_nmh (h := (g23.1, g23.2.1, zini g23.2.2 311 k.toNatClampNeg)) (fun g24 e24 => ?_)
      have c24 := zCo_put (b := 311) (j := k.toNatClampNeg) c23 (by omega) (by omega)
      rw [← e24] at c24
      clear e24
      refine zG_run bkSR_init_134 (lv' := [(1, .int (k + 1)), (0, .ref 0)]) (st' := []) (h' := g24) (Ps := []) rfl trivial ?_
      refine zG_pick (lv' := [(0, .ref 0), (1, .int (k + 1))]) [1, 0] rfl ?_
      have e1 := (zcl k0 (by lia)).1
      refine ihk (k + 1) g24 ⟨by lia, by lia, ?_⟩ (zmu_up (by lia))
      have en : 327 + 33 * (k + 1).toNatClampNeg = 327 + 33 * k.toNatClampNeg + 33 := by rw [e1]; omega
      rw [en]
      refine zCo_w c24 (fun c j hc hz hp => ?_) (fun _ _ k => k)
      try dsimp only at hp
      try dsimp only
      by_cases hca : c = 0
      · subst hca
        have hj := zrvc9 (by decide : zSh 0 = (0, 9, 0)) hz
        simp only [List.mem_cons, List.not_mem_nil, or_false] at hj
        clear hz; omega
      by_cases hr311 : c = 311
      · subst hr311
        have hj := zrv_2 (by decide : zSh 311 = (2, 3, 2)) hz
        clear hz; omega
      clear hz; omega
  · have e0 : (0 : Int32).toNatClampNeg = 0 := rfl
    refine ⟨by decide, by decide, ?_⟩
    have en : 327 + 33 * (0 : Int32).toNatClampNeg = 327 := by omega
    rw [en]
    refine zCo_w c22 (fun c j hc hz hp => ?_) (fun _ _ k => k)
    try dsimp only at hp
    try dsimp only
    by_cases hca : c = 0
    · subst hca
      have hj := zrvc9 (by decide : zSh 0 = (0, 9, 0)) hz
      simp only [List.mem_cons, List.not_mem_nil, or_false] at hj
      clear hz; omega
    by_cases hr311 : c = 311
    · subst hr311
      have hj := zrv_2 (by decide : zSh 311 = (2, 3, 2)) hz
      clear hz; omega
    clear hz; omega
theorem cSR_init  {h : zHp} (hn : h.2.1 = 1)  (hf : zFA h 0) : zG mSR_init (393) (fun rr h' => rr = none ∧ zMd 0 (393) h h') 0 [(0, .ref 0)] [] h := lSR_init hn hf (fun _ _ q => q)
