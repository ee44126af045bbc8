/-! making: objects, arrays, references stored: printed by wip/whole/gen_make.py -/
theorem zCls_df : ∀ c, c < 11 → ∀ j, j < (zCN c).2.2 → (parseFieldDescriptor ((zCN c).2.1 j).2.2.1).map defaultValue = some (if (zFk c).getD j 0 = 0 then Value.int 0 else .null) := by decide +kernel
theorem zON_CN : ∀ c, c < 11 → zON c = (zCN c).1 := by decide +kernel
def zIS : List (Nat × Nat) := [(176, 7), (86, 4), (166, 6), (210, 8), (226, 9), (25, 2), (34, 3), (148, 5), (258, 10), (17, 1), (849, 11)]
theorem zIS_1 : ∀ c, c < 11 → tables_1[(zIS.getD c (0, 0)).1]? = some (Cond.instantiable (zCN c).1 (zCN c).2.2) := by decide +kernel
theorem zIS_2 : ∀ c, c < 11 → tables_1[(zIS.getD c (0, 0)).2]? = some (Cond.initialized (zCN c).1) := by decide +kernel
theorem zIS_mem (c : Nat) (hc : c < 11) : Cond.instantiable (zCN c).1 (zCN c).2.2 ∈ zTbl ∧ Cond.initialized (zCN c).1 ∈ zTbl :=
  ⟨zTbl_of (List.mem_append_right _ (List.mem_of_getElem? (zIS_1 c hc))) rfl, zTbl_of (List.mem_append_right _ (List.mem_of_getElem? (zIS_2 c hc))) rfl⟩
theorem zNW_mem {oc x c : Nat} (h : zNW.any (fun e => e.1 == oc && (e.2.1 == x && e.2.2.1 == c)) = true) : c < 11 ∧ Cond.classLink (zON oc) x (zON c) ∈ zTbl := by
  obtain ⟨e, he, hq⟩ := List.any_eq_true.mp h
  have h1 := List.all_eq_true.mp zNW_ok e he
  simp only [Bool.and_eq_true, beq_iff_eq, decide_eq_true_eq] at hq h1
  obtain ⟨rfl, rfl, rfl⟩ := hq
  exact ⟨h1.2, zTbl_of (List.mem_append_right _ (List.mem_of_getElem? h1.1)) rfl⟩
theorem zAC_int : Cond.arrayClass .int ∈ zTbl := zTbl_of (List.mem_append_right _ (List.mem_of_getElem? (i := 85) (by decide +kernel))) rfl
theorem zAC_byte : Cond.arrayClass .byte ∈ zTbl := zTbl_of (List.mem_append_right _ (List.mem_of_getElem? (i := 948) (by decide +kernel))) rfl
theorem zAC_boolean : Cond.arrayClass .boolean ∈ zTbl := zTbl_of (List.mem_append_right _ (List.mem_of_getElem? (i := 224) (by decide +kernel))) rfl
theorem zOI_1 : Cond.instanceMethod Lib.objectInit ∈ zTbl := zTbl_of (List.mem_append_right _ (List.mem_of_getElem? (i := 22) (by decide +kernel))) rfl
theorem zOI_2 : Cond.code Lib.objectInit ⟨#[0xb1]⟩ 1 none ∈ zTbl := zTbl_of (List.mem_append_right _ (List.mem_of_getElem? (i := 23) (by decide +kernel))) rfl
theorem li13_9 : Cond.methodLink (zON 13) 9 mSR_init.2.1 ∈ zTbl ∧ Cond.instanceMethod mSR_init.2.1 ∈ zTbl := ⟨zTbl_of (List.mem_append_right _ (List.mem_of_getElem? (i := 18) (by decide +kernel))) rfl, zTbl_of (List.mem_append_right _ (List.mem_of_getElem? (i := 19) (by decide +kernel))) rfl⟩
theorem lo9_1 : Cond.methodLink (zON 9) 1 Lib.objectInit ∈ zTbl := zTbl_of (List.mem_append_right _ (List.mem_of_getElem? (i := 21) (by decide +kernel))) rfl
theorem li9_9 : Cond.methodLink (zON 9) 9 mShe_init.2.1 ∈ zTbl ∧ Cond.instanceMethod mShe_init.2.1 ∈ zTbl := ⟨zTbl_of (List.mem_append_right _ (List.mem_of_getElem? (i := 26) (by decide +kernel))) rfl, zTbl_of (List.mem_append_right _ (List.mem_of_getElem? (i := 27) (by decide +kernel))) rfl⟩
theorem lo5_3 : Cond.methodLink (zON 5) 3 Lib.objectInit ∈ zTbl := zTbl_of (List.mem_append_right _ (List.mem_of_getElem? (i := 29) (by decide +kernel))) rfl
theorem li5_40 : Cond.methodLinkNest (zON 5) 40 mSpa_init.2.1 "StyledRuns" ∈ zNs ∧ Cond.instanceMethod mSpa_init.2.1 ∈ zTbl := ⟨by decide +kernel, zTbl_of (List.mem_append_right _ (List.mem_of_getElem? (i := 36) (by decide +kernel))) rfl⟩
theorem lo6_3 : Cond.methodLink (zON 6) 3 Lib.objectInit ∈ zTbl := zTbl_of (List.mem_append_right _ (List.mem_of_getElem? (i := 38) (by decide +kernel))) rfl
theorem li5_41 : Cond.methodLinkNest (zON 5) 41 mAnc_init.2.1 "StyledRuns" ∈ zNs ∧ Cond.instanceMethod mAnc_init.2.1 ∈ zTbl := ⟨by decide +kernel, zTbl_of (List.mem_append_right _ (List.mem_of_getElem? (i := 88) (by decide +kernel))) rfl⟩
theorem lo1_1 : Cond.methodLink (zON 1) 1 Lib.objectInit ∈ zTbl := zTbl_of (List.mem_append_right _ (List.mem_of_getElem? (i := 90) (by decide +kernel))) rfl
theorem li9_18 : Cond.methodLinkNest (zON 9) 18 mTap_init.2.1 "StyledRuns" ∈ zNs ∧ Cond.instanceMethod mTap_init.2.1 ∈ zTbl := ⟨by decide +kernel, zTbl_of (List.mem_append_right _ (List.mem_of_getElem? (i := 150) (by decide +kernel))) rfl⟩
theorem lo7_3 : Cond.methodLink (zON 7) 3 Lib.objectInit ∈ zTbl := zTbl_of (List.mem_append_right _ (List.mem_of_getElem? (i := 152) (by decide +kernel))) rfl
theorem li9_25 : Cond.methodLink (zON 9) 25 mHis_init.2.1 ∈ zTbl ∧ Cond.instanceMethod mHis_init.2.1 ∈ zTbl := ⟨zTbl_of (List.mem_append_right _ (List.mem_of_getElem? (i := 167) (by decide +kernel))) rfl, zTbl_of (List.mem_append_right _ (List.mem_of_getElem? (i := 168) (by decide +kernel))) rfl⟩
theorem lo2_3 : Cond.methodLink (zON 2) 3 Lib.objectInit ∈ zTbl := zTbl_of (List.mem_append_right _ (List.mem_of_getElem? (i := 170) (by decide +kernel))) rfl
theorem li2_30 : Cond.methodLink (zON 2) 30 mShe_init.2.1 ∈ zTbl ∧ Cond.instanceMethod mShe_init.2.1 ∈ zTbl := ⟨zTbl_of (List.mem_append_right _ (List.mem_of_getElem? (i := 175) (by decide +kernel))) rfl, zTbl_of (List.mem_append_right _ (List.mem_of_getElem? (i := 27) (by decide +kernel))) rfl⟩
theorem li2_31 : Cond.methodLinkNest (zON 2) 31 mAct_init.2.1 "StyledRuns" ∈ zNs ∧ Cond.instanceMethod mAct_init.2.1 ∈ zTbl := ⟨by decide +kernel, zTbl_of (List.mem_append_right _ (List.mem_of_getElem? (i := 178) (by decide +kernel))) rfl⟩
theorem lo0_3 : Cond.methodLink (zON 0) 3 Lib.objectInit ∈ zTbl := zTbl_of (List.mem_append_right _ (List.mem_of_getElem? (i := 180) (by decide +kernel))) rfl
theorem li9_40 : Cond.methodLinkNest (zON 9) 40 mLoo_init.2.1 "StyledRuns" ∈ zNs ∧ Cond.instanceMethod mLoo_init.2.1 ∈ zTbl := ⟨by decide +kernel, zTbl_of (List.mem_append_right _ (List.mem_of_getElem? (i := 212) (by decide +kernel))) rfl⟩
theorem lo3_3 : Cond.methodLink (zON 3) 3 Lib.objectInit ∈ zTbl := zTbl_of (List.mem_append_right _ (List.mem_of_getElem? (i := 214) (by decide +kernel))) rfl
theorem li9_50 : Cond.methodLinkNest (zON 9) 50 mRea_init.2.1 "StyledRuns" ∈ zNs ∧ Cond.instanceMethod mRea_init.2.1 ∈ zTbl := ⟨by decide +kernel, zTbl_of (List.mem_append_right _ (List.mem_of_getElem? (i := 228) (by decide +kernel))) rfl⟩
theorem lo4_3 : Cond.methodLink (zON 4) 3 Lib.objectInit ∈ zTbl := zTbl_of (List.mem_append_right _ (List.mem_of_getElem? (i := 230) (by decide +kernel))) rfl
theorem li9_57 : Cond.methodLinkNest (zON 9) 57 mWri_init.2.1 "StyledRuns" ∈ zNs ∧ Cond.instanceMethod mWri_init.2.1 ∈ zTbl := ⟨by decide +kernel, zTbl_of (List.mem_append_right _ (List.mem_of_getElem? (i := 260) (by decide +kernel))) rfl⟩
theorem lo8_3 : Cond.methodLink (zON 8) 3 Lib.objectInit ∈ zTbl := zTbl_of (List.mem_append_right _ (List.mem_of_getElem? (i := 262) (by decide +kernel))) rfl
theorem li13_12 : Cond.methodLink (zON 13) 12 mMo_init.2.1 ∈ zTbl ∧ Cond.instanceMethod mMo_init.2.1 ∈ zTbl := ⟨zTbl_of (List.mem_append_right _ (List.mem_of_getElem? (i := 850) (by decide +kernel))) rfl, zTbl_of (List.mem_append_right _ (List.mem_of_getElem? (i := 851) (by decide +kernel))) rfl⟩
theorem lo10_1 : Cond.methodLink (zON 10) 1 Lib.objectInit ∈ zTbl := zTbl_of (List.mem_append_right _ (List.mem_of_getElem? (i := 853) (by decide +kernel))) rfl
theorem zWs_push {k : zKT} {h : zHp} : zWs k (h.1, h.2.1 + 1, h.2.2) = zWs k h ++ [(k.1.1 + h.2.1, zE k h h.2.1)] := by
  unfold zWs
  show (List.range (h.2.1 + 1)).map _ = _
  rw [List.range_succ, List.map_append]
  rfl
theorem zPic_new {k : zKT} {h : zHp} {H H1 : Heap} (P : zPic k h H) (hW : va_P k.2.1 zCls (zWs k h ++ [(k.1.1 + h.2.1, zE k h h.2.1)]) H1) (hN : h.2.1 + 1 ≤ 98000) : zPic k (h.1, h.2.1 + 1, h.2.2) H1 :=
  ⟨by rw [zWs_push]; exact hW, hN, P.2.2.1, P.2.2.2⟩
theorem znew_at {k : zKT} {h : zHp} {q : Nat} {e : va_E} {H1 : Heap} (hD : va_D (zB k) (zWs k h ++ [(q, e)])) (hP : va_P k.2.1 zCls (zWs k h ++ [(q, e)]) H1) (hz : H1.size ≤ k.1.1 + h.2.1 + 1) : q = k.1.1 + h.2.1 := by
  have hq : (zWs k h ++ [(q, e)])[h.2.1]? = some (q, e) := by
    rw [List.getElem?_append_right (by rw [zWs_len]; exact Nat.le_refl _), zWs_len, Nat.sub_self]; rfl
  have h1 : k.1.1 ≤ q := hD.2 _ _ hq
  have h2 : q < H1.size := (hP _ _ hq).lt
  rcases Nat.lt_or_ge q (k.1.1 + h.2.1) with g | g
  · exfalso
    have hj : (zWs k h ++ [(q, e)])[q - k.1.1]? = some (k.1.1 + (q - k.1.1), zE k h (q - k.1.1)) := by
      rw [List.getElem?_append_left (by rw [zWs_len]; omega), zWs_get (by omega)]
    have := hD.1 _ _ _ _ hj hq (by show k.1.1 + (q - k.1.1) = q; omega)
    omega
  · omega
def zini (f : Nat → Nat → Bool) (a j : Nat) : Nat → Nat → Bool := fun b i => if b = a ∧ i = j then true else f b i
section
variable {M M2 : zMT} {N N2 n : Nat} {Q Q2 : Option Value → zHp → Prop} {pc : Nat} {lv : zLv} {st : List Value} {h : zHp}
theorem zs_new {x c : Nat} (hd : decode M.2.2.1 pc = .ok (.new x, 3)) (hn : zNW.any (fun e => e.1 == M.1 && (e.2.1 == x && e.2.2.1 == c)) = true) (hs : zSh h.2.1 = (0, c, 0)) (hN : h.2.1 < N) (hN2 : N ≤ 98000) (h0 : (∀ j, h.1 h.2.1 j = 0) ∧ ∀ j, h.2.2 h.2.1 j = false)
    (kk : zG M N Q (pc + 3) lv (.ref h.2.1 :: st) (h.1, h.2.1 + 1, h.2.2)) : zG M N Q pc lv st h := by
  intro k p l e R s m args below meth c0 H ls locs cells slots Qf C P S L Z F
  obtain ⟨hc, hl⟩ := zNW_mem hn
  obtain ⟨z1, z2, z3, z4, z5, z6, z7⟩ := id Z
  have hm := zss_mono (show h.2.1 + 1 ≤ N from hN)
  have hz : zss (h.2.1 + 1) = zss h.2.1 + (zCN c).2.2 := by
    show zss h.2.1 + zsz h.2.1 = _
    unfold zsz; rw [hs, ← zCls_fk c hc]; rfl
  obtain ⟨t0, ht0⟩ := zCls_ty c hc
  refine va_new (D := k.2.1) (ci := c) (C := (zCN c).1) (T := (zCN c).2.1) (N := (zCN c).2.2) (fs := zFs k h h.2.1 c) C.1 C.2.1 C.2.2.2.2.2.1 (zCls_in c hc) t0 ht0 C.2.2.2.2.1 (by rw [← zON_CN c hc]; exact C.2.2.2.2.2.1 _ hl) (C.2.2.2.2.2.1 _ (zIS_mem c hc).1) (C.2.2.2.2.2.1 _ (zIS_mem c hc).2) C.2.2.2.2.2.2.2.2.2.2.1 P.1 zWs_D S (fun q hq => Nat.le_trans z1 hq) (zCls_get c hc) (fun j hj => ?_) (by omega) (by omega) hd (fun q H1 hP1 hD1 hS1 => ?_)
  · have hdf := zCls_df c hc j hj
    rw [ht0 j hj, Option.map_some] at hdf
    rw [Option.some.inj hdf]
    unfold vp_V
    have hg := zFs_get (k := k) (h := h) (a := h.2.1) (c := c) (j := j) (by rw [zCls_fk c hc]; exact hj)
    have hg2 : (zFs k h h.2.1 c).getD j .null = ((zFs k h h.2.1 c)[j]?).getD .null := List.getD_eq_getElem?_getD
    rw [hg2, hg, Option.getD_some]
    by_cases hk : (zFk c).getD j 0 = 0
    · rw [if_pos hk, if_pos hk, h0.1]
    · rw [if_neg hk, if_neg hk, h0.2, if_neg (by decide)]
  · intro T hT X
    have hsz := X.heapSize
    rw [hT] at hsz
    have hq := znew_at hD1 hP1 (by omega)
    subst hq
    have P1 := zPic_new P (by rw [zE_0 hs]; exact hP1) (by omega)
    have hv : zad k h.2.1 = k.1.1 + h.2.1 := zad_lt (by omega)
    have K := kk k p l e R s m args below meth c0 H1 ls locs (cells + 1) (slots + (zCN c).2.2) Qf C P1 hS1 L ⟨z1, hN, z3, by show _ = k.1.1 + (h.2.1 + 1); omega, by show _ = zss (h.2.1 + 1); omega, z6, z7⟩ F
    have ev : (Value.ref h.2.1 :: st).map (zv k) = .ref (k.1.1 + h.2.1) :: st.map (zv k) := by
      show Value.ref (zad k h.2.1) :: _ = _; rw [hv]
    rw [ev] at K
    exact K T hT X
theorem zs_newarr {atype : ArrayType} {ty : FieldType} {t n : Nat} {x : Int32} (hty : newarray.typeOf atype = ty) (hz : ∀ k : zKT, (zTys k)[t]? = some (k.2.2.1 t, ty)) (hdf : defaultValue ty = .int 0) (hcb : componentBytes ty ≤ 8) (hw : Cond.arrayClass ty ∈ zTbl) (hra : ∀ (U : State) (cA : ClassId), va_RA U cA ty → U.vm.findClass ("[" ++ ty.toString) = some cA)
    (hd : decode M.2.2.1 pc = .ok (.newarray atype, 2)) (hs : zSh h.2.1 = (1, t, n)) (hx : x = nI n) (hN : h.2.1 < N) (hN2 : N ≤ 98000) (h0 : ∀ j, h.1 h.2.1 j = 0)
    (kk : zG M N Q (pc + 2) lv (.ref h.2.1 :: st) (h.1, h.2.1 + 1, h.2.2)) : zG M N Q pc lv (.int x :: st) h := by
  intro k p l e R s m args below meth c0 H ls locs cells slots Qf C P S L Z F
  obtain ⟨z1, z2, z3, z4, z5, z6, z7⟩ := id Z
  have hn : n ≤ 10000 := by have := (zSh_small h.2.1).1; rw [hs] at this; exact this
  have hm := zss_mono (show h.2.1 + 1 ≤ N from hN)
  have hzz : zss (h.2.1 + 1) = zss h.2.1 + n := by
    show zss h.2.1 + zsz h.2.1 = _
    unfold zsz; rw [hs]; rfl
  have hK := C.2.2.2.2.2.2.2.2.2.2.1
  subst hx
  have hb8 : n * componentBytes ty ≤ n * 8 := Nat.mul_le_mul_left n hcb
  refine va_newa (D := k.2.1) (ty := ty) (a0 := (n, .inl (fun _ => 0))) C.1 C.2.1 (by rw [hty]; exact C.2.2.2.2.2.1 _ hw) hty hK P.1 zWs_D S (fun q hq => Nat.le_trans z1 hq) (fun cA => by rw [hdf]; rfl) (nI_pos (by omega)) (nI_clamp (by omega)) (by omega) (by omega) (by omega) hd (fun q cA H1 hK1 hP1 hD1 hS1 => ?_)
  intro T hT X
  have hsz := X.heapSize
  rw [hT] at hsz
  have hq := znew_at hD1 hP1 (by omega)
  subst hq
  have hcA : cA = k.2.2.1 t := by
    have e1 := hra _ _ (hK1.2 (zTys k).length (cA, ty) (by rw [List.getElem?_append_right (Nat.le_refl _), Nat.sub_self]; rfl)).2
    have e2 := hra _ _ (hK.2 t _ (hz k)).2
    exact Option.some.inj (e1.symm.trans e2)
  subst hcA
  have hzi : zAi h h.2.1 n = fun _ => 0 := by
    funext j; unfold zAi; rw [h0]; split <;> rfl
  have P1 := zPic_new P (by rw [zE_1 hs, hzi]; exact hP1) (by omega)
  have hv : zad k h.2.1 = k.1.1 + h.2.1 := zad_lt (by omega)
  have K := kk k p l e R s m args below meth c0 H1 ls locs (cells + 1) (slots + n) Qf C P1 hS1 L ⟨z1, hN, z3, by show _ = k.1.1 + (h.2.1 + 1); omega, by show _ = zss (h.2.1 + 1); omega, z6, z7⟩ F
  have ev : (Value.ref h.2.1 :: st).map (zv k) = .ref (k.1.1 + h.2.1) :: st.map (zv k) := by
    show Value.ref (zad k h.2.1) :: _ = _; rw [hv]
  rw [ev] at K
  exact K T hT X
theorem zs_newI {n : Nat} {x : Int32} (hd : decode M.2.2.1 pc = .ok (.newarray .int, 2)) (hs : zSh h.2.1 = (1, 0, n)) (hx : x = nI n) (hN : h.2.1 < N) (hN2 : N ≤ 98000) (h0 : ∀ j, h.1 h.2.1 j = 0)
    (kk : zG M N Q (pc + 2) lv (.ref h.2.1 :: st) (h.1, h.2.1 + 1, h.2.2)) : zG M N Q pc lv (.int x :: st) h := zs_newarr (atype := .int) (ty := .int) (t := 0) rfl (fun _ => rfl) rfl (by decide) zAC_int (fun _ _ q => q) hd hs hx hN hN2 h0 kk
theorem zs_newB {n : Nat} {x : Int32} (hd : decode M.2.2.1 pc = .ok (.newarray .byte, 2)) (hs : zSh h.2.1 = (1, 1, n)) (hx : x = nI n) (hN : h.2.1 < N) (hN2 : N ≤ 98000) (h0 : ∀ j, h.1 h.2.1 j = 0)
    (kk : zG M N Q (pc + 2) lv (.ref h.2.1 :: st) (h.1, h.2.1 + 1, h.2.2)) : zG M N Q pc lv (.int x :: st) h := zs_newarr (atype := .byte) (ty := .byte) (t := 1) rfl (fun _ => rfl) rfl (by decide) zAC_byte (fun _ _ q => q) hd hs hx hN hN2 h0 kk
theorem zs_newZ {n : Nat} {x : Int32} (hd : decode M.2.2.1 pc = .ok (.newarray .boolean, 2)) (hs : zSh h.2.1 = (1, 2, n)) (hx : x = nI n) (hN : h.2.1 < N) (hN2 : N ≤ 98000) (h0 : ∀ j, h.1 h.2.1 j = 0)
    (kk : zG M N Q (pc + 2) lv (.ref h.2.1 :: st) (h.1, h.2.1 + 1, h.2.2)) : zG M N Q pc lv (.int x :: st) h := zs_newarr (atype := .boolean) (ty := .boolean) (t := 2) rfl (fun _ => rfl) rfl (by decide) zAC_boolean (fun _ _ q => q) hd hs hx hN hN2 h0 kk
/-- a row of references -/
theorem zs_newq {x r n : Nat} {y : Int32} (hd : decode M.2.2.1 pc = .ok (.anewarray x, 3)) (hn : zNW.any (fun e => e.1 == M.1 && (e.2.1 == x && e.2.2.1 == zRk r)) = true) (hao : zON (zRk r) ∈ zAO) (hz : ∀ k : zKT, (zTys k)[zRc r]? = some (k.2.2.1 (zRc r), .object (zON (zRk r)))) (hs : zSh h.2.1 = (2, r, n)) (hy : y = nI n) (hN : h.2.1 < N) (hN2 : N ≤ 98000) (h0 : ∀ j, h.2.2 h.2.1 j = false)
    (kk : zG M N Q (pc + 3) lv (.ref h.2.1 :: st) (h.1, h.2.1 + 1, h.2.2)) : zG M N Q pc lv (.int y :: st) h := by
  intro k p l e R s m args below meth c0 H ls locs cells slots Qf C P S L Z F
  obtain ⟨hc, hl⟩ := zNW_mem hn
  obtain ⟨z1, z2, z3, z4, z5, z6, z7⟩ := id Z
  have hn : n ≤ 10000 := by have := (zSh_small h.2.1).1; rw [hs] at this; exact this
  have hm := zss_mono (show h.2.1 + 1 ≤ N from hN)
  have hzz : zss (h.2.1 + 1) = zss h.2.1 + n := by
    show zss h.2.1 + zsz h.2.1 = _
    unfold zsz; rw [hs]; rfl
  have hK := C.2.2.2.2.2.2.2.2.2.2.1
  have hAO := C.2.2.2.2.2.2.2.2.2.2.2.2.2.2.2.2.2.2 _ hao
  subst hy
  refine va_newq (D := k.2.1) C.1 C.2.1 C.2.2.2.2.1 (C.2.2.2.2.2.1 _ hl) hAO hK P.1 zWs_D S (fun q hq => Nat.le_trans z1 hq) (nI_pos (by omega)) (nI_clamp (by omega)) (by omega) (by omega) (by omega) hd (fun q cA H1 hK1 hP1 hD1 hS1 => ?_)
  intro T hT X
  have hsz := X.heapSize
  rw [hT] at hsz
  have hq := znew_at hD1 hP1 (by omega)
  subst hq
  have hcA : cA = k.2.2.1 (zRc r) := by
    obtain ⟨_, _, -, -, -, e1⟩ := (hK1.2 (zTys k).length (cA, .object (zON (zRk r))) (by rw [List.getElem?_append_right (Nat.le_refl _), Nat.sub_self]; rfl)).2
    obtain ⟨_, _, -, -, -, e2⟩ := (hK.2 _ _ (hz k)).2
    exact Option.some.inj (e1.symm.trans e2)
  subst hcA
  have hzi : zAr k h h.2.1 r n = fun _ => none := by
    funext j; unfold zAr; rw [h0, if_neg (by simp)]
  have P1 := zPic_new P (by rw [zE_2 hs, hzi]; exact hP1) (by omega)
  have hv : zad k h.2.1 = k.1.1 + h.2.1 := zad_lt (by omega)
  have K := kk k p l e R s m args below meth c0 H1 ls locs (cells + 1) (slots + n) Qf C P1 hS1 L ⟨z1, hN, z3, by show _ = k.1.1 + (h.2.1 + 1); omega, by show _ = zss (h.2.1 + 1); omega, z6, z7⟩ F
  have ev : (Value.ref h.2.1 :: st).map (zv k) = .ref (k.1.1 + h.2.1) :: st.map (zv k) := by
    show Value.ref (zad k h.2.1) :: _ = _; rw [hv]
  rw [ev] at K
  exact K T hT X
theorem zFs_ini {k : zKT} {h : zHp} {a c j : Nat} (hj : j < (zFk c).length) (h0 : ¬ (zFk c).getD j 0 = 0) : (zFs k h a c).set j (.ref (k.1.1 + (a + (zFk c).getD j 0))) = zFs k (h.1, h.2.1, zini h.2.2 a j) a c := by
  apply List.ext_getElem?
  intro i
  by_cases hi : i < (zFk c).length
  · by_cases hij : i = j
    · subst hij
      rw [List.getElem?_set_self (by rw [zFs_len]; exact hi), zFs_get hi, if_neg h0]
      simp [zini]
    · rw [List.getElem?_set_ne (fun q => hij q.symm), zFs_get hi, zFs_get hi]
      simp [zini, hij]
  · rw [List.getElem?_eq_none (by rw [List.length_set, zFs_len]; omega), List.getElem?_eq_none (by rw [zFs_len]; omega)]
theorem zPic_ini {k : zKT} {h : zHp} {H H1 : Heap} {a j : Nat} {e : va_E} (hP : zPic k h H) (ha : a < h.2.1) (he : e = zE k (h.1, h.2.1, zini h.2.2 a j) a) (hW : va_P k.2.1 zCls ((zWs k h).set a (k.1.1 + a, e)) H1) : zPic k (h.1, h.2.1, zini h.2.2 a j) H1 := by
  obtain ⟨h2, h3, h4, h5⟩ := hP
  refine ⟨?_, h3, h4, h5⟩
  rw [zWs_set (h' := (h.1, h.2.1, zini h.2.2 a j)) ha rfl he (fun b hb => zE_ne rfl (by funext i; simp [zini, hb]))] at hW
  exact hW
theorem zs_putref {x c j : Nat} {a b : Nat} {ty : FieldType} (hd : decode M.2.2.1 pc = .ok (.putfield x, 3)) (hf : zFL.any (fun e => e.1 == M.1 && (e.2.1 == x && (e.2.2.1 == c && e.2.2.2.1 == j))) = true) (h0 : ¬ (zFk c).getD j 0 = 0) (hb : b = a + (zFk c).getD j 0) (hb2 : b < 100000) (ho : zOb h a c) (hin : M.2.1.name = "<init>") (hdc : ((zCN c).2.1 j).1 = zON M.1)
    (hty : parseFieldDescriptor ((zCN c).2.1 j).2.2.1 = some ty) (hn : ∀ q, narrow ty (.ref q) = .ref q) (hfit : ∀ q, fits ty (.ref q) = true) (kk : zG M N Q (pc + 3) lv st (h.1, h.2.1, zini h.2.2 a j)) : zG M N Q pc lv (.ref b :: .ref a :: st) h := by
  intro k p l e R s m args below meth c0 H ls locs cells slots Qf C P S L Z F
  obtain ⟨hc, hj, hl⟩ := zFL_mem hf
  have hj2 : j < (zFk c).length := by rw [zCls_fk c hc]; exact hj
  have ha := zad_lt (k := k) (a := a) (zlt ho.1 P.2.1)
  have hbb := zad_lt (k := k) (a := b) hb2
  show W p l e R s m args below meth c0 H locs cells slots Qf (F0 m pc ls (.ref (zad k b) :: .ref (zad k a) :: st.map (zv k)))
  rw [ha, hbb]
  obtain ⟨t0, ht0⟩ := zCls_ty c hc
  have hfin : ((zCN c).2.1 j).2.2.2 = true := (zCls_fin c hc j hj).mpr h0
  refine va_putF (D := k.2.1) (ci := c) (C := (zCN c).1) (T := (zCN c).2.1) (N := (zCN c).2.2) (v := .ref (k.1.1 + b)) (ty := ty) C.1 C.2.1 C.2.2.2.2.2.1 (zCls_in c hc) t0 ht0 (zCls_nm c hc) C.2.2.2.2.1 C.2.2.2.2.2.2.2.2.2.2.1 P.1 zWs_D S a (by rw [zWs_get ho.1, zE_0 ho.2]) (zCls_get c hc) j hj (C.2.2.2.2.2.1 _ hl) (fun _ h9 => h9) hfin (C.2.2.2.2.2.2.2.1.trans hin) hdc hty (hn _) (hfit _) (by rw [zFs_len]; exact hj2) hd (fun H1 locs1 hP1 _ hS1 => ?_)
  have P1 : zPic k (h.1, h.2.1, zini h.2.2 a j) H1 := zPic_ini P ho.1 (by rw [zE_0 ho.2, hb, zFs_ini hj2 h0]) hP1
  exact kk k p l e R s m args below meth c0 H1 ls locs1 cells slots Qf C P1 hS1 L Z F
theorem zs_aastore {a r n v : Nat} {i : Int32} (hd : decode M.2.2.1 pc = .ok (.aastore, 1)) (ha : a < h.2.1) (hs : zSh a = (2, r, n)) (hr : zRk r < 11) (hz : ∀ k : zKT, (zTys k)[zRc r]? = some (k.2.2.1 (zRc r), .object (zCN (zRk r)).1)) (hi0 : 0 ≤ i) (hi1 : i < nI n) (hv : v = a + zRo r + zRs r * i.toNatClampNeg) (hvo : zOb h v (zRk r))
    (kk : zG M N Q (pc + 1) lv st (h.1, h.2.1, zini h.2.2 a i.toNatClampNeg)) : zG M N Q pc lv (.ref v :: .int i :: .ref a :: st) h := by
  intro k p l e R s m args below meth c0 H ls locs cells slots Qf C P S L Z F
  have hn : n ≤ 10000 := by have := (zSh_small a).1; rw [hs] at this; exact this
  have ea := zad_lt (k := k) (a := a) (zlt ha P.2.1)
  have ev := zad_lt (k := k) (a := v) (zlt hvo.1 P.2.1)
  have hin : vp_in i n := zvp_in (by omega) hi0 hi1
  have hlt : i.toNatClampNeg < n := Nat.not_le.mp fun q => hin (Or.inr q)
  show W p l e R s m args below meth c0 H locs cells slots Qf (F0 m pc ls (.ref (zad k v) :: .int i :: .ref (zad k a) :: st.map (zv k)))
  rw [ea, ev]
  refine va_astq (D := k.2.1) C.1 C.2.1 C.2.2.2.2.2.2.2.2.2.2.1 P.1 zWs_D S a (zRc r) v (zRk r) (r := zCN (zRk r)) (by rw [zWs_get ha, zE_2 hs]) (hz k) (by rw [zWs_get hvo.1, zE_0 hvo.2]) (zCls_get _ hr) hin hd (fun H1 locs1 hP1 _ hS1 => ?_)
  have P1 : zPic k (h.1, h.2.1, zini h.2.2 a i.toNatClampNeg) H1 := by
    refine zPic_ini P ha ?_ hP1
    rw [zE_2 hs]
    congr 6
    refine congrArg Sum.inr ?_
    funext j
    unfold va_up zAr zini
    by_cases hj : j = i.toNatClampNeg
    · subst hj; simp [hlt, hv]
    · simp [hj]
  exact kk k p l e R s m args below meth c0 H1 ls locs1 cells slots Qf C P1 hS1 L Z F
theorem zs_objinit {x a : Nat} (hd : decode M.2.2.1 pc = .ok (.invokespecial x, 3)) (hl : Cond.methodLink (zON M.1) x Lib.objectInit ∈ zTbl) (hR : 1 ≤ M.2.2.2.2.2.1 ∧ 20 ≤ M.2.2.2.2.2.2) (hrest : (st.map fun v => v.category).sum ≤ 8) (kk : zG M N Q (pc + 3) lv st h) : zG M N Q pc lv (.ref a :: st) h := by
  intro k p l e R s m args below meth c H ls locs cells slots Qf C P S L Z F
  refine W.objInit (a := zad k a) (rest := st.map (zv k)) C.1 C.2.1 C.2.2.2.2.1 (C.2.2.2.2.2.1 _ hl) (C.2.2.2.2.2.1 _ zOI_1) (C.2.2.2.2.2.1 _ zOI_2) rfl (L.1.trans C.2.2.2.1.symm) rfl hd (Nat.le_trans hR.1 C.2.2.2.2.2.2.2.2.1) ?_ (kk k p l e R s m args below meth c H ls locs cells slots Qf C P S L Z F)
  rw [zcat]
  have := Nat.le_trans hR.2 C.2.2.2.2.2.2.2.2.2.1
  show 2 * 0 + _ + 12 ≤ _
  omega
theorem zG_calli {x a : Nat} {rest : List Value} (hd : decode M.2.2.1 pc = .ok (.invokespecial x, 3)) (hM : zOk M2 0) (hl : Cond.methodLink (zON M.1) x M2.2.1 ∈ zTbl ∧ Cond.instanceMethod M2.2.1 ∈ zTbl) (hin : M2.2.1.name = "<init>" ∧ M2.2.2.2.2.1 = none) (hR : zRo1 M M2) (hst : st = .ref a :: rest) (hrest : (rest.map fun v => v.category).sum ≤ 8) (hvs : 1 ≤ M2.2.2.2.1) (hN : h.2.1 ≤ N2) (hN2 : N2 ≤ N)
    (body : zG M2 N2 Q2 0 [(0, .ref a)] [] h) (kk : ∀ (r : Option Value) (h' : zHp), Q2 r h' → h'.2.1 = N2 → zG M N Q (pc + 3) lv (r.toList ++ rest) h') : zG M N Q pc lv st h := by
  intro k p l e R s m args below meth c0 H ls locs cells slots Qf C P S L Z F T hT X
  have hB := Z.1
  have hsz : H.size = k.1.1 + h.2.1 := Nat.le_antisymm (by rw [← hT, ← Z.2.2.2.1]; exact X.heapSize) (zPic_size P hB S)
  have hmn := zss_mono hN
  have hmn2 := zss_mono hN2
  obtain ⟨z1, z2, z3, z4, z5, z6, z7⟩ := id Z
  refine zW_call (rest := rest) (N2 := N2) (Q2 := Q2) (av := (Value.ref (zad k a) :: []).toArray) C P S L Z hN hN2 F ?_ kk T hT X
  refine va_runI (bytes := M2.2.2.1) (maxL := M2.2.2.2.1) (n := 0) (As := []) (b := zad k a) (nL := M.2.2.2.1) ⟨C.1, C.2.1, C.2.2.2.1, C.2.2.2.2.1, C.2.2.2.2.2.1⟩ (zMet (vs := [.ref a]) l k hM hvs hN (Nat.le_trans hN2 z3) body)
    ⟨by have q := callB_of (rm := zrm M2 N2 h) 0 C.2.2.2.2.2.1 (zws_good hM) rfl rfl rfl (C.2.2.2.2.2.1 _ hM.2.2.2.1) (C.2.2.2.2.2.1 _ hl.1) hM.2.2.2.2 ⟨Nat.le_trans hR.1 C.2.2.2.2.2.2.2.2.1, Nat.le_trans hR.2 C.2.2.2.2.2.2.2.2.2.1⟩; rw [hin.2] at q; exact q, hin.1, C.2.2.2.2.2.1 _ hl.2⟩
    ⟨zPc_blind, fun U hU hW => ⟨rfl, zSt_move C.2.2.2.2.2.2.2.2.2.2 hW (by rw [hU]; exact S), by rw [hU]; exact P, by rw [hU]; exact hsz⟩⟩
    rfl rfl L.1 ?_ (lv_room (by rw [zcat]; exact hrest)) hd ⟨by omega, by omega⟩
  show st.map (zv k) = _
  rw [hst]; rfl
theorem zG_calliN {x a : Nat} {rest : List Value} {host : String} (hd : decode M.2.2.1 pc = .ok (.invokespecial x, 3)) (hM : zOk M2 0) (hl : Cond.methodLinkNest (zON M.1) x M2.2.1 host ∈ zNs ∧ Cond.instanceMethod M2.2.1 ∈ zTbl) (hin : M2.2.1.name = "<init>" ∧ M2.2.2.2.2.1 = none) (hR : zRo1 M M2) (hst : st = .ref a :: rest) (hrest : (rest.map fun v => v.category).sum ≤ 8) (hvs : 1 ≤ M2.2.2.2.1) (hN : h.2.1 ≤ N2) (hN2 : N2 ≤ N)
    (body : zG M2 N2 Q2 0 [(0, .ref a)] [] h) (kk : ∀ (r : Option Value) (h' : zHp), Q2 r h' → h'.2.1 = N2 → zG M N Q (pc + 3) lv (r.toList ++ rest) h') : zG M N Q pc lv st h := by
  intro k p l e R s m args below meth c0 H ls locs cells slots Qf C P S L Z F T hT X
  have hB := Z.1
  have hsz : H.size = k.1.1 + h.2.1 := Nat.le_antisymm (by rw [← hT, ← Z.2.2.2.1]; exact X.heapSize) (zPic_size P hB S)
  have hmn := zss_mono hN
  have hmn2 := zss_mono hN2
  obtain ⟨z1, z2, z3, z4, z5, z6, z7⟩ := id Z
  refine zW_call (rest := rest) (N2 := N2) (Q2 := Q2) (av := (Value.ref (zad k a) :: []).toArray) C P S L Z hN hN2 F ?_ kk T hT X
  refine va_runIN (host := host) (bytes := M2.2.2.1) (maxL := M2.2.2.2.1) (n := 0) (As := []) (b := zad k a) (nL := M.2.2.2.1) ⟨C.1, C.2.1, C.2.2.2.1, C.2.2.2.2.1, C.2.2.2.2.2.1⟩ (zMet (vs := [.ref a]) l k hM hvs hN (Nat.le_trans hN2 z3) body)
    ⟨by have q := va_cnB (rm := zrm M2 N2 h) 0 C.2.2.2.2.2.1 (zws_good hM) rfl rfl rfl (C.2.2.2.2.2.2.2.2.2.2.2.2.2.2.2.2.2.1 _ hl.1) (C.2.2.2.2.2.1 _ hM.2.2.2.1) hM.2.2.2.2 ⟨Nat.le_trans hR.1 C.2.2.2.2.2.2.2.2.1, Nat.le_trans hR.2 C.2.2.2.2.2.2.2.2.2.1⟩; rw [hin.2] at q; exact q, hin.1, C.2.2.2.2.2.1 _ hl.2⟩
    ⟨zPc_blind, fun U hU hW => ⟨rfl, zSt_move C.2.2.2.2.2.2.2.2.2.2 hW (by rw [hU]; exact S), by rw [hU]; exact P, by rw [hU]; exact hsz⟩⟩
    rfl rfl L.1 ?_ (lv_room (by rw [zcat]; exact hrest)) hd ⟨by omega, by omega⟩
  show st.map (zv k) = _
  rw [hst]; rfl
/-- which slots hold references -/
def zrv (a j : Nat) : Bool := if (zSh a).1 = 0 then decide (j < (zFk (zSh a).2.1).length ∧ ¬ (zFk (zSh a).2.1).getD j 0 = 0) else decide (¬ (zSh a).1 = 1 ∧ j < (zSh a).2.2)
theorem zE_all {k : zKT} {sg : zSig} {n1 n2 : Nat} {f : Nat → Nat → Bool} {a : Nat} (hf : ∀ j, zrv a j = true → f a j = true) : zE k (sg, n1, f) a = zE k (sg, n2, fun _ _ => true) a := by
  unfold zE
  by_cases h0 : (zSh a).1 = 0
  · rw [if_pos h0, if_pos h0]
    congr 2
    unfold zFs
    apply List.map_congr_left
    intro j hj
    have hj := List.mem_range.mp hj
    by_cases hk : (zFk (zSh a).2.1).getD j 0 = 0
    · rw [if_pos hk, if_pos hk]
    · rw [if_neg hk, if_neg hk]
      have := hf j (by unfold zrv; rw [if_pos h0]; exact decide_eq_true ⟨hj, hk⟩)
      simp [this]
  · rw [if_neg h0, if_neg h0]
    by_cases h1 : (zSh a).1 = 1
    · rw [if_pos h1, if_pos h1]; rfl
    · rw [if_neg h1, if_neg h1]
      congr 6
      unfold zAr
      refine congrArg Sum.inr ?_
      funext j
      by_cases hj : j < (zSh a).2.2
      · have := hf j (by unfold zrv; rw [if_neg h0]; exact decide_eq_true ⟨h1, hj⟩)
        simp [this, hj]
      · simp [hj]
end
