/-! the law's start: what the Statement gives, as the judgement wants it -/
theorem tb_mem {w : Cond} {i : Nat} (h : tables_1[i]? = some w) : w ∈ lw_tbl := List.mem_append_right _ (List.mem_of_getElem? h)
theorem zNs_in : ∀ w ∈ zNs, w ∈ lw_tbl := by
  intro w hw
  simp only [zNs, List.mem_cons, List.not_mem_nil, or_false] at hw
  rcases hw with rfl | rfl | rfl | rfl | rfl | rfl | rfl | rfl | rfl | rfl
  · exact tb_mem (i := 35) (by decide +kernel)
  · exact tb_mem (i := 87) (by decide +kernel)
  · exact tb_mem (i := 149) (by decide +kernel)
  · exact tb_mem (i := 177) (by decide +kernel)
  · exact tb_mem (i := 211) (by decide +kernel)
  · exact tb_mem (i := 227) (by decide +kernel)
  · exact tb_mem (i := 259) (by decide +kernel)
  · exact tb_mem (i := 263) (by decide +kernel)
  · exact tb_mem (i := 574) (by decide +kernel)
  · exact tb_mem (i := 575) (by decide +kernel)
theorem zNs_on : ∀ w ∈ zNs, w.onTables = true := by
  intro w hw
  simp only [zNs, List.mem_cons, List.not_mem_nil, or_false] at hw
  rcases hw with rfl | rfl | rfl | rfl | rfl | rfl | rfl | rfl | rfl | rfl <;> rfl
theorem zAO_in : ∀ C ∈ zAO, Cond.arrayOver (.object C) ∈ lw_tbl := by
  intro C hC
  simp only [zAO, List.mem_cons, List.not_mem_nil, or_false] at hC
  rcases hC with rfl | rfl | rfl | rfl
  · exact tb_mem (i := 31) (by decide +kernel)
  · exact tb_mem (i := 33) (by decide +kernel)
  · exact tb_mem (i := 172) (by decide +kernel)
  · exact tb_mem (i := 174) (by decide +kernel)
/-- the signs; what signs and script hold -/
def zSg (j : Int32) : Int32 := if j = 0 then 98 else if j = 1 then 105 else if j = 2 then 117 else if j = 3 then 115 else if j = 4 then 99 else 122
def zS0 (L : Nat) (xs : Nat → Int32) : zSig := fun c j => if c = 100000 then zSg j else if c = 100001 then (if j = -1 then nI L else xs j.toNatClampNeg) else 0
theorem zS0_m {L : Nat} {xs : Nat → Int32} (j : Int32) : zS0 L xs 100000 j = zSg j := if_pos rfl
theorem zS0_l {L : Nat} {xs : Nat → Int32} : zS0 L xs 100001 (-1) = nI L := by
  unfold zS0
  rw [if_neg (by decide), if_pos rfl, if_pos rfl]
theorem zS0_x {L : Nat} {xs : Nat → Int32} {j : Nat} (hj : j < 2 ^ 31) : zS0 L xs 100001 (nI j) = xs j := by
  have h0 := nI_pos' hj
  unfold zS0
  rw [if_neg (by decide), if_pos rfl, if_neg (fun q : nI j = -1 => by rw [q] at h0; exact absurd h0 (by decide)), nI_clamp hj]
theorem zS0_z {L : Nat} {xs : Nat → Int32} {c : Nat} (h : c < 100000) (j : Int32) : zS0 L xs c j = 0 := by
  unfold zS0
  rw [if_neg (by omega), if_neg (by omega)]
theorem okM_0 {L : Nat} {xs : Nat → Int32} : okM (zS0 L xs) := by
  unfold okM
  simp only [zS0_m]
  decide
section
variable {s : State} {args : Array Value}
theorem zK_cls (hts : ∀ w ∈ zTbl, w.before args s = true) : ∃ D : va_G, ∀ (c : Nat) (q : vw_C), zCls[c]? = some q → u_Kn s q.1 q.2.1 q.2.2 (D.1 c) (D.2 c) := by
  obtain ⟨c0, i0, -⟩ := u_known hts (zCls_in 0 (by decide)) (hts _ (zIS_mem 0 (by decide)).1)
  have h : ∀ c : Nat, ∃ d : ClassId × (Nat → Nat), c < 11 → u_Kn s (zCN c).1 (zCN c).2.1 (zCN c).2.2 d.1 d.2 := by
    intro c
    by_cases hc : c < 11
    · obtain ⟨cC, iS, h⟩ := u_known hts (zCls_in c hc) (hts _ (zIS_mem c hc).1)
      exact ⟨(cC, iS), fun _ => h⟩
    · exact ⟨(c0, i0), fun q => absurd q hc⟩
  refine ⟨(fun c => (Classical.choose (h c)).1, fun c => (Classical.choose (h c)).2), fun c q hq => ?_⟩
  have hc : c < 11 := (List.getElem?_eq_some_iff.mp hq).1
  rw [zCls_get c hc] at hq
  cases hq
  exact Classical.choose_spec (h c) hc
theorem zK_one {ty : FieldType} (h : (Cond.arrayClass ty).before args s = true) : ∃ cA : ClassId, ArrOfT s cA ty ∧ s.vm.findClass ("[" ++ ty.toString) = some cA := by
  obtain ⟨c, k, comp, h1, h2, h3⟩ := Cond.arrayClass_spec h
  exact ⟨c, fun n z => ⟨fun k h => (by cases h), k, h2, comp, h3⟩, h1⟩
theorem zK_ref {C : String} (h : (Cond.arrayOver (.object C)).before args s = true) : ∃ cA : ClassId, ArrOfT s cA (.object C) ∧ va_RA s cA (.object C) := by
  obtain ⟨comp, c, k, h1, h2, h3, h4, h5⟩ := Cond.arrayOver_spec h
  exact ⟨c, fun N z => ⟨fun k h => (by cases h), k, h3, comp, h4⟩, k, comp, h3, h4, h1, h5⟩
theorem zK_arr (hts : ∀ w ∈ lw_tbl, w.before args s = true) : ∃ A : Nat → ClassId, ∀ k : zKT, k.2.2.1 = A → ∀ (i : Nat) (q : ClassId × FieldType), (zTys k)[i]? = some q → ArrOfT s q.1 q.2 ∧ va_RA s q.1 q.2 := by
  obtain ⟨a0, h0, g0⟩ := zK_one (hts _ (List.mem_filter.mp zAC_int).1)
  obtain ⟨a1, h1, g1⟩ := zK_one (hts _ (List.mem_filter.mp zAC_byte).1)
  obtain ⟨a2, h2, g2⟩ := zK_one (hts _ (List.mem_filter.mp zAC_boolean).1)
  obtain ⟨a3, h3, g3⟩ := zK_ref (hts _ (zAO_in "StyledRuns$Span" (by decide)))
  obtain ⟨a4, h4, g4⟩ := zK_ref (hts _ (zAO_in "StyledRuns$Anchor" (by decide)))
  obtain ⟨a5, h5, g5⟩ := zK_ref (hts _ (zAO_in "StyledRuns$Sheet" (by decide)))
  obtain ⟨a6, h6, g6⟩ := zK_ref (hts _ (zAO_in "StyledRuns$Act" (by decide)))
  refine ⟨fun i => [a0, a1, a2, a3, a4, a5, a6].getD i a0, fun k hk i q hq => ?_⟩
  have e : zTys k = [(a0, .int), (a1, .byte), (a2, .boolean), (a3, .object "StyledRuns$Span"), (a4, .object "StyledRuns$Anchor"), (a5, .object "StyledRuns$Sheet"), (a6, .object "StyledRuns$Act")] := by
    unfold zTys
    rw [hk]
    rfl
  rw [e] at hq
  have hm := List.mem_of_getElem? hq
  simp only [List.mem_cons, List.not_mem_nil, or_false] at hm
  rcases hm with rfl | rfl | rfl | rfl | rfl | rfl | rfl
  · exact ⟨h0, g0⟩
  · exact ⟨h1, g1⟩
  · exact ⟨h2, g2⟩
  · exact ⟨h3, g3⟩
  · exact ⟨h4, g4⟩
  · exact ⟨h5, g5⟩
  · exact ⟨h6, g6⟩
theorem zM_at {A : Nat → Prop} (hg : (Jvm.Cond.and given_1 narrow_1).before args s = true) (hts : ∀ w ∈ lw_tbl, w.before args s = true) (hA : ∀ a : Nat, a < s.heap.size → ¬ A a) : ∃ t : Nat, va_Z "StyledRuns" "MARK_SIGNS" "[I" (.ref t) A s s.heap ∧ va_T .int t 6 (fun j => .int (zSg (nI j))) A s s.heap := by
  have hs := flat_of_before _ hg
  have q1 : (Cond.arrayOf (.static "StyledRuns" "MARK_SIGNS" "[I") .int).before args s = true := hs _ (by decide +kernel)
  have q2 : (Cond.eq (.length (.static "StyledRuns" "MARK_SIGNS" "[I")) (.int 6)).before args s = true := hs _ (by decide +kernel)
  have e0 : (Cond.eq (.elem (.static "StyledRuns" "MARK_SIGNS" "[I") (.int 0)) (.int 98)).before args s = true := hs _ (by decide +kernel)
  have e1 : (Cond.eq (.elem (.static "StyledRuns" "MARK_SIGNS" "[I") (.int 1)) (.int 105)).before args s = true := hs _ (by decide +kernel)
  have e2 : (Cond.eq (.elem (.static "StyledRuns" "MARK_SIGNS" "[I") (.int 2)) (.int 117)).before args s = true := hs _ (by decide +kernel)
  have e3 : (Cond.eq (.elem (.static "StyledRuns" "MARK_SIGNS" "[I") (.int 3)) (.int 115)).before args s = true := hs _ (by decide +kernel)
  have e4 : (Cond.eq (.elem (.static "StyledRuns" "MARK_SIGNS" "[I") (.int 4)) (.int 99)).before args s = true := hs _ (by decide +kernel)
  have e5 : (Cond.eq (.elem (.static "StyledRuns" "MARK_SIGNS" "[I") (.int 5)) (.int 122)).before args s = true := hs _ (by decide +kernel)
  have w1 : (Cond.laysStatic "StyledRuns" "MARK_SIGNS" "[I").before args s = true := hts _ (tb_mem (i := 264) (by decide +kernel))
  have w2 : (Cond.initialized "StyledRuns").before args s = true := hts _ (tb_mem (i := 1) (by decide +kernel))
  obtain ⟨t, ht, hT⟩ := va_Tof (tm := .static "StyledRuns" "MARK_SIGNS" "[I") (ty := .int) (N := 6) (f := fun j => .int (zSg (nI j))) (A := A) (by decide) q1 (va_eqt q2) (fun j hj => by
    rcases (show j = 0 ∨ j = 1 ∨ j = 2 ∨ j = 3 ∨ j = 4 ∨ j = 5 by omega) with rfl | rfl | rfl | rfl | rfl | rfl
    · rw [show zSg (nI 0) = 98 by decide]; exact va_eqt e0
    · rw [show zSg (nI 1) = 105 by decide]; exact va_eqt e1
    · rw [show zSg (nI 2) = 117 by decide]; exact va_eqt e2
    · rw [show zSg (nI 3) = 115 by decide]; exact va_eqt e3
    · rw [show zSg (nI 4) = 99 by decide]; exact va_eqt e4
    · rw [show zSg (nI 5) = 122 by decide]; exact va_eqt e5) hA
  exact ⟨t, va_Zref w1 w2 ht hA, hT⟩
theorem zX_at {b L : Nat} {xs : Nat → Int32} {A : Nat → Prop} (hX : va_X b L xs s s.heap) (hL : L ≤ 4608) (hA : ¬ A b) : va_T .int b (zS0 L xs 100001 (-1)).toNatClampNeg (fun j => .int (zS0 L xs 100001 (nI j))) A s s.heap := by
  obtain ⟨scr, h1, h2, h3, h4, h5⟩ := hX
  rw [zS0_l, nI_clamp (by omega)]
  exact ⟨scr, h1, h2, h3, by omega, by rw [h4], fun j hj => by show _ = some (Value.int (zS0 L xs 100001 (nI j))); rw [zS0_x (by omega)]; exact h5 j hj, hA⟩
theorem zss_all : zss 411 ≤ 7302250 := by decide +kernel
end
