/-! from kit/laws/SKELETON.whole.lean.txt (a starting text): the words of the claim; whole_start is mine; it takes the name of the method beside what the skeleton has -/
def R_law : String := "StyledRunsLaw"
def lw_P (b : Addr) (xs : List Int32) (args : Array Value) (s : State) : Prop := args = #[.ref b] ∧ s.IntsAt b xs ∧ xs.length ≤ 4608 ∧ (Jvm.Cond.and given_1 narrow_1).before args s = true
def lw_Q (_ : Array Value) (s : State) (o : Outcome) (t : State) : Prop := o = .returned (some (.int 1)) ∧ Framed s o t [] 600000 7302250
def lw_Z (below : List Frame) (a : Array Value) (s : State) : State → Prop := fun t => ∃ o, t.status = .running ∧ Ended t below o ∧ lw_Q a s o t
/-- the law's own end, with 1 on the stack, nothing written that was there before, its room as the claim has it -/
theorem lw_ret {p : Program} {l : Launch} {e : Env} {s : State} {m : MethodId} {below : List Frame} {meth : Method} {c : Code} {b : Nat} (hx : p.tables.exec = Jvm.exec) (hb : c.code = code) (hr : meth.sig.returnType = ret) (hlocks : meth.locks = false) {pc : Nat} {H : Heap} {ls : Array Slot} (hdg : decode code pc = .ok (.ireturn, 1)) : W p l e room_1 s m #[Value.ref b] below meth c H [] 600000 7302250 (lw_Z below #[Value.ref b] s) (F0 m pc ls [.int 1]) := by
  intro T hT X
  obtain ⟨fs, hret, hrun, hended, hW, hframe⟩ := X.leave (v := some (.int 1)) (hlocks := hlocks) (fun h => by rw [hr] at h; cases h)
  have hmeth' : T.vm.method? m = some meth := X.method'
  refine ⟨T.setFrames fs, ?_, .returned (some (.int 1)), hrun, hended, rfl, ⟨_, rfl⟩, hW, hframe⟩
  jvm_step X.here [X.here.top, hx, hb, hdg, hmeth', hr, ret, narrow_b1]
  (try refine ⟨rfl, ?_⟩); (try refine ⟨rfl, ?_⟩)
  first | (intro acts; rw [hret _ acts rfl rfl rfl]) | rw [hret _ _ rfl rfl rfl]
  exact Steps.refl _
/-- what holds at the law's entry: the machine, the code, the tables' words (any of lw_tbl by 'hts w (by decide +kernel)'), the script of L ints xs at the cell b, what the Statement gives of the start (any of its parts by flat_of_before) -/
def lw_At (p : Program) (s : State) (m : MethodId) (meth : Method) (c : Code) (b L : Nat) (xs : Nat → Int32) : Prop :=
  p.tables.exec = Jvm.exec ∧ c.code = code ∧ meth.sig.returnType = ret ∧ c.maxLocals = 4 ∧ s.vm.findClass R_law = some m.cls ∧ (∀ w ∈ lw_tbl, w.before #[Value.ref b] s = true) ∧ va_X b L xs s s.heap ∧ b < s.heap.size ∧ meth.locks = false ∧ (Jvm.Cond.and given_1 narrow_1).before #[Value.ref b] s = true
/-- from the entry, for every script of at most 4608 ints, the law comes to its end with true -/
theorem whole_start {p : Program} {e : Env} {s : State} {m : MethodId} {below : List Frame} {meth : Method} {c : Code} (l : Launch) (hflags : l.flags = flags0) {b L : Nat} {xs : Nat → Int32} (hL : L ≤ 4608) (hnm : meth.name = x.name) (C0 : lw_At p s m meth c b L xs) : W p l e room_1 s m #[Value.ref b] below meth c s.heap [] 0 0 (lw_Z below #[Value.ref b] s) (entryFrame m ([Value.ref b] : List Value).toArray 4) := by
  obtain ⟨hx, hb, hr, hml, hown, hts, hX, hbl, hlocks, hgv⟩ := id C0
  have htz : ∀ w ∈ zTbl, w.before #[Value.ref b] s = true := fun w hw => hts w (List.mem_filter.mp hw).1
  have hA : ∀ a : Nat, a < s.heap.size → ¬ (fun q : Nat => s.heap.size ≤ q) a := fun a h => Nat.not_le.mpr h
  obtain ⟨D, hD⟩ := zK_cls htz
  obtain ⟨A, hAr⟩ := zK_arr hts
  obtain ⟨t, hZ, hT⟩ := zM_at hgv hts hA
  have htl : t < s.heap.size := by
    obtain ⟨cell, h1, -⟩ := id hT
    exact (Array.getElem?_eq_some_iff.mp h1).1
  have hSt : zSt ((s.heap.size, t, b), D, A, zS0 L xs) s s.heap := by
    refine ⟨⟨hD, hAr _ rfl⟩, htl, hbl, hZ, ?_, zX_at hX hL (hA b hbl), ?_, fun w hw => va_Nw.of (zNs_on w hw) (hts w (zNs_in w hw)), fun C hC => va_AO.of (hts _ (zAO_in C hC))⟩
    · show va_T .int t 6 (fun j => .int (zS0 L xs 100000 (nI j))) _ s s.heap
      simp only [zS0_m]
      exact hT
    · show ¬ zS0 L xs 100001 (-1) < 0
      rw [zS0_l]
      exact nI_pos (by omega)
  have hl := lv_entry ([.ref b]) (n := 4) (Nat.le_of_ble_eq_true rfl)
  rw [lg_entry_eq]
  generalize (lg_sl ([.ref b]) ++ List.replicate (4 - (lg_sl ([.ref b])).length) Slot.unset).toArray = ls at hl ⊢
  have hl : lv_has ls 4 [(0, .ref b)] := hl
  have l0 : (0 : Int32) ≤ zS0 L xs 100001 (-1) := by rw [zS0_l]; exact nI_pos' (by omega)
  have l1 : zS0 L xs 100001 (-1) ≤ 4608 := by rw [zS0_l]; exact nI_le hL (by decide)
  have K := law_0 (sg := zS0 L xs) (fun c hc j => zS0_z hc j) okM_0 l0 l1
  have hP : zPic ((s.heap.size, t, b), D, A, zS0 L xs) (zS0 L xs, 0, fun _ _ => false) s.heap := ⟨fun i q hq => by simp [zWs] at hq, Nat.zero_le _, rfl, rfl⟩
  have hR : zRm ((s.heap.size, t, b), D, A, zS0 L xs) (zS0 L xs, 0, fun _ _ => false) 411 room_1 s 0 0 := by
    refine ⟨Nat.le_refl _, Nat.zero_le _, Nat.le_of_ble_eq_true rfl, rfl, ?_, ?_, ?_⟩
    · show zss (s.heap.size - s.heap.size) + 0 = zss 0
      rw [Nat.sub_self, Nat.add_zero]
    · show s.heap.size + 411 ≤ s.heap.size + 600000
      exact Nat.add_le_add_left (Nat.le_of_ble_eq_true rfl) _
    · show zss 411 ≤ zss (s.heap.size - s.heap.size) + 7302250
      exact Nat.le_trans zss_all (Nat.le_add_left _ _)
  refine K ((s.heap.size, t, b), D, A, zS0 L xs) p l e room_1 s m #[Value.ref b] below meth c s.heap ls [] 0 0 _ ⟨hx, hb, hr, hml, hown, htz, hlocks, hnm, Nat.le_of_ble_eq_true rfl, Nat.le_of_ble_eq_true rfl, hSt⟩ hP va_S.rf hl hR ?_
  intro pc' ls' H' locs' cells' slots' r h' hQ hN' P' S' Z' hret
  obtain ⟨z1, z2, z3, z4, z5, -, -⟩ := Z'
  have hQ : r = some (.int 1) := hQ
  subst hQ
  have z4 : s.heap.size + cells' = s.heap.size + h'.2.1 := z4
  have z5 : zss (s.heap.size - s.heap.size) + slots' = zss h'.2.1 := z5
  rw [hN'] at z4 z5
  have y1 : cells' ≤ 600000 := by omega
  have y2 : slots' ≤ 7302250 := Nat.le_trans (Nat.le_add_left _ _) (Nat.le_trans (Nat.le_of_eq z5) zss_all)
  refine va_forget (fun q hq => S'.2.2 q hq) (W.widen (k := 600000) (n := 7302250) y1 y2 ?_)
  exact lw_ret hx hb hr hlocks hret.1
