/-! a method's contract out of the judgement; calls -/
theorem zss_mono {a b : Nat} (h : a ≤ b) : zss a ≤ zss b := by
  induction h with
  | refl => exact Nat.le_refl _
  | step _ ih => exact Nat.le_trans ih (Nat.le_add_right _ _)
theorem zSt_move {k : zKT} {s t : State} {H0 H : Heap} {locs : List Loc} (h : zSt k s H0) (hW : s.WarmedH t.vm) (hS : va_S (zB k) H0 H locs) : zSt k t H := by
  obtain ⟨h1, h2, h3, h4, h5, h6, h7, h8, h9⟩ := h
  have hvm := hW.alike
  refine ⟨va_K.moved hvm h1, h2, h3, (va_Z.moved hvm h4).kept hS.2.1, (va_T.moved hvm h5).kept hS.2.1, (va_T.moved hvm h6).kept hS.2.1, h7, fun w hw => ?_, fun C hC => va_AO.moved hvm (h9 C hC)⟩
  have h := h8 w hw
  simp only [zNs, List.mem_cons, List.not_mem_nil, or_false] at hw
  rcases hw with rfl | rfl | rfl | rfl | rfl | rfl | rfl | rfl | rfl | rfl <;> first | exact va_Nw.warmF hW h | exact va_Nw.warmM hW h
theorem zargs_map (k : zKT) (vs : List Value) : ∀ i, lv_args i (vs.map (zv k)) = (lv_args i vs).map (zvp k) := by
  induction vs with
  | nil => intro i; rfl
  | cons v vs ih =>
    intro i
    have e : (zv k v).category = v.category := by cases v <;> rfl
    simp only [List.map_cons, lv_args, e]
    rw [ih]
    rfl
theorem zsl_len (k : zKT) (vs : List Value) : (lg_sl (vs.map (zv k))).length = (lg_sl vs).length := by
  induction vs with
  | nil => rfl
  | cons v vs ih =>
    have e : (zv k v).category = v.category := by cases v <;> rfl
    simp only [lg_sl, List.map_cons, List.flatMap_cons, List.length_append] at ih ⊢
    rw [ih, e]
    congr 1
    split <;> rfl
def zws (M : zMT) : List Cond := .code M.2.1 M.2.2.1 M.2.2.2.1 M.2.2.2.2.1 :: zTbl
/-- a method of the tables: n arguments beside the receiver -/
def zOk (M : zMT) (n : Nat) : Prop := plainFor M.2.1 = true ∧ M.2.1.cls = zON M.1 ∧ Cond.code M.2.1 M.2.2.1 M.2.2.2.1 M.2.2.2.2.1 ∈ zTbl ∧ Cond.initialized M.2.1.cls ∈ zTbl ∧ (M.2.1.cls ≠ "java/lang/invoke/MethodHandle" ∧ M.2.1.cls ≠ "java/lang/invoke/VarHandle" ∧ (parseMethodDescriptor M.2.1.desc).map (fun d => d.parameters.length) = some n)
theorem zws_good {M : zMT} {n : Nat} (h : zOk M n) : GoodIn zTbl (zws M) := by
  intro w hw
  have hm : w ∈ zTbl := by
    rcases List.mem_cons.mp hw with rfl | q
    · exact h.2.2.1
    · exact q
  exact ⟨hm, good_of_word (List.mem_filter.mp hm).2⟩
def zQc (k : zKT) (N : Nat) (Q : Option Value → zHp → Prop) : Array Value → State → Outcome → State → Prop := fun _ st o t => (∃ (r : Option Value) (h' : zHp), o = .returned (r.map (zv k)) ∧ Q r h' ∧ h'.2.1 = N ∧ zPic k h' t.heap) ∧ va_F (zB k) st t
def zrm (M : zMT) (N : Nat) (h : zHp) : Room := { frames := M.2.2.2.2.2.1, cells := N - h.2.1, slots := zss N - zss h.2.1, locals := M.2.2.2.2.2.2 }
def zPc (k : zKT) (vs : List Value) (h : zHp) : Array Value → State → Prop := va_Pc (vs.map (zv k)) (fun U => zSt k U U.heap ∧ zPic k h U.heap ∧ U.heap.size = k.1.1 + h.2.1)
theorem zofW {l : Launch} {y : MethodName} {ws ws' : List Cond} {rm : Room} {Pc : Array Value → State → Prop} {Qc : Array Value → State → Outcome → State → Prop} {mc ms : Nat} {free : Addr → Prop} {cc : ByteArray} {maxL : Nat} {ret : Option FieldType}
    (hy : plainFor y = true) (hw : ws = Cond.code y cc maxL ret :: ws')
    (body : ∀ p e s m args below meth c s₁, BodyLoose p l y (headSpec ws rm) cc maxL ret e s m args below meth c s₁ → c.maxLocals = maxL → Pc args s →
      W p l e (headSpec ws rm).room s m args below meth c s.heap [] 0 0 (MQ below Qc args s mc ms free) (entryFrame m args maxL)) : Met l y ws rm Pc Qc mc ms free := by
  refine MetFree.of_bodySF (code := cc) (maxLocals := maxL) (ret := ret) hy (fun args s m h hn => ?_) (fun p e s m args below meth c s₁ B hml hP _ => ?_)
  · obtain ⟨meth, c, g1, g2, g3, g4, g5, g6, -⟩ := Cond.code_spec hn (atoms_spec (ws := ws) h _ (by rw [hw]; exact List.mem_cons_self))
    exact ⟨meth, c, g1, g2, g3, g4, g5, g6⟩
  · have e0 : s₁.heap = s.heap := by rw [B.state]; rfl
    obtain ⟨t, a1, o, b1, b2, b3, b4⟩ := body p e s m args below meth c s₁ B hml hP s₁ e0 (Stand.of_body B)
    exact ⟨t, o, a1, b1, b2, b3, b4⟩
theorem zMet {M : zMT} {N n : Nat} {Q : Option Value → zHp → Prop} {vs : List Value} {h : zHp} (l : Launch) (k : zKT) (hM : zOk M n) (hvs : (lg_sl vs).length ≤ M.2.2.2.1) (hN : h.2.1 ≤ N) (hN2 : N ≤ 100000) (body : zG M N Q 0 (lv_args 0 vs) [] h) :
    Met l M.2.1 (zws M) (zrm M N h) (zPc k vs h) (zQc k N Q) (N - h.2.1) (zss N - zss h.2.1) (zB k) := by
  refine zofW (cc := M.2.2.1) (maxL := M.2.2.2.1) (ret := M.2.2.2.2.1) hM.1 rfl ?_
  intro p e s m args below meth c s₁ B hml hv
  obtain ⟨rfl, hst, hpic, hsz⟩ := hv
  have hts := atoms_spec (ws := zws M) B.pre
  have hown : s.vm.findClass (zON M.1) = some m.cls := by rw [← hM.2.1]; exact findClass_of_methodNamed B.named
  have hl := lv_entry (vs.map (zv k)) (n := M.2.2.2.1) (by rw [zsl_len]; exact hvs)
  rw [lg_entry_eq]
  generalize (lg_sl (vs.map (zv k)) ++ List.replicate (M.2.2.2.1 - (lg_sl (vs.map (zv k))).length) Slot.unset).toArray = ls at hl ⊢
  rw [zargs_map] at hl
  refine body k p l e _ s m _ below meth c s.heap ls [] 0 0 _ ⟨B.exec, B.bytes, B.returns, hml, hown, fun w hw => hts w (List.mem_cons_of_mem _ hw), B.notSynchronized, (name_of_methodNamed B.named B.method).1, Nat.le_refl _, Nat.le_refl _, hst⟩ hpic va_S.rf hl ?_ ?_
  · refine ⟨by omega, hN, hN2, by omega, ?_, ?_, ?_⟩
    · rw [hsz, Nat.add_sub_cancel_left]; rfl
    · show _ ≤ _ + (N - h.2.1); omega
    · show _ ≤ _ + (zss N - zss h.2.1)
      rw [hsz, Nat.add_sub_cancel_left]; omega
  · intro pc' ls' H' locs' cells' slots' r h' hQ hN' P' S' Z' hret
    obtain ⟨z1, z2, z3, z4, z5, -, -⟩ := Z'
    have e1 : cells' ≤ N - h.2.1 := by omega
    have e2 : slots' ≤ zss N - zss h.2.1 := by
      rw [hsz, Nat.add_sub_cancel_left, hN'] at z5; omega
    refine W.widen e1 e2 ?_
    have hq : ∀ t : State, t.heap = H' → s.WarmedH t.vm → zQc k N Q (vs.map (zv k)).toArray s (.returned (r.map (zv k))) t := fun t ht hW => ⟨⟨r, h', rfl, hQ, hN', by rw [ht]; exact P'⟩, S'.F ht⟩
    have hlocks : meth.locks = false := B.notSynchronized
    match r, hret, hq with
    | none, hret, hq => exact W.vret B.exec B.bytes (B.returns.trans hret.2) hq S'.2.2 hret.1
    | some (.int v), hret, hq =>
      obtain ⟨hd, ty, ht, hn⟩ := hret
      exact W.zret B.exec B.bytes (B.returns.trans ht) hn hq S'.2.2 hd
    | some (.ref a), hret, hq =>
      obtain ⟨hd, nm, ht⟩ := hret
      exact W.aret B.exec B.bytes (B.returns.trans ht) (Or.inl ⟨nm, rfl⟩) (Or.inr ⟨_, rfl⟩) hq S'.2.2 hd
theorem zPc_blind {k : zKT} {vs : List Value} {h : zHp} : FrameBlind (zPc k vs h) := by
  intro a U g mk q
  obtain ⟨q0, qs, qP, qz⟩ := q
  exact ⟨q0, zSt_move (t := U.calling g mk a) qs (State.WarmedH.refl U) va_S.rf, qP, qz⟩
section
variable {p : Program} {l : Launch} {e : Env} {R : Room} {s : State} {m : MethodId} {args : Array Value} {below : List Frame} {meth : Method} {c : Code} {H : Heap} {locs : List Loc} {cells slots : Nat} {Qf : State → Prop}
/-- the rest of the caller behind a call -/
theorem zW_call {k : zKT} {M : zMT} {N N2 : Nat} {Q Q2 : Option Value → zHp → Prop} {pc : Nat} {lv : zLv} {h : zHp} {ls : Array Slot} {st0 rest : List Value} {av : Array Value}
    (C : zCx k M p R s m args meth c) (P : zPic k h H) (S : va_S (zB k) s.heap H locs) (L : lv_has ls M.2.2.2.1 (lv.map (zvp k))) (Z : zRm k h N R s cells slots) (hN : h.2.1 ≤ N2) (hN2 : N2 ≤ N)
    (F : ∀ (pc' : Nat) (ls' : Array Slot) (H' : Heap) (locs' : List Loc) (cells' slots' : Nat) (r : Option Value) (h' : zHp), Q r h' → h'.2.1 = N → zPic k h' H' → va_S (zB k) s.heap H' locs' → zRm k h' N R s cells' slots' → zRet M pc' r → W p l e R s m args below meth c H' locs' cells' slots' Qf (F0 m pc' ls' (r.toList.map (zv k))))
    (hr : va_Run p l e R s m args below meth c H locs cells slots (N2 - h.2.1) (zss N2 - zss h.2.1) (F0 m pc ls st0) (rest.map (zv k)) (zQc k N2 Q2 av) (zB k))
    (kk : ∀ (r : Option Value) (h' : zHp), Q2 r h' → h'.2.1 = N2 → zG M N Q (pc + 3) lv (r.toList ++ rest) h') : W p l e R s m args below meth c H locs cells slots Qf (F0 m pc ls st0) := by
  intro T hT X
  obtain ⟨v, st₀, t, T', L1, h0, X', hL, e1, e2, ⟨⟨r, h', hv, hQ, hn, hp⟩, hF1, hF2⟩, st⟩ := hr T hT X
  have hv : v = r.map (zv k) := by cases hv; rfl
  subst hv
  rw [h0] at hF1 hF2
  have S' : va_S (zB k) s.heap T'.heap (locs ++ L1) := by
    refine ⟨Nat.le_trans S.1 (by rw [e1]; exact hF1), fun q g1 g2 => ?_, fun q hq => ?_⟩
    · rw [e1, hF2 q (Nat.lt_of_lt_of_le g1 S.1) g2]; exact S.2.1 q g1 g2
    · rcases List.mem_append.mp hq with q1 | q1
      · exact S.2.2 q q1
      · exact hL q q1
  have hm := zss_mono hN
  obtain ⟨z1, z2, z3, z4, z5, z6, z7⟩ := Z
  obtain ⟨t2, a1, b1⟩ := kk r h' hQ hn k p l e R s m args below meth c T'.heap ls (locs ++ L1) (cells + (N2 - h.2.1)) (slots + (zss N2 - zss h.2.1)) Qf C (by rw [e1]; exact hp) S' L ⟨z1, by omega, z3, by omega, by rw [hn]; omega, z6, z7⟩ F T' rfl X'
  refine ⟨t2, st t2 ?_, b1⟩
  have e3 : (r.toList ++ rest).map (zv k) = (r.map (zv k)).toList ++ rest.map (zv k) := by
    cases r <;> simp
  rw [e3] at a1
  exact a1
end
def zRo1 (M M2 : zMT) : Prop := M2.2.2.2.2.2.1 + 1 ≤ M.2.2.2.2.2.1 ∧ 8 + (M2.2.2.2.1 + 11) + M2.2.2.2.2.2.2 ≤ M.2.2.2.2.2.2
theorem zcat (k : zKT) (rest : List Value) : ((rest.map (zv k)).map fun v => v.category) = rest.map fun v => v.category := by
  rw [List.map_map]
  apply List.map_congr_left
  intro v _
  cases v <;> rfl
section
variable {M M2 : zMT} {N N2 n : Nat} {Q Q2 : Option Value → zHp → Prop} {pc x a c : Nat} {lv : zLv} {st rest As : List Value} {h : zHp}
theorem zG_callv (hd : decode M.2.2.1 pc = .ok (.invokevirtual x, 3)) (hM : zOk M2 n) (hl : Cond.methodLink (zON M.1) x M2.2.1 ∈ zTbl ∧ Cond.instanceMethod M2.2.1 ∈ zTbl ∧ Cond.selects M2.2.1.cls M2.2.1 M2.2.1 ∈ zTbl) (hR : zRo1 M M2) (hc : c < 11) (hcl : (zCN c).1 = M2.2.1.cls)
    (hst : st = As.reverse ++ .ref a :: rest) (hn : As.length = n) (hrest : (rest.map fun v => v.category).sum ≤ 8) (hvs : (lg_sl (.ref a :: As)).length ≤ M2.2.2.2.1) (hN : h.2.1 ≤ N2) (hN2 : N2 ≤ N) (ho : zOb h a c)
    (body : zG M2 N2 Q2 0 (lv_args 0 (.ref a :: As)) [] h) (kk : ∀ (r : Option Value) (h' : zHp), Q2 r h' → h'.2.1 = N2 → zG M N Q (pc + 3) lv (r.toList ++ rest) h') : zG M N Q pc lv st h := by
  intro k p l e R s m args below meth c0 H ls locs cells slots Qf C P S L Z F T hT X
  have hB := Z.1
  have hsz : H.size = k.1.1 + h.2.1 := Nat.le_antisymm (by rw [← hT, ← Z.2.2.2.1]; exact X.heapSize) (zPic_size P hB S)
  have ha := zad_lt (k := k) (a := a) (zlt ho.1 P.2.1)
  have hmn := zss_mono hN
  have hmn2 := zss_mono hN2
  obtain ⟨z1, z2, z3, z4, z5, z6, z7⟩ := id Z
  refine zW_call (rest := rest) (N2 := N2) (Q2 := Q2) (av := (Value.ref (k.1.1 + a) :: As.map (zv k)).toArray) C P S L Z hN hN2 F ?_ kk T hT X
  refine va_runV (C := M2.2.1.cls) (bytes := M2.2.2.1) (maxL := M2.2.2.2.1) (ret := M2.2.2.2.2.1) (n := n) (As := As.map (zv k)) (b := k.1.1 + a) (nL := M.2.2.2.1) ⟨C.1, C.2.1, C.2.2.2.1, C.2.2.2.2.1, C.2.2.2.2.2.1⟩ (zMet (vs := .ref a :: As) l k hM hvs hN (Nat.le_trans hN2 z3) body)
    ⟨callB_of n C.2.2.2.2.2.1 (zws_good hM) rfl rfl rfl (C.2.2.2.2.2.1 _ hM.2.2.2.1) (C.2.2.2.2.2.1 _ hl.1) hM.2.2.2.2 ⟨Nat.le_trans hR.1 C.2.2.2.2.2.2.2.2.1, Nat.le_trans hR.2 C.2.2.2.2.2.2.2.2.2.1⟩, C.2.2.2.2.2.1 _ hl.2.1, C.2.2.2.2.2.1 _ hl.2.2⟩
    ⟨zPc_blind, by rw [← hcl]; exact va_recv C.2.2.2.2.2.2.2.2.2.2.1 P.1 (zCls_get c hc) (by rw [zWs_get ho.1, zE_0 ho.2]), fun U hU hW => ⟨by show _ = (Value.ref (zad k a) :: As.map (zv k)).toArray; rw [ha], zSt_move C.2.2.2.2.2.2.2.2.2.2 hW (by rw [hU]; exact S), by rw [hU]; exact P, by rw [hU]; exact hsz⟩⟩
    rfl (by rw [List.length_map]; exact hn) L.1 ?_ (lv_room (by rw [zcat]; exact hrest)) hd ⟨by omega, by omega⟩
  show st.map (zv k) = _
  rw [hst, List.map_append, List.map_reverse, List.map_cons]
  show _ ++ Value.ref (zad k a) :: _ = _
  rw [ha]
theorem zG_calls (hd : decode M.2.2.1 pc = .ok (.invokestatic x, 3)) (hM : zOk M2 n) (hl : Cond.methodLink (zON M.1) x M2.2.1 ∈ zTbl ∧ Cond.static M2.2.1 ∈ zTbl) (hR : zRo1 M M2)
    (hst : st = As.reverse ++ rest) (hn : As.length = n) (hrest : (rest.map fun v => v.category).sum ≤ 8) (hvs : (lg_sl As).length ≤ M2.2.2.2.1) (hN : h.2.1 ≤ N2) (hN2 : N2 ≤ N)
    (body : zG M2 N2 Q2 0 (lv_args 0 As) [] h) (kk : ∀ (r : Option Value) (h' : zHp), Q2 r h' → h'.2.1 = N2 → zG M N Q (pc + 3) lv (r.toList ++ rest) h') : zG M N Q pc lv st h := by
  intro k p l e R s m args below meth c0 H ls locs cells slots Qf C P S L Z F T hT X
  have hB := Z.1
  have hsz : H.size = k.1.1 + h.2.1 := Nat.le_antisymm (by rw [← hT, ← Z.2.2.2.1]; exact X.heapSize) (zPic_size P hB S)
  have hmn := zss_mono hN
  have hmn2 := zss_mono hN2
  obtain ⟨z1, z2, z3, z4, z5, z6, z7⟩ := id Z
  refine zW_call (rest := rest) (N2 := N2) (Q2 := Q2) (av := (As.map (zv k)).toArray) C P S L Z hN hN2 F ?_ kk T hT X
  refine va_runS (bytes := M2.2.2.1) (maxL := M2.2.2.2.1) (ret := M2.2.2.2.2.1) (n := n) (As := As.map (zv k)) (nL := M.2.2.2.1) ⟨C.1, C.2.1, C.2.2.2.1, C.2.2.2.2.1, C.2.2.2.2.2.1⟩ (zMet (vs := As) l k hM hvs hN (Nat.le_trans hN2 z3) body)
    ⟨callB_of n C.2.2.2.2.2.1 (zws_good hM) rfl rfl rfl (C.2.2.2.2.2.1 _ hM.2.2.2.1) (C.2.2.2.2.2.1 _ hl.1) hM.2.2.2.2 ⟨Nat.le_trans hR.1 C.2.2.2.2.2.2.2.2.1, Nat.le_trans hR.2 C.2.2.2.2.2.2.2.2.2.1⟩, C.2.2.2.2.2.1 _ hl.2⟩
    ⟨zPc_blind, fun U hU hW => ⟨rfl, zSt_move C.2.2.2.2.2.2.2.2.2.2 hW (by rw [hU]; exact S), by rw [hU]; exact P, by rw [hU]; exact hsz⟩⟩
    rfl (by rw [List.length_map]; exact hn) L.1 ?_ (lv_room (by rw [zcat]; exact hrest)) hd ⟨by omega, by omega⟩
  show st.map (zv k) = _
  rw [hst, List.map_append, List.map_reverse]
theorem zG_callsN {host : String} (hd : decode M.2.2.1 pc = .ok (.invokestatic x, 3)) (hM : zOk M2 n) (hl : Cond.methodLinkNest (zON M.1) x M2.2.1 host ∈ zNs ∧ Cond.static M2.2.1 ∈ zTbl) (hR : zRo1 M M2)
    (hst : st = As.reverse ++ rest) (hn : As.length = n) (hrest : (rest.map fun v => v.category).sum ≤ 8) (hvs : (lg_sl As).length ≤ M2.2.2.2.1) (hN : h.2.1 ≤ N2) (hN2 : N2 ≤ N)
    (body : zG M2 N2 Q2 0 (lv_args 0 As) [] h) (kk : ∀ (r : Option Value) (h' : zHp), Q2 r h' → h'.2.1 = N2 → zG M N Q (pc + 3) lv (r.toList ++ rest) h') : zG M N Q pc lv st h := by
  intro k p l e R s m args below meth c0 H ls locs cells slots Qf C P S L Z F T hT X
  have hB := Z.1
  have hsz : H.size = k.1.1 + h.2.1 := Nat.le_antisymm (by rw [← hT, ← Z.2.2.2.1]; exact X.heapSize) (zPic_size P hB S)
  have hmn := zss_mono hN
  have hmn2 := zss_mono hN2
  obtain ⟨z1, z2, z3, z4, z5, z6, z7⟩ := id Z
  refine zW_call (rest := rest) (N2 := N2) (Q2 := Q2) (av := (As.map (zv k)).toArray) C P S L Z hN hN2 F ?_ kk T hT X
  refine va_runSN (host := host) (bytes := M2.2.2.1) (maxL := M2.2.2.2.1) (ret := M2.2.2.2.2.1) (n := n) (As := As.map (zv k)) (nL := M.2.2.2.1) ⟨C.1, C.2.1, C.2.2.2.1, C.2.2.2.2.1, C.2.2.2.2.2.1⟩ (zMet (vs := As) l k hM hvs hN (Nat.le_trans hN2 z3) body)
    ⟨va_cnB n C.2.2.2.2.2.1 (zws_good hM) rfl rfl rfl (C.2.2.2.2.2.2.2.2.2.2.2.2.2.2.2.2.2.1 _ hl.1) (C.2.2.2.2.2.1 _ hM.2.2.2.1) hM.2.2.2.2 ⟨Nat.le_trans hR.1 C.2.2.2.2.2.2.2.2.1, Nat.le_trans hR.2 C.2.2.2.2.2.2.2.2.2.1⟩, C.2.2.2.2.2.1 _ hl.2, trivial⟩
    ⟨zPc_blind, fun U hU hW => ⟨rfl, zSt_move C.2.2.2.2.2.2.2.2.2.2 hW (by rw [hU]; exact S), by rw [hU]; exact P, by rw [hU]; exact hsz⟩⟩
    rfl (by rw [List.length_map]; exact hn) L.1 ?_ (lv_room (by rw [zcat]; exact hrest)) hd ⟨by omega, by omega⟩
  show st.map (zv k) = _
  rw [hst, List.map_append, List.map_reverse]
end
