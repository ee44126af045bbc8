/-! the heap as numbers: a layout that is fixed, and sg: cell, slot ↦ number -/
abbrev zSig : Type := Nat → Int32 → Int32
abbrev zHp : Type := zSig × Nat × (Nat → Nat → Bool)
/-- a method: own class, name, code, locals, answer, frames and words that its calls take -/
abbrev zMT : Type := Nat × MethodName × ByteArray × Nat × Option FieldType × Nat × Nat
abbrev zop : Type := Nat × Nat × Nat × Nat × Int32
abbrev zLv : Type := List (Nat × Value)
/-- first cell, the signs' cell, the script's cell; classes and slots; array classes; what signs and script hold -/
abbrev zKT : Type := (Nat × Nat × Nat) × va_G × (Nat → ClassId) × zSig
def zNs : List Cond := [(Jvm.Cond.methodLinkNest "StyledRuns$Sheet" (40 : Nat) ({ cls := "StyledRuns$Span", name := "<init>", desc := "()V" } : Jvm.MethodName) "StyledRuns"), (Jvm.Cond.methodLinkNest "StyledRuns$Sheet" (41 : Nat) ({ cls := "StyledRuns$Anchor", name := "<init>", desc := "()V" } : Jvm.MethodName) "StyledRuns"), (Jvm.Cond.methodLinkNest "StyledRuns" (18 : Nat) ({ cls := "StyledRuns$Tape", name := "<init>", desc := "()V" } : Jvm.MethodName) "StyledRuns"), (Jvm.Cond.methodLinkNest "StyledRuns$History" (31 : Nat) ({ cls := "StyledRuns$Act", name := "<init>", desc := "()V" } : Jvm.MethodName) "StyledRuns"), (Jvm.Cond.methodLinkNest "StyledRuns" (40 : Nat) ({ cls := "StyledRuns$Looks", name := "<init>", desc := "()V" } : Jvm.MethodName) "StyledRuns"), (Jvm.Cond.methodLinkNest "StyledRuns" (50 : Nat) ({ cls := "StyledRuns$Reader", name := "<init>", desc := "()V" } : Jvm.MethodName) "StyledRuns"), (Jvm.Cond.methodLinkNest "StyledRuns" (57 : Nat) ({ cls := "StyledRuns$Writer", name := "<init>", desc := "()V" } : Jvm.MethodName) "StyledRuns"), (Jvm.Cond.fieldLinkNest "StyledRuns$Writer" (19 : Nat) "StyledRuns" "MARK_SIGNS" "[I" "StyledRuns"), (Jvm.Cond.fieldLinkNest "StyledRuns$Reader" (73 : Nat) "StyledRuns" "MARK_SIGNS" "[I" "StyledRuns"), (Jvm.Cond.methodLinkNest "StyledRuns$Reader" (59 : Nat) ({ cls := "StyledRuns", name := "isWithin", desc := "(II)Z" } : Jvm.MethodName) "StyledRuns")]
/-- the words that every call hands on -/
def zTbl : List Cond := lw_tbl.filter goodWord
theorem zTbl_of {w : Cond} (h : w ∈ lw_tbl) (hg : goodWord w = true) : w ∈ zTbl := List.mem_filter.mpr ⟨h, hg⟩
def zAO : List String := ["StyledRuns$Span", "StyledRuns$Anchor", "StyledRuns$Sheet", "StyledRuns$Act"]
def zad (k : zKT) (a : Nat) : Nat := if a < 100000 then k.1.1 + a else if a = 100000 then k.1.2.1 else k.1.2.2
def zv (k : zKT) : Value → Value
  | .ref a => .ref (zad k a)
  | v => v
def zvp (k : zKT) (q : Nat × Value) : Nat × Value := (q.1, zv k q.2)
def zFs (k : zKT) (h : zHp) (a c : Nat) : List Value := (List.range (zFk c).length).map fun j => if (zFk c).getD j 0 = 0 then .int (h.1 a (nI j)) else if h.2.2 a j = true then .ref (k.1.1 + (a + (zFk c).getD j 0)) else .null
def zAi (h : zHp) (a n : Nat) : Nat → Int32 := fun j => if j < n then h.1 a (nI j) else 0
def zAr (k : zKT) (h : zHp) (a c n : Nat) : Nat → Option Nat := fun j => if j < n ∧ h.2.2 a j = true then some (k.1.1 + (a + zRo c + zRs c * j)) else none
def zE (k : zKT) (h : zHp) (a : Nat) : va_E :=
  if (zSh a).1 = 0 then .inr ((zSh a).2.1, zFs k h a (zSh a).2.1)
  else if (zSh a).1 = 1 then .inl (k.2.2.1 (zSh a).2.1, (zSh a).2.2, .inl (zAi h a (zSh a).2.2))
  else .inl (k.2.2.1 (zRc (zSh a).2.1), (zSh a).2.2, .inr (.inr (.inr (.inr (zAr k h a (zSh a).2.1 (zSh a).2.2)))))
def zWs (k : zKT) (h : zHp) : va_W := (List.range h.2.1).map fun a => (k.1.1 + a, zE k h a)
def zTys (k : zKT) : List (ClassId × FieldType) := [(k.2.2.1 0, .int), (k.2.2.1 1, .byte), (k.2.2.1 2, .boolean), (k.2.2.1 3, .object "StyledRuns$Span"), (k.2.2.1 4, .object "StyledRuns$Anchor"), (k.2.2.1 5, .object "StyledRuns$Sheet"), (k.2.2.1 6, .object "StyledRuns$Act")]
def zPic (k : zKT) (h : zHp) (H : Heap) : Prop := va_P k.2.1 zCls (zWs k h) H ∧ h.2.1 ≤ 98000 ∧ h.1 100000 = k.2.2.2 100000 ∧ h.1 100001 = k.2.2.2 100001
def zB (k : zKT) : Nat → Prop := fun q => k.1.1 ≤ q
def zSt (k : zKT) (U : State) (H : Heap) : Prop := va_K k.2.1 zCls (zTys k) U ∧ k.1.2.1 < k.1.1 ∧ k.1.2.2 < k.1.1 ∧ va_Z "StyledRuns" "MARK_SIGNS" "[I" (.ref k.1.2.1) (zB k) U H ∧ va_T .int k.1.2.1 6 (fun j => .int (k.2.2.2 100000 (nI j))) (zB k) U H ∧ va_T .int k.1.2.2 (k.2.2.2 100001 (-1)).toNatClampNeg (fun j => .int (k.2.2.2 100001 (nI j))) (zB k) U H ∧ (¬ k.2.2.2 100001 (-1) < 0) ∧ (∀ w ∈ zNs, va_Nw w U) ∧ (∀ C ∈ zAO, va_AO C U)
def zCx (k : zKT) (M : zMT) (p : Program) (R : Room) (s : State) (m : MethodId) (args : Array Value) (meth : Method) (c : Code) : Prop := p.tables.exec = Jvm.exec ∧ c.code = M.2.2.1 ∧ meth.sig.returnType = M.2.2.2.2.1 ∧ c.maxLocals = M.2.2.2.1 ∧ s.vm.findClass (zON M.1) = some m.cls ∧ (∀ w ∈ zTbl, w.before args s = true) ∧ meth.locks = false ∧ meth.name = M.2.1.name ∧ M.2.2.2.2.2.1 ≤ R.frames ∧ M.2.2.2.2.2.2 ≤ R.locals ∧ zSt k s s.heap
def zsz (a : Nat) : Nat := if (zSh a).1 = 0 then (zFk (zSh a).2.1).length else (zSh a).2.2
def zss : Nat → Nat
  | 0 => 0
  | n + 1 => zss n + zsz n
def zRm (k : zKT) (h : zHp) (N : Nat) (R : Room) (s : State) (cells slots : Nat) : Prop := k.1.1 ≤ s.heap.size ∧ h.2.1 ≤ N ∧ N ≤ 100000 ∧ s.heap.size + cells = k.1.1 + h.2.1 ∧ zss (s.heap.size - k.1.1) + slots = zss h.2.1 ∧ k.1.1 + N ≤ s.heap.size + R.cells ∧ zss N ≤ zss (s.heap.size - k.1.1) + R.slots
def zRet (M : zMT) (pc : Nat) (r : Option Value) : Prop := match r with
  | none => decode M.2.2.1 pc = .ok (.return_, 1) ∧ M.2.2.2.2.1 = none
  | some (.int v) => decode M.2.2.1 pc = .ok (.ireturn, 1) ∧ ∃ ty, M.2.2.2.2.1 = some ty ∧ narrow ty (.int v) = .int v
  | some (.ref _) => decode M.2.2.1 pc = .ok (.areturn, 1) ∧ ∃ n, M.2.2.2.2.1 = some (.object n)
  | _ => False
/-- THE JUDGEMENT: from pc of M, with locals lv, stack st and the heap h, the machine comes to M's return with Q; at most the cells up to N are made -/
def zG (M : zMT) (N : Nat) (Q : Option Value → zHp → Prop) (pc : Nat) (lv : zLv) (st : List Value) (h : zHp) : Prop :=
  ∀ (k : zKT) (p : Program) (l : Launch) (e : Env) (R : Room) (s : State) (m : MethodId) (args : Array Value) (below : List Frame) (meth : Method) (c : Code) (H : Heap) (ls : Array Slot) (locs : List Loc) (cells slots : Nat) (Qf : State → Prop),
    zCx k M p R s m args meth c → zPic k h H → va_S (zB k) s.heap H locs → lv_has ls M.2.2.2.1 (lv.map (zvp k)) → zRm k h N R s cells slots →
    (∀ (pc' : Nat) (ls' : Array Slot) (H' : Heap) (locs' : List Loc) (cells' slots' : Nat) (r : Option Value) (h' : zHp), Q r h' → h'.2.1 = N → zPic k h' H' → va_S (zB k) s.heap H' locs' → zRm k h' N R s cells' slots' → zRet M pc' r →
      W p l e R s m args below meth c H' locs' cells' slots' Qf (F0 m pc' ls' (r.toList.map (zv k)))) →
    W p l e R s m args below meth c H locs cells slots Qf (F0 m pc ls (st.map (zv k)))
/-! rows on the picture -/
theorem zWs_get {k : zKT} {h : zHp} {a : Nat} (ha : a < h.2.1) : (zWs k h)[a]? = some (k.1.1 + a, zE k h a) := by
  simp [zWs, List.getElem?_map, List.getElem?_range ha]
theorem zWs_len {k : zKT} {h : zHp} : (zWs k h).length = h.2.1 := by simp [zWs]
theorem zWs_D {k : zKT} {h : zHp} : va_D (zB k) (zWs k h) := by
  refine ⟨fun i j p q hi hj hpq => ?_, fun i q hi => ?_⟩
  · have h1 : i < h.2.1 := by have := (List.getElem?_eq_some_iff.mp hi).1; rwa [zWs_len] at this
    have h2 : j < h.2.1 := by have := (List.getElem?_eq_some_iff.mp hj).1; rwa [zWs_len] at this
    rw [zWs_get h1] at hi; rw [zWs_get h2] at hj
    cases hi; cases hj
    simp only at hpq; omega
  · have h1 : i < h.2.1 := by have := (List.getElem?_eq_some_iff.mp hi).1; rwa [zWs_len] at this
    rw [zWs_get h1] at hi
    cases hi
    exact Nat.le_add_right _ _
theorem zWs_set {k : zKT} {h h' : zHp} {a : Nat} {e : va_E} (ha : a < h.2.1) (hn : h'.2.1 = h.2.1) (he : e = zE k h' a) (ho : ∀ b, b ≠ a → zE k h' b = zE k h b) : (zWs k h).set a (k.1.1 + a, e) = zWs k h' := by
  subst he
  apply List.ext_getElem?
  intro j
  by_cases hj : j < h.2.1
  · by_cases hja : j = a
    · subst hja
      rw [zWs_get (h := h') (by rw [hn]; exact hj), List.getElem?_set_self (by rw [zWs_len]; exact hj)]
    · rw [List.getElem?_set_ne (fun q => hja q.symm), zWs_get hj, zWs_get (h := h') (by rw [hn]; exact hj), ho j hja]
  · rw [List.getElem?_eq_none (by rw [List.length_set, zWs_len]; omega), List.getElem?_eq_none (by rw [zWs_len, hn]; omega)]
def zup (sg : zSig) (a : Nat) (i x : Int32) : zSig := fun b => if b = a then (fun j => if j = i then x else sg a j) else sg b
theorem zE_ne {k : zKT} {h h' : zHp} {b : Nat} (h1 : h'.1 b = h.1 b) (h2 : h'.2.2 b = h.2.2 b) : zE k h' b = zE k h b := by
  unfold zE zFs zAi zAr
  rw [h1, h2]
theorem zE_0 {k : zKT} {h : zHp} {a c : Nat} (hs : zSh a = (0, c, 0)) : zE k h a = .inr (c, zFs k h a c) := by
  unfold zE; rw [hs]; rfl
theorem zE_1 {k : zKT} {h : zHp} {a t n : Nat} (hs : zSh a = (1, t, n)) : zE k h a = .inl (k.2.2.1 t, n, .inl (zAi h a n)) := by
  unfold zE; rw [hs]; rfl
theorem zE_2 {k : zKT} {h : zHp} {a c n : Nat} (hs : zSh a = (2, c, n)) : zE k h a = .inl (k.2.2.1 (zRc c), n, .inr (.inr (.inr (.inr (zAr k h a c n))))) := by
  unfold zE; rw [hs]; rfl
theorem zFs_get {k : zKT} {h : zHp} {a c j : Nat} (hj : j < (zFk c).length) : (zFs k h a c)[j]? = some (if (zFk c).getD j 0 = 0 then .int (h.1 a (nI j)) else if h.2.2 a j = true then .ref (k.1.1 + (a + (zFk c).getD j 0)) else .null) := by
  simp [zFs, List.getElem?_map, List.getElem?_range hj]
theorem zFs_len {k : zKT} {h : zHp} {a c : Nat} : (zFs k h a c).length = (zFk c).length := by simp [zFs]
/-- small numbers told apart -/
theorem znI_ne {i j : Nat} (hi : i < 2 ^ 31) (hj : j < 2 ^ 31) (h : i ≠ j) : nI i ≠ nI j := fun q => h ((nI_eq hi hj).mp q)
theorem zFk_small : ∀ c, (zFk c).length ≤ 31 := by
  intro c
  by_cases hc : c < 11
  · revert c; decide +kernel
  · unfold zFk
    rw [List.getD_eq_getElem?_getD, List.getElem?_eq_none (by simp; omega)]
    exact Nat.zero_le _
theorem zFs_set {k : zKT} {h : zHp} {a c j : Nat} {x : Int32} (hj : j < (zFk c).length) (h0 : (zFk c).getD j 0 = 0) : (zFs k h a c).set j (.int x) = zFs k (zup h.1 a (nI j) x, h.2) a c := by
  have hb := zFk_small c
  apply List.ext_getElem?
  intro i
  by_cases hi : i < (zFk c).length
  · by_cases hij : i = j
    · subst hij
      rw [List.getElem?_set_self (by rw [zFs_len]; exact hi), zFs_get hi, if_pos h0]
      simp [zup]
    · rw [List.getElem?_set_ne (fun q => hij q.symm), zFs_get hi, zFs_get hi]
      have : nI i ≠ nI j := znI_ne (by omega) (by omega) hij
      simp [zup, this]
  · rw [List.getElem?_eq_none (by rw [List.length_set, zFs_len]; omega), List.getElem?_eq_none (by rw [zFs_len]; omega)]
theorem zAi_set {h : zHp} {a n : Nat} {i x : Int32} (hn : n < 2 ^ 31) (hi : vp_in i n) : upd (zAi h a n) i.toNatClampNeg x = zAi (zup h.1 a i x, h.2) a n := by
  obtain ⟨j, hj, rfl⟩ := vp_in_of hi hn
  have hjc : (nI j).toNatClampNeg = j := nI_clamp (by omega)
  funext q
  unfold upd zAi zup
  rw [hjc]
  by_cases hq : q = j
  · subst hq; simp [hj]
  · by_cases hqn : q < n
    · have : nI q ≠ nI j := znI_ne (by omega) (by omega) hq
      simp [hq, hqn, this]
    · simp [hq, hqn]
/-- the picture behind a number that is stored -/
theorem zPic_up {k : zKT} {h : zHp} {H H1 : Heap} {a : Nat} {i x : Int32} {e : va_E} (hP : zPic k h H) (ha : a < h.2.1) (he : e = zE k (zup h.1 a i x, h.2) a) (hW : va_P k.2.1 zCls ((zWs k h).set a (k.1.1 + a, e)) H1) : zPic k (zup h.1 a i x, h.2) H1 := by
  obtain ⟨h2, h3, h4, h5⟩ := hP
  refine ⟨?_, h3, ?_, ?_⟩
  · rw [zWs_set (h' := (zup h.1 a i x, h.2)) ha rfl he (fun b hb => zE_ne (by simp [zup, hb]) rfl)] at hW
    exact hW
  · show zup h.1 a i x 100000 = _
    have : (100000 : Nat) ≠ a := by omega
    simp only [zup, if_neg this]; exact h4
  · show zup h.1 a i x 100001 = _
    have : (100001 : Nat) ≠ a := by omega
    simp only [zup, if_neg this]; exact h5
theorem zmap_filter (k : zKT) (lv : zLv) (i : Nat) : (lv.map (zvp k)).filter (fun q => !(q.1 == i) && !(q.1 + 1 == i && q.2.category == 2)) = (lv.filter (fun q => !(q.1 == i) && !(q.1 + 1 == i && q.2.category == 2))).map (zvp k) := by
  rw [List.filter_map]
  congr 1
  apply List.filter_congr
  intro q _
  obtain ⟨n, v⟩ := q
  cases v <;> rfl
def zld (lv : zLv) (i : Nat) : Option Value := (lv.find? (fun q => q.1 == i)).map (fun q => q.2)
def zst1 (lv : zLv) (i : Nat) (v : Value) : zLv := (i, v) :: lv.filter (fun q => !(q.1 == i) && !(q.1 + 1 == i && q.2.category == 2))
theorem zld_has {k : zKT} {ls : Array Slot} {n i : Nat} {lv : zLv} {v : Value} (L : lv_has ls n (lv.map (zvp k))) (hv : zld lv i = some v) : ls[i]? = some (.val (zv k v)) := by
  unfold zld at hv
  cases hf : lv.find? (fun q => q.1 == i) with
  | none => rw [hf] at hv; cases hv
  | some q =>
    rw [hf] at hv
    have hm := List.mem_of_find?_eq_some hf
    have hq := List.find?_some hf
    have hq : q.1 = i := by simpa using hq
    have := L.2.2 (zvp k q) (List.mem_map.mpr ⟨q, hm, rfl⟩)
    cases hv
    rw [← hq]; exact this
theorem zst1_map (k : zKT) (lv : zLv) (i : Nat) (v : Value) : (i, zv k v) :: (lv.map (zvp k)).filter (fun q => !(q.1 == i) && !(q.1 + 1 == i && q.2.category == 2)) = (zst1 lv i v).map (zvp k) := by
  rw [zmap_filter]; rfl
/-! the ops -/
def zbin (c : Nat) (x y : Int32) : Int32 := match c with
  | 0 => x + y
  | 1 => x - y
  | 2 => x * y
  | 3 => x &&& y
  | 4 => x ||| y
  | 5 => x ^^^ y
  | 6 => x <<< (y &&& 31)
  | 7 => x >>> (y &&& 31)
  | 8 => (x.toUInt32 >>> (y.toUInt32 &&& Int32.toUInt32 31)).toInt32
  | 9 => x / y
  | _ => x - x / y * y
def zbinP (c : Nat) (y : Int32) : List Prop := match c with
  | 9 => [¬ y = 0]
  | 10 => [¬ y = 0]
  | _ => []
/-- an index within an array of numbers -/
def zIn (h : zHp) (a t : Nat) (i : Int32) : Prop := a < h.2.1 ∧ (zSh a).1 = 1 ∧ (zSh a).2.1 = t ∧ 0 ≤ i ∧ i < nI (zSh a).2.2
/-- ... of a load of ints: the signs and the script too -/
def zInL (h : zHp) (a : Nat) (i : Int32) : Prop := zIn h a 0 i ∨ (a = 100000 ∧ 0 ≤ i ∧ i < 6) ∨ (a = 100001 ∧ 0 ≤ i ∧ i < h.1 100001 (-1))
def zInR (h : zHp) (a : Nat) (i : Int32) : Prop := a < h.2.1 ∧ (zSh a).1 = 2 ∧ 0 ≤ i ∧ i < nI (zSh a).2.2 ∧ h.2.2 a i.toNatClampNeg = true ∧ a + zRo (zSh a).2.1 + zRs (zSh a).2.1 * i.toNatClampNeg < 100000
def zel (a : Nat) (i : Int32) : Nat := a + zRo (zSh a).2.1 + zRs (zSh a).2.1 * i.toNatClampNeg
def zln (h : zHp) (a : Nat) : Int32 := if a = 100001 then h.1 100001 (-1) else nI (zSh a).2.2
def zOb (h : zHp) (a c : Nat) : Prop := a < h.2.1 ∧ zSh a = (0, c, 0)
def zstep (o : zop) (lv : zLv) (st : List Value) (h : zHp) : Option (zLv × List Value × zHp × List Prop) := match o with
  | (0, _, _, _, x) => some (lv, .int x :: st, h, [])
  | (1, j, t, _, _) => match t, zld lv j with
    | 0, some (.int x) => some (lv, .int x :: st, h, [])
    | 1, some (.ref x) => some (lv, .ref x :: st, h, [])
    | 2, some (.long x) => some (lv, .long x :: st, h, [])
    | _, _ => none
  | (2, j, t, _, _) => match t, st with
    | 0, .int x :: st => some (zst1 lv j (.int x), st, h, [])
    | 1, .ref x :: st => some (zst1 lv j (.ref x), st, h, [])
    | _, _ => none
  | (3, j, _, _, x) => match zld lv j with
    | some (.int y) => some (zst1 lv j (.int (y + x)), st, h, [])
    | _ => none
  | (4, c, _, _, _) => match st with
    | .int y :: .int x :: st => some (lv, .int (zbin c x y) :: st, h, zbinP c y)
    | _ => none
  | (5, c, k, 0, i) => match st with
    | .ref a :: st => some (lv, .int (h.1 a i) :: st, h, [zOb h a c])
    | _ => none
  | (5, c, k, o + 1, i) => match st with
    | .ref a :: st => some (lv, .ref (a + (o + 1)) :: st, h, [zOb h a c ∧ h.2.2 a k = true])
    | _ => none
  | (6, c, k, 0, i) => match st with
    | .int x :: .ref a :: st => some (lv, st, (zup h.1 a i x, h.2), [zOb h a c])
    | _ => none
  | (6, c, k, _ + 1, i) => match st with
    | .int x :: .ref a :: st => some (lv, st, (zup h.1 a i x, h.2), [zOb h a c, x = 0 ∨ x = 1])
    | _ => none
  | (7, t, _, _, _) => match st with
    | .int i :: .ref a :: st => some (lv, .int (h.1 a i) :: st, h, [match t with | 0 => zInL h a i | t + 1 => zIn h a (t + 1) i])
    | _ => none
  | (8, t, _, _, _) => match st with
    | .int x :: .int i :: .ref a :: st => some (lv, st, (zup h.1 a i (match t with | 0 => x | 1 => x.toInt8.toInt32 | _ => x &&& 1), h.2), [zIn h a t i])
    | _ => none
  | (9, _, _, _, _) => match st with
    | .int i :: .ref a :: st => some (lv, .ref (zel a i) :: st, h, [zInR h a i])
    | _ => none
  | (10, _, _, _, _) => match st with
    | .ref a :: st => some (lv, .int (zln h a) :: st, h, [(a < h.2.1 ∧ (zSh a).1 = 1 ∧ (zSh a).2.1 < 3) ∨ a = 100000 ∨ a = 100001])
    | _ => none
  | (11, _, _, _, _) => some (lv, .ref 100000 :: st, h, [])
  | (12, _, _, _, _) => match st with
    | .int x :: st => some (lv, .int (-x) :: st, h, [])
    | _ => none
  | (13, _, _, _, _) => match st with
    | .int x :: st => some (lv, .int x.toInt8.toInt32 :: st, h, [])
    | _ => none
  | (14, _, _, _, _) => match st with
    | .int x :: st => some (lv, .long x.toInt64 :: st, h, [])
    | _ => none
  | (15, _, _, _, x) => some (lv, .long x.toInt64 :: st, h, [])
  | (16, _, _, _, _) => match st with
    | .long y :: .long x :: st => some (lv, .long (x - y) :: st, h, [])
    | _ => none
  | (17, _, _, _, _) => match st with
    | .long y :: .long x :: st => some (lv, .int (lg_cmp x y) :: st, h, [])
    | _ => none
  | (18, _, _, _, _) => match st with
    | .int x :: st => some (lv, .int x :: .int x :: st, h, [])
    | .ref x :: st => some (lv, .ref x :: .ref x :: st, h, [])
    | _ => none
  | (19, _, _, _, _) => match st with
    | .int x :: .ref y :: st => some (lv, .int x :: .ref y :: .int x :: .ref y :: st, h, [])
    | _ => none
  | (20, _, _, _, _) => match st with
    | .int x :: st => some (lv, st, h, [])
    | _ => none
  | (21, _, _, _, _) => match st with
    | .int x :: .ref y :: st => some (lv, .int x :: .ref y :: .int x :: st, h, [])
    | _ => none
  | (22, _, _, _, _) => some (lv, st, h, [])
  | _ => none
/-- where the next op stands -/
def znext (o : zop) (pc len : Nat) : Nat := if o.1 = 22 then o.2.1 else pc + len
def zmat (M : zMT) (i : Instr) (len pc : Nat) (o : zop) : Bool := match i with
  | .iconst n => len == 1 && (o.1 == 0 && decide (Int32.ofInt n = o.2.2.2.2))
  | .bipush n => len == 2 && (o.1 == 0 && decide ((Int8.ofInt n).toInt32 = o.2.2.2.2))
  | .sipush n => len == 3 && (o.1 == 0 && decide ((Int16.ofInt n).toInt32 = o.2.2.2.2))
  | .ldc x => len == 2 && (o.1 == 0 && zCI.any (fun e => e.1 == M.1 && (e.2.1 == x && decide (e.2.2.1 = o.2.2.2.2))))
  | .ldc_w x => len == 3 && (o.1 == 0 && zCI.any (fun e => e.1 == M.1 && (e.2.1 == x && decide (e.2.2.1 = o.2.2.2.2))))
  | .iload_n j => len == 1 && (o.1 == 1 && (o.2.2.1 == 0 && decide (j.val = o.2.1)))
  | .iload j => len == 2 && (o.1 == 1 && (o.2.2.1 == 0 && decide (j = o.2.1)))
  | .aload_n j => len == 1 && (o.1 == 1 && (o.2.2.1 == 1 && decide (j.val = o.2.1)))
  | .aload j => len == 2 && (o.1 == 1 && (o.2.2.1 == 1 && decide (j = o.2.1)))
  | .lload_n j => len == 1 && (o.1 == 1 && (o.2.2.1 == 2 && decide (j.val = o.2.1)))
  | .lload j => len == 2 && (o.1 == 1 && (o.2.2.1 == 2 && decide (j = o.2.1)))
  | .istore_n j => len == 1 && (o.1 == 2 && (o.2.2.1 == 0 && (decide (j.val = o.2.1) && decide (o.2.1 < M.2.2.2.1))))
  | .istore j => len == 2 && (o.1 == 2 && (o.2.2.1 == 0 && (decide (j = o.2.1) && decide (o.2.1 < M.2.2.2.1))))
  | .astore_n j => len == 1 && (o.1 == 2 && (o.2.2.1 == 1 && (decide (j.val = o.2.1) && decide (o.2.1 < M.2.2.2.1))))
  | .astore j => len == 2 && (o.1 == 2 && (o.2.2.1 == 1 && (decide (j = o.2.1) && decide (o.2.1 < M.2.2.2.1))))
  | .iinc j n => len == 3 && (o.1 == 3 && (decide (Int32.ofInt n = o.2.2.2.2) && (decide (j = o.2.1) && decide (o.2.1 < M.2.2.2.1))))
  | .iadd => len == 1 && (o.1 == 4 && o.2.1 == 0)
  | .isub => len == 1 && (o.1 == 4 && o.2.1 == 1)
  | .imul => len == 1 && (o.1 == 4 && o.2.1 == 2)
  | .iand => len == 1 && (o.1 == 4 && o.2.1 == 3)
  | .ior => len == 1 && (o.1 == 4 && o.2.1 == 4)
  | .ixor => len == 1 && (o.1 == 4 && o.2.1 == 5)
  | .ishl => len == 1 && (o.1 == 4 && o.2.1 == 6)
  | .ishr => len == 1 && (o.1 == 4 && o.2.1 == 7)
  | .iushr => len == 1 && (o.1 == 4 && o.2.1 == 8)
  | .idiv => len == 1 && (o.1 == 4 && o.2.1 == 9)
  | .irem => len == 1 && (o.1 == 4 && o.2.1 == 10)
  | .getfield x => len == 3 && (o.1 == 5 && (zFL.any (fun e => e.1 == M.1 && (e.2.1 == x && (e.2.2.1 == o.2.1 && e.2.2.2.1 == o.2.2.1))) && (decide ((zFk o.2.1).getD o.2.2.1 0 = o.2.2.2.1) && decide (o.2.2.2.2 = nI o.2.2.1))))
  | .putfield x => len == 3 && (o.1 == 6 && (zFL.any (fun e => e.1 == M.1 && (e.2.1 == x && (e.2.2.1 == o.2.1 && e.2.2.2.1 == o.2.2.1))) && (decide ((zFk o.2.1).getD o.2.2.1 0 = 0) && (decide (o.2.2.2.2 = nI o.2.2.1) && (decide (((zCN o.2.1).2.1 o.2.2.1).2.2.1 = "I") && o.2.2.2.1 == 0 || decide (((zCN o.2.1).2.1 o.2.2.1).2.2.1 = "Z") && o.2.2.2.1 == 1)))))
  | .iaload => len == 1 && (o.1 == 7 && o.2.1 == 0)
  | .baload => len == 1 && (o.1 == 7 && (o.2.1 == 1 || o.2.1 == 2))
  | .iastore => len == 1 && (o.1 == 8 && o.2.1 == 0)
  | .bastore => len == 1 && (o.1 == 8 && (o.2.1 == 1 || o.2.1 == 2))
  | .aaload => len == 1 && o.1 == 9
  | .arraylength => len == 1 && o.1 == 10
  | .getstatic x => len == 3 && (o.1 == 11 && zGS.any (fun e => e.1 == M.1 && e.2.1 == x))
  | .ineg => len == 1 && o.1 == 12
  | .i2b => len == 1 && o.1 == 13
  | .i2l => len == 1 && o.1 == 14
  | .lconst n => len == 1 && (o.1 == 15 && decide (Int64.ofNat (n : Nat) = o.2.2.2.2.toInt64))
  | .ldc2_w x => len == 3 && (o.1 == 15 && zCL.any (fun e => e.1 == M.1 && (e.2.1 == x && decide (e.2.2.1 = o.2.2.2.2))))
  | .lsub => len == 1 && o.1 == 16
  | .lcmp => len == 1 && o.1 == 17
  | .dup => len == 1 && o.1 == 18
  | .dup2 => len == 1 && o.1 == 19
  | .pop => len == 1 && o.1 == 20
  | .dup_x1 => len == 1 && o.1 == 21
  | .goto x => len == 3 && (o.1 == 22 && decide ((pc : Int) + x = (o.2.1 : Int)))
  | _ => false
def zall : List Prop → Prop
  | [] => True
  | p :: ps => p ∧ zall ps
theorem zPic_size {k : zKT} {h : zHp} {H H0 : Heap} {A : Nat → Prop} {locs : List Loc} (P : zPic k h H) (hB : k.1.1 ≤ H0.size) (S : va_S A H0 H locs) : k.1.1 + h.2.1 ≤ H.size := by
  rcases Nat.eq_zero_or_pos h.2.1 with h0 | h0
  · rw [h0]; exact Nat.le_trans hB S.1
  · have h1 := (P.1 (h.2.1 - 1) _ (zWs_get (by omega))).lt
    simp only at h1
    omega
theorem zlt {a n : Nat} (h1 : a < n) (h2 : n ≤ 98000) : a < 100000 := by omega
