/-! each op is what the machine does: printed by wip/whole/gen_steps.py -/
section
variable {M : zMT} {N : Nat} {Q : Option Value → zHp → Prop} {pc : Nat} {lv : zLv} {st : List Value} {h : zHp}
theorem zs_iconst {n : Int} {x : Int32} (hd : decode M.2.2.1 pc = .ok (.iconst n, 1)) (hx : Int32.ofInt n = x) (kk : zG M N Q (pc + 1) lv (.int x :: st) h) : zG M N Q pc lv (st) h := by
  intro k p l e R s m args below meth c H ls locs cells slots Qf C P S L Z F
  exact lv_iconst C.1 C.2.1 hd hx (kk k p l e R s m args below meth c H ls locs cells slots Qf C P S L Z F)
theorem zs_bipush {n : Int} {x : Int32} (hd : decode M.2.2.1 pc = .ok (.bipush n, 2)) (hx : (Int8.ofInt n).toInt32 = x) (kk : zG M N Q (pc + 2) lv (.int x :: st) h) : zG M N Q pc lv (st) h := by
  intro k p l e R s m args below meth c H ls locs cells slots Qf C P S L Z F
  exact lv_bipush C.1 C.2.1 hd hx (kk k p l e R s m args below meth c H ls locs cells slots Qf C P S L Z F)
theorem zs_sipush {n : Int} {x : Int32} (hd : decode M.2.2.1 pc = .ok (.sipush n, 3)) (hx : (Int16.ofInt n).toInt32 = x) (kk : zG M N Q (pc + 3) lv (.int x :: st) h) : zG M N Q pc lv (st) h := by
  intro k p l e R s m args below meth c H ls locs cells slots Qf C P S L Z F
  exact lv_sipush C.1 C.2.1 hd hx (kk k p l e R s m args below meth c H ls locs cells slots Qf C P S L Z F)
theorem zs_ldc {n : Nat} {x : Int32} (hd : decode M.2.2.1 pc = .ok (.ldc n, 2)) (hx : Cond.constant (zON M.1) n x ∈ zTbl) (kk : zG M N Q (pc + 2) lv (.int x :: st) h) : zG M N Q pc lv st h := by
  intro k p l e R s m args below meth c H ls locs cells slots Qf C P S L Z F
  exact lv_ldc C.1 C.2.1 C.2.2.2.2.1 (C.2.2.2.2.2.1 _ hx) hd (kk k p l e R s m args below meth c H ls locs cells slots Qf C P S L Z F)
theorem zs_ldc_w {n : Nat} {x : Int32} (hd : decode M.2.2.1 pc = .ok (.ldc_w n, 3)) (hx : Cond.constant (zON M.1) n x ∈ zTbl) (kk : zG M N Q (pc + 3) lv (.int x :: st) h) : zG M N Q pc lv st h := by
  intro k p l e R s m args below meth c H ls locs cells slots Qf C P S L Z F
  exact lv_ldcw C.1 C.2.1 C.2.2.2.2.1 (C.2.2.2.2.2.1 _ hx) hd (kk k p l e R s m args below meth c H ls locs cells slots Qf C P S L Z F)
theorem zs_lconst {n : Fin 2} {x : Int64} (hd : decode M.2.2.1 pc = .ok (.lconst n, 1)) (hx : Int64.ofNat (n : Nat) = x) (kk : zG M N Q (pc + 1) lv (.long x :: st) h) : zG M N Q pc lv (st) h := by
  intro k p l e R s m args below meth c H ls locs cells slots Qf C P S L Z F
  exact lv_lconst C.1 C.2.1 hd hx (kk k p l e R s m args below meth c H ls locs cells slots Qf C P S L Z F)
theorem zs_ldc2 {n : Nat} {x : Int64} (hd : decode M.2.2.1 pc = .ok (.ldc2_w n, 3)) (hx : Cond.constantLong (zON M.1) n x ∈ zTbl) (kk : zG M N Q (pc + 3) lv (.long x :: st) h) : zG M N Q pc lv st h := by
  intro k p l e R s m args below meth c H ls locs cells slots Qf C P S L Z F
  exact lv_ldc2 C.1 C.2.1 C.2.2.2.2.1 (C.2.2.2.2.2.1 _ hx) hd (kk k p l e R s m args below meth c H ls locs cells slots Qf C P S L Z F)
theorem zs_iload_n {j : Fin 4} {i : Nat} {x : Int32} (hd : decode M.2.2.1 pc = .ok (.iload_n j, 1)) (hj : (j : Nat) = i) (hv : zld lv i = some (.int x)) (kk : zG M N Q (pc + 1) lv (.int x :: st) h) : zG M N Q pc lv st h := by
  intro k p l e R s m args below meth c H ls locs cells slots Qf C P S L Z F
  exact lv_iload_n C.1 C.2.1 hd hj (zld_has L hv) (kk k p l e R s m args below meth c H ls locs cells slots Qf C P S L Z F)
theorem zs_iload {i : Nat} {x : Int32} (hd : decode M.2.2.1 pc = .ok (.iload i, 2)) (hv : zld lv i = some (.int x)) (kk : zG M N Q (pc + 2) lv (.int x :: st) h) : zG M N Q pc lv st h := by
  intro k p l e R s m args below meth c H ls locs cells slots Qf C P S L Z F
  exact lv_iload C.1 C.2.1 hd (zld_has L hv) (kk k p l e R s m args below meth c H ls locs cells slots Qf C P S L Z F)
theorem zs_aload_n {j : Fin 4} {i : Nat} {x : Nat} (hd : decode M.2.2.1 pc = .ok (.aload_n j, 1)) (hj : (j : Nat) = i) (hv : zld lv i = some (.ref x)) (kk : zG M N Q (pc + 1) lv (.ref x :: st) h) : zG M N Q pc lv st h := by
  intro k p l e R s m args below meth c H ls locs cells slots Qf C P S L Z F
  exact lv_aload_n C.1 C.2.1 hd hj (zld_has L hv) (kk k p l e R s m args below meth c H ls locs cells slots Qf C P S L Z F)
theorem zs_aload {i : Nat} {x : Nat} (hd : decode M.2.2.1 pc = .ok (.aload i, 2)) (hv : zld lv i = some (.ref x)) (kk : zG M N Q (pc + 2) lv (.ref x :: st) h) : zG M N Q pc lv st h := by
  intro k p l e R s m args below meth c H ls locs cells slots Qf C P S L Z F
  exact lv_aload C.1 C.2.1 hd (zld_has L hv) (kk k p l e R s m args below meth c H ls locs cells slots Qf C P S L Z F)
theorem zs_lload_n {j : Fin 4} {i : Nat} {x : Int64} (hd : decode M.2.2.1 pc = .ok (.lload_n j, 1)) (hj : (j : Nat) = i) (hv : zld lv i = some (.long x)) (kk : zG M N Q (pc + 1) lv (.long x :: st) h) : zG M N Q pc lv st h := by
  intro k p l e R s m args below meth c H ls locs cells slots Qf C P S L Z F
  exact lv_lload_n C.1 C.2.1 hd hj (zld_has L hv) (kk k p l e R s m args below meth c H ls locs cells slots Qf C P S L Z F)
theorem zs_lload {i : Nat} {x : Int64} (hd : decode M.2.2.1 pc = .ok (.lload i, 2)) (hv : zld lv i = some (.long x)) (kk : zG M N Q (pc + 2) lv (.long x :: st) h) : zG M N Q pc lv st h := by
  intro k p l e R s m args below meth c H ls locs cells slots Qf C P S L Z F
  exact lv_lload C.1 C.2.1 hd (zld_has L hv) (kk k p l e R s m args below meth c H ls locs cells slots Qf C P S L Z F)
theorem zs_istore_n {j : Fin 4} {i : Nat} {x : Int32} (hd : decode M.2.2.1 pc = .ok (.istore_n j, 1)) (hj : (j : Nat) = i) (hi : i < M.2.2.2.1) (kk : zG M N Q (pc + 1) (zst1 lv i (.int x)) st h) : zG M N Q pc lv (.int x :: st) h := by
  intro k p l e R s m args below meth c H ls locs cells slots Qf C P S L Z F
  exact lv_istore_n C.1 C.2.1 hd hj L hi (zst1_map k lv i (.int x)) (fun ls hl => kk k p l e R s m args below meth c H ls locs cells slots Qf C P S hl Z F)
theorem zs_istore {i : Nat} {x : Int32} (hd : decode M.2.2.1 pc = .ok (.istore i, 2)) (hi : i < M.2.2.2.1) (kk : zG M N Q (pc + 2) (zst1 lv i (.int x)) st h) : zG M N Q pc lv (.int x :: st) h := by
  intro k p l e R s m args below meth c H ls locs cells slots Qf C P S L Z F
  exact lv_istore C.1 C.2.1 hd L hi (zst1_map k lv i (.int x)) (fun ls hl => kk k p l e R s m args below meth c H ls locs cells slots Qf C P S hl Z F)
theorem zs_astore_n {j : Fin 4} {i : Nat} {x : Nat} (hd : decode M.2.2.1 pc = .ok (.astore_n j, 1)) (hj : (j : Nat) = i) (hi : i < M.2.2.2.1) (kk : zG M N Q (pc + 1) (zst1 lv i (.ref x)) st h) : zG M N Q pc lv (.ref x :: st) h := by
  intro k p l e R s m args below meth c H ls locs cells slots Qf C P S L Z F
  exact lv_astore_n C.1 C.2.1 hd hj L hi (zst1_map k lv i (.ref x)) (fun ls hl => kk k p l e R s m args below meth c H ls locs cells slots Qf C P S hl Z F)
theorem zs_astore {i : Nat} {x : Nat} (hd : decode M.2.2.1 pc = .ok (.astore i, 2)) (hi : i < M.2.2.2.1) (kk : zG M N Q (pc + 2) (zst1 lv i (.ref x)) st h) : zG M N Q pc lv (.ref x :: st) h := by
  intro k p l e R s m args below meth c H ls locs cells slots Qf C P S L Z F
  exact lv_astore C.1 C.2.1 hd L hi (zst1_map k lv i (.ref x)) (fun ls hl => kk k p l e R s m args below meth c H ls locs cells slots Qf C P S hl Z F)
theorem zld_at {k : zKT} {lv : zLv} {i : Nat} {v : Value} (hv : zld lv i = some v) : ∃ j : Nat, (lv.map (zvp k))[j]? = some (i, zv k v) := by
  unfold zld at hv
  cases hf : lv.find? (fun q => q.1 == i) with
  | none => rw [hf] at hv; cases hv
  | some q =>
    rw [hf] at hv
    have hm := List.mem_of_find?_eq_some hf
    have hq := List.find?_some hf
    have hq : q.1 = i := by simpa using hq
    cases hv
    obtain ⟨j, hj⟩ := List.getElem?_of_mem hm
    exact ⟨j, by rw [List.getElem?_map, hj]; simp [zvp, hq]⟩
theorem zs_iinc {i : Nat} {n : Int} {x y : Int32} (hd : decode M.2.2.1 pc = .ok (.iinc i n, 3)) (hx : Int32.ofInt n = x) (hi : i < M.2.2.2.1) (hv : zld lv i = some (.int y)) (kk : zG M N Q (pc + 3) (zst1 lv i (.int (y + x))) st h) : zG M N Q pc lv st h := by
  intro k p l e R s m args below meth c H ls locs cells slots Qf C P S L Z F
  subst hx
  obtain ⟨j, hj⟩ := zld_at (k := k) hv
  exact lv_iinc C.1 C.2.1 hd L hj rfl hi (zst1_map k lv i (.int (y + Int32.ofInt n))) (fun ls hl => kk k p l e R s m args below meth c H ls locs cells slots Qf C P S hl Z F)
theorem zs_iadd {x y : Int32} (hd : decode M.2.2.1 pc = .ok (.iadd, 1))  (kk : zG M N Q (pc + 1) lv (.int (x + y) :: st) h) : zG M N Q pc lv (.int y :: .int x :: st) h := by
  intro k p l e R s m args below meth c H ls locs cells slots Qf C P S L Z F
  exact lv_iadd C.1 C.2.1 hd  (kk k p l e R s m args below meth c H ls locs cells slots Qf C P S L Z F)
theorem zs_isub {x y : Int32} (hd : decode M.2.2.1 pc = .ok (.isub, 1))  (kk : zG M N Q (pc + 1) lv (.int (x - y) :: st) h) : zG M N Q pc lv (.int y :: .int x :: st) h := by
  intro k p l e R s m args below meth c H ls locs cells slots Qf C P S L Z F
  exact lv_isub C.1 C.2.1 hd  (kk k p l e R s m args below meth c H ls locs cells slots Qf C P S L Z F)
theorem zs_imul {x y : Int32} (hd : decode M.2.2.1 pc = .ok (.imul, 1))  (kk : zG M N Q (pc + 1) lv (.int (x * y) :: st) h) : zG M N Q pc lv (.int y :: .int x :: st) h := by
  intro k p l e R s m args below meth c H ls locs cells slots Qf C P S L Z F
  exact lv_imul C.1 C.2.1 hd  (kk k p l e R s m args below meth c H ls locs cells slots Qf C P S L Z F)
theorem zs_iand {x y : Int32} (hd : decode M.2.2.1 pc = .ok (.iand, 1))  (kk : zG M N Q (pc + 1) lv (.int (x &&& y) :: st) h) : zG M N Q pc lv (.int y :: .int x :: st) h := by
  intro k p l e R s m args below meth c H ls locs cells slots Qf C P S L Z F
  exact lv_iand C.1 C.2.1 hd  (kk k p l e R s m args below meth c H ls locs cells slots Qf C P S L Z F)
theorem zs_ior {x y : Int32} (hd : decode M.2.2.1 pc = .ok (.ior, 1))  (kk : zG M N Q (pc + 1) lv (.int (x ||| y) :: st) h) : zG M N Q pc lv (.int y :: .int x :: st) h := by
  intro k p l e R s m args below meth c H ls locs cells slots Qf C P S L Z F
  exact lv_ior C.1 C.2.1 hd  (kk k p l e R s m args below meth c H ls locs cells slots Qf C P S L Z F)
theorem zs_ixor {x y : Int32} (hd : decode M.2.2.1 pc = .ok (.ixor, 1))  (kk : zG M N Q (pc + 1) lv (.int (x ^^^ y) :: st) h) : zG M N Q pc lv (.int y :: .int x :: st) h := by
  intro k p l e R s m args below meth c H ls locs cells slots Qf C P S L Z F
  exact lv_ixor C.1 C.2.1 hd  (kk k p l e R s m args below meth c H ls locs cells slots Qf C P S L Z F)
theorem zs_ishl {x y : Int32} (hd : decode M.2.2.1 pc = .ok (.ishl, 1))  (kk : zG M N Q (pc + 1) lv (.int (x <<< (y &&& 31)) :: st) h) : zG M N Q pc lv (.int y :: .int x :: st) h := by
  intro k p l e R s m args below meth c H ls locs cells slots Qf C P S L Z F
  exact lv_ishl C.1 C.2.1 hd  (kk k p l e R s m args below meth c H ls locs cells slots Qf C P S L Z F)
theorem zs_ishr {x y : Int32} (hd : decode M.2.2.1 pc = .ok (.ishr, 1))  (kk : zG M N Q (pc + 1) lv (.int (x >>> (y &&& 31)) :: st) h) : zG M N Q pc lv (.int y :: .int x :: st) h := by
  intro k p l e R s m args below meth c H ls locs cells slots Qf C P S L Z F
  exact lv_ishr C.1 C.2.1 hd  (kk k p l e R s m args below meth c H ls locs cells slots Qf C P S L Z F)
theorem zs_iushr {x y : Int32} (hd : decode M.2.2.1 pc = .ok (.iushr, 1))  (kk : zG M N Q (pc + 1) lv (.int ((x.toUInt32 >>> (y.toUInt32 &&& Int32.toUInt32 31)).toInt32) :: st) h) : zG M N Q pc lv (.int y :: .int x :: st) h := by
  intro k p l e R s m args below meth c H ls locs cells slots Qf C P S L Z F
  exact lv_iushr C.1 C.2.1 hd rfl (kk k p l e R s m args below meth c H ls locs cells slots Qf C P S L Z F)
theorem zs_idiv {x y : Int32} (hd : decode M.2.2.1 pc = .ok (.idiv, 1)) (hy : ¬ y = 0) (kk : zG M N Q (pc + 1) lv (.int (x / y) :: st) h) : zG M N Q pc lv (.int y :: .int x :: st) h := by
  intro k p l e R s m args below meth c H ls locs cells slots Qf C P S L Z F
  exact lv_idiv C.1 C.2.1 hd hy (kk k p l e R s m args below meth c H ls locs cells slots Qf C P S L Z F)
theorem zs_irem {x y : Int32} (hd : decode M.2.2.1 pc = .ok (.irem, 1)) (hy : ¬ y = 0) (kk : zG M N Q (pc + 1) lv (.int (x - x / y * y) :: st) h) : zG M N Q pc lv (.int y :: .int x :: st) h := by
  intro k p l e R s m args below meth c H ls locs cells slots Qf C P S L Z F
  exact lv_irem C.1 C.2.1 hd hy (kk k p l e R s m args below meth c H ls locs cells slots Qf C P S L Z F)
theorem zs_ineg {x : Int32} (hd : decode M.2.2.1 pc = .ok (.ineg, 1))  (kk : zG M N Q (pc + 1) lv (.int (-x) :: st) h) : zG M N Q pc lv (.int x :: st) h := by
  intro k p l e R s m args below meth c H ls locs cells slots Qf C P S L Z F
  exact lv_ineg C.1 C.2.1 hd  (kk k p l e R s m args below meth c H ls locs cells slots Qf C P S L Z F)
theorem zs_i2b {x : Int32} (hd : decode M.2.2.1 pc = .ok (.i2b, 1))  (kk : zG M N Q (pc + 1) lv (.int x.toInt8.toInt32 :: st) h) : zG M N Q pc lv (.int x :: st) h := by
  intro k p l e R s m args below meth c H ls locs cells slots Qf C P S L Z F
  exact lv_i2b C.1 C.2.1 hd rfl (kk k p l e R s m args below meth c H ls locs cells slots Qf C P S L Z F)
theorem zs_i2l {x : Int32} (hd : decode M.2.2.1 pc = .ok (.i2l, 1))  (kk : zG M N Q (pc + 1) lv (.long x.toInt64 :: st) h) : zG M N Q pc lv (.int x :: st) h := by
  intro k p l e R s m args below meth c H ls locs cells slots Qf C P S L Z F
  exact lv_i2l C.1 C.2.1 hd rfl (kk k p l e R s m args below meth c H ls locs cells slots Qf C P S L Z F)
theorem zs_lsub {x y : Int64} (hd : decode M.2.2.1 pc = .ok (.lsub, 1))  (kk : zG M N Q (pc + 1) lv (.long (x - y) :: st) h) : zG M N Q pc lv (.long y :: .long x :: st) h := by
  intro k p l e R s m args below meth c H ls locs cells slots Qf C P S L Z F
  exact lv_lsub C.1 C.2.1 hd  (kk k p l e R s m args below meth c H ls locs cells slots Qf C P S L Z F)
theorem zs_lcmp {x y : Int64} (hd : decode M.2.2.1 pc = .ok (.lcmp, 1))  (kk : zG M N Q (pc + 1) lv (.int (lg_cmp x y) :: st) h) : zG M N Q pc lv (.long y :: .long x :: st) h := by
  intro k p l e R s m args below meth c H ls locs cells slots Qf C P S L Z F
  exact W.lcmp C.1 C.2.1 hd  (kk k p l e R s m args below meth c H ls locs cells slots Qf C P S L Z F)
theorem zs_dup_i {x : Int32} (hd : decode M.2.2.1 pc = .ok (.dup, 1))  (kk : zG M N Q (pc + 1) lv (.int x :: .int x :: st) h) : zG M N Q pc lv (.int x :: st) h := by
  intro k p l e R s m args below meth c H ls locs cells slots Qf C P S L Z F
  exact lv_dup C.1 C.2.1 hd rfl (kk k p l e R s m args below meth c H ls locs cells slots Qf C P S L Z F)
theorem zs_dup_r {x : Nat} (hd : decode M.2.2.1 pc = .ok (.dup, 1))  (kk : zG M N Q (pc + 1) lv (.ref x :: .ref x :: st) h) : zG M N Q pc lv (.ref x :: st) h := by
  intro k p l e R s m args below meth c H ls locs cells slots Qf C P S L Z F
  exact lv_dup C.1 C.2.1 hd rfl (kk k p l e R s m args below meth c H ls locs cells slots Qf C P S L Z F)
theorem zs_dup2 {x : Int32} {y : Nat} (hd : decode M.2.2.1 pc = .ok (.dup2, 1))  (kk : zG M N Q (pc + 1) lv (.int x :: .ref y :: .int x :: .ref y :: st) h) : zG M N Q pc lv (.int x :: .ref y :: st) h := by
  intro k p l e R s m args below meth c H ls locs cells slots Qf C P S L Z F
  exact lv_dup2_11 C.1 C.2.1 hd rfl rfl (kk k p l e R s m args below meth c H ls locs cells slots Qf C P S L Z F)
theorem zs_dup_x1 {x : Int32} {y : Nat} (hd : decode M.2.2.1 pc = .ok (.dup_x1, 1))  (kk : zG M N Q (pc + 1) lv (.int x :: .ref y :: .int x :: st) h) : zG M N Q pc lv (.int x :: .ref y :: st) h := by
  intro k p l e R s m args below meth c H ls locs cells slots Qf C P S L Z F
  exact lv_dup_x1 C.1 C.2.1 hd rfl rfl (kk k p l e R s m args below meth c H ls locs cells slots Qf C P S L Z F)
theorem zs_pop {x : Int32} (hd : decode M.2.2.1 pc = .ok (.pop, 1))  (kk : zG M N Q (pc + 1) lv (st) h) : zG M N Q pc lv (.int x :: st) h := by
  intro k p l e R s m args below meth c H ls locs cells slots Qf C P S L Z F
  exact lv_pop C.1 C.2.1 hd rfl (kk k p l e R s m args below meth c H ls locs cells slots Qf C P S L Z F)
theorem zs_goto {off : Int} {tgt : Nat} (hd : decode M.2.2.1 pc = .ok (.goto off, 3)) (ht : (pc : Int) + off = (tgt : Int)) (kk : zG M N Q tgt lv st h) : zG M N Q pc lv st h := by
  intro k p l e R s m args below meth c H ls locs cells slots Qf C P S L Z F
  exact lv_goto C.1 C.2.1 hd ht (kk k p l e R s m args below meth c H ls locs cells slots Qf C P S L Z F)
end
theorem zCls_get : ∀ c, c < 11 → zCls[c]? = some (zCN c) := by
  intro c hc
  rw [zCN, List.getD_eq_getElem?_getD]
  have : c < zCls.length := hc
  rw [List.getElem?_eq_getElem this]
  rfl
theorem zCls_in0 : ∀ c, c < 11 → ∀ w ∈ u_ws (zCN c).1 (zCN c).2.1 (zCN c).2.2, w ∈ lw_tbl := by
  intro c hc
  match c, hc with
  | 0, _ => exact zin0
  | 1, _ => exact zin1
  | 2, _ => exact zin2
  | 3, _ => exact zin3
  | 4, _ => exact zin4
  | 5, _ => exact zin5
  | 6, _ => exact zin6
  | 7, _ => exact zin7
  | 8, _ => exact zin8
  | 9, _ => exact zin9
  | 10, _ => exact zin10
theorem zCls_in : ∀ c, c < 11 → ∀ w ∈ u_ws (zCN c).1 (zCN c).2.1 (zCN c).2.2, w ∈ zTbl := by
  intro c hc w hw
  refine zTbl_of (zCls_in0 c hc w hw) ?_
  obtain ⟨k, -, rfl⟩ := List.mem_map.mp hw
  unfold u_lay
  split <;> rfl
theorem zCls_ty : ∀ c, c < 11 → ∃ ty : Nat → FieldType, ∀ k, k < (zCN c).2.2 → parseFieldDescriptor ((zCN c).2.1 k).2.2.1 = some (ty k) := by
  intro c hc
  match c, hc with
  | 0, _ => exact ⟨_, zty0⟩
  | 1, _ => exact ⟨_, zty1⟩
  | 2, _ => exact ⟨_, zty2⟩
  | 3, _ => exact ⟨_, zty3⟩
  | 4, _ => exact ⟨_, zty4⟩
  | 5, _ => exact ⟨_, zty5⟩
  | 6, _ => exact ⟨_, zty6⟩
  | 7, _ => exact ⟨_, zty7⟩
  | 8, _ => exact ⟨_, zty8⟩
  | 9, _ => exact ⟨_, zty9⟩
  | 10, _ => exact ⟨_, zty10⟩
theorem zCls_nm : ∀ c, c < 11 → ∀ a, a < (zCN c).2.2 → ∀ b, b < (zCN c).2.2 → a ≠ b → ((zCN c).2.1 a).2.1 ≠ ((zCN c).2.1 b).2.1 := by
  intro c hc
  match c, hc with
  | 0, _ => exact znm0
  | 1, _ => exact znm1
  | 2, _ => exact znm2
  | 3, _ => exact znm3
  | 4, _ => exact znm4
  | 5, _ => exact znm5
  | 6, _ => exact znm6
  | 7, _ => exact znm7
  | 8, _ => exact znm8
  | 9, _ => exact znm9
  | 10, _ => exact znm10
theorem zCls_fk : ∀ c, c < 11 → (zFk c).length = (zCN c).2.2 := by decide +kernel
theorem zCls_fin : ∀ c, c < 11 → ∀ j, j < (zCN c).2.2 → (((zCN c).2.1 j).2.2.2 = true ↔ ¬ (zFk c).getD j 0 = 0) := by decide +kernel
theorem zFL_mem {oc x c j : Nat} (h : zFL.any (fun e => e.1 == oc && (e.2.1 == x && (e.2.2.1 == c && e.2.2.2.1 == j))) = true) : c < 11 ∧ j < (zCN c).2.2 ∧ Cond.fieldLink (zON oc) x ((zCN c).2.1 j).1 ((zCN c).2.1 j).2.1 ((zCN c).2.1 j).2.2.1 ∈ zTbl := by
  obtain ⟨e, he, hq⟩ := List.any_eq_true.mp h
  have h1 := List.all_eq_true.mp zFL_ok e he
  simp only [Bool.and_eq_true, beq_iff_eq, decide_eq_true_eq] at hq h1
  obtain ⟨rfl, rfl, rfl, rfl⟩ := hq
  exact ⟨h1.1.2, h1.2, zTbl_of (List.mem_append_right _ (List.mem_of_getElem? h1.1.1)) rfl⟩
theorem zCI_mem {oc n : Nat} {x : Int32} (h : zCI.any (fun e => e.1 == oc && (e.2.1 == n && decide (e.2.2.1 = x))) = true) : Cond.constant (zON oc) n x ∈ zTbl := by
  obtain ⟨e, he, hq⟩ := List.any_eq_true.mp h
  have h1 := List.all_eq_true.mp zCI_ok e he
  simp only [Bool.and_eq_true, beq_iff_eq, decide_eq_true_eq] at hq h1
  obtain ⟨rfl, rfl, rfl⟩ := hq
  exact zTbl_of (List.mem_append_right _ (List.mem_of_getElem? h1)) rfl
theorem zCL_mem {oc n : Nat} {x : Int32} (h : zCL.any (fun e => e.1 == oc && (e.2.1 == n && decide (e.2.2.1 = x))) = true) : Cond.constantLong (zON oc) n x.toInt64 ∈ zTbl := by
  obtain ⟨e, he, hq⟩ := List.any_eq_true.mp h
  have h1 := List.all_eq_true.mp zCL_ok e he
  simp only [Bool.and_eq_true, beq_iff_eq, decide_eq_true_eq] at hq h1
  obtain ⟨rfl, rfl, rfl⟩ := hq
  exact zTbl_of (List.mem_append_right _ (List.mem_of_getElem? h1)) rfl
theorem zGS_ns : zGS.all (fun e => decide (Cond.fieldLinkNest (zON e.1) e.2.1 "StyledRuns" "MARK_SIGNS" "[I" "StyledRuns" ∈ zNs)) = true := by decide +kernel
theorem zGS_mem {oc n : Nat} (h : zGS.any (fun e => e.1 == oc && e.2.1 == n) = true) : Cond.fieldLinkNest (zON oc) n "StyledRuns" "MARK_SIGNS" "[I" "StyledRuns" ∈ zNs := by
  obtain ⟨e, he, hq⟩ := List.any_eq_true.mp h
  have h1 := List.all_eq_true.mp zGS_ns e he
  simp only [Bool.and_eq_true, beq_iff_eq, decide_eq_true_eq] at hq h1
  obtain ⟨rfl, rfl⟩ := hq
  exact h1
theorem zad_lt {k : zKT} {a : Nat} (h : a < 100000) : zad k a = k.1.1 + a := if_pos h
section
variable {M : zMT} {N : Nat} {Q : Option Value → zHp → Prop} {pc : Nat} {lv : zLv} {st : List Value} {h : zHp}
theorem zs_getfield {x c j o : Nat} {a : Nat} {v : Value} (hd : decode M.2.2.1 pc = .ok (.getfield x, 3)) (hf : zFL.any (fun e => e.1 == M.1 && (e.2.1 == x && (e.2.2.1 == c && e.2.2.2.1 == j))) = true) (ho : zOb h a c)
    (hv : ∀ k : zKT, (if (zFk c).getD j 0 = 0 then Value.int (h.1 a (nI j)) else if h.2.2 a j = true then .ref (k.1.1 + (a + (zFk c).getD j 0)) else .null) = zv k v) (kk : zG M N Q (pc + 3) lv (v :: st) h) : zG M N Q pc lv (.ref a :: st) h := by
  intro k p l e R s m args below meth c0 H ls locs cells slots Qf C P S L Z F
  obtain ⟨hc, hj, hl⟩ := zFL_mem hf
  have ha := zad_lt (k := k) (a := a) (zlt ho.1 P.2.1)
  show W p l e R s m args below meth c0 H locs cells slots Qf (F0 m pc ls (.ref (zad k a) :: st.map (zv k)))
  rw [ha]
  exact va_get (D := k.2.1) (ci := c) (C := (zCN c).1) (T := (zCN c).2.1) (N := (zCN c).2.2) C.1 C.2.1 C.2.2.2.2.2.1 (zCls_in c hc) C.2.2.2.2.1 C.2.2.2.2.2.2.2.2.2.2.1 P.1 a (by rw [zWs_get ho.1, zE_0 ho.2]) (zCls_get c hc) j hj (C.2.2.2.2.2.1 _ hl) (fun _ h9 => h9) (v := zv k v) (by rw [zFs_get (by rw [zCls_fk c hc]; exact hj), hv k]) hd (kk k p l e R s m args below meth c0 H ls locs cells slots Qf C P S L Z F)
theorem zs_putfield {x c j : Nat} {a : Nat} {ty : FieldType} {y : Int32} (hd : decode M.2.2.1 pc = .ok (.putfield x, 3)) (hf : zFL.any (fun e => e.1 == M.1 && (e.2.1 == x && (e.2.2.1 == c && e.2.2.2.1 == j))) = true) (h0 : (zFk c).getD j 0 = 0) (ho : zOb h a c)
    (hty : parseFieldDescriptor ((zCN c).2.1 j).2.2.1 = some ty) (hn : narrow ty (.int y) = .int y) (hfit : fits ty (.int y) = true) (kk : zG M N Q (pc + 3) lv st (zup h.1 a (nI j) y, h.2)) : zG M N Q pc lv (.int y :: .ref a :: st) h := by
  intro k p l e R s m args below meth c0 H ls locs cells slots Qf C P S L Z F
  obtain ⟨hc, hj, hl⟩ := zFL_mem hf
  have hj2 : j < (zFk c).length := by rw [zCls_fk c hc]; exact hj
  have ha := zad_lt (k := k) (a := a) (zlt ho.1 P.2.1)
  show W p l e R s m args below meth c0 H locs cells slots Qf (F0 m pc ls (.int y :: .ref (zad k a) :: st.map (zv k)))
  rw [ha]
  obtain ⟨t0, ht0⟩ := zCls_ty c hc
  have hfin : ((zCN c).2.1 j).2.2.2 = false := by
    cases hq : ((zCN c).2.1 j).2.2.2 with
    | false => rfl
    | true => exact absurd h0 ((zCls_fin c hc j hj).mp hq)
  refine va_put (D := k.2.1) (ci := c) (C := (zCN c).1) (T := (zCN c).2.1) (N := (zCN c).2.2) (v := .int y) (ty := ty) C.1 C.2.1 C.2.2.2.2.2.1 (zCls_in c hc) t0 ht0 (zCls_nm c hc) C.2.2.2.2.1 C.2.2.2.2.2.2.2.2.2.2.1 P.1 zWs_D S a (by rw [zWs_get ho.1, zE_0 ho.2]) (zCls_get c hc) j hj (C.2.2.2.2.2.1 _ hl) (fun _ h9 => h9) hfin hty hn hfit (by rw [zFs_len]; exact hj2) hd (fun H1 locs1 hP1 _ hS1 => ?_)
  have P1 : zPic k (zup h.1 a (nI j) y, h.2) H1 := zPic_up P ho.1 (by rw [zE_0 ho.2, zFs_set hj2 h0]) hP1
  exact kk k p l e R s m args below meth c0 H1 ls locs1 cells slots Qf C P1 hS1 L Z F
end
