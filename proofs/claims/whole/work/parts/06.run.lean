/-! an op, a run of ops: printed by wip/whole/gen_run.py -/
section
variable {M : zMT} {N : Nat} {Q : Option Value → zHp → Prop} {pc : Nat} {lv : zLv} {st : List Value} {h : zHp}
set_option maxHeartbeats 4000000 in
theorem zstep_ok {o : zop} {i : Instr} {len : Nat} {lv' : zLv} {st' : List Value} {h' : zHp} {Ps : List Prop} (hd : decode M.2.2.1 pc = .ok (i, len)) (hm : zmat M i len pc o = true) (hs : zstep o lv st h = some (lv', st', h', Ps)) (hP : zall Ps) (kk : zG M N Q (znext o pc len) lv' st' h') : zG M N Q pc lv st h := by
  obtain ⟨o1, o2, o3, o4, x⟩ := o
  unfold zmat at hm
  split at hm
  next n => 
    simp only [Bool.and_eq_true, beq_iff_eq, decide_eq_true_eq] at hm
    obtain ⟨rfl, rfl, hx⟩ := hm
    simp only [zstep] at hs
    simp only [Option.some.injEq, Prod.mk.injEq] at hs; obtain ⟨rfl, rfl, rfl, rfl⟩ := hs
    exact zs_iconst hd hx kk
  next n => 
    simp only [Bool.and_eq_true, beq_iff_eq, decide_eq_true_eq] at hm
    obtain ⟨rfl, rfl, hx⟩ := hm
    simp only [zstep] at hs
    simp only [Option.some.injEq, Prod.mk.injEq] at hs; obtain ⟨rfl, rfl, rfl, rfl⟩ := hs
    exact zs_bipush hd hx kk
  next n => 
    simp only [Bool.and_eq_true, beq_iff_eq, decide_eq_true_eq] at hm
    obtain ⟨rfl, rfl, hx⟩ := hm
    simp only [zstep] at hs
    simp only [Option.some.injEq, Prod.mk.injEq] at hs; obtain ⟨rfl, rfl, rfl, rfl⟩ := hs
    exact zs_sipush hd hx kk
  next n =>
    rw [Bool.and_eq_true, Bool.and_eq_true] at hm
    obtain ⟨h1, h2, hx⟩ := hm
    obtain rfl := beq_iff_eq.mp h1
    obtain rfl := beq_iff_eq.mp h2
    simp only [zstep] at hs
    simp only [Option.some.injEq, Prod.mk.injEq] at hs; obtain ⟨rfl, rfl, rfl, rfl⟩ := hs
    exact zs_ldc hd (zCI_mem hx) kk
  next n =>
    rw [Bool.and_eq_true, Bool.and_eq_true] at hm
    obtain ⟨h1, h2, hx⟩ := hm
    obtain rfl := beq_iff_eq.mp h1
    obtain rfl := beq_iff_eq.mp h2
    simp only [zstep] at hs
    simp only [Option.some.injEq, Prod.mk.injEq] at hs; obtain ⟨rfl, rfl, rfl, rfl⟩ := hs
    exact zs_ldc_w hd (zCI_mem hx) kk
  next j =>
    simp only [Bool.and_eq_true, beq_iff_eq, decide_eq_true_eq] at hm
    obtain ⟨rfl, rfl, rfl, hj⟩ := hm
    simp only [zstep] at hs
    split at hs <;> first | (cases hs; done) | (simp only [Option.some.injEq, Prod.mk.injEq] at hs; obtain ⟨rfl, rfl, rfl, rfl⟩ := hs; rename_i hv; exact zs_iload_n hd hj hv kk) | (rename_i q _ _ _; exact absurd q (by decide)) | (simp at *; done)
  next j =>
    simp only [Bool.and_eq_true, beq_iff_eq, decide_eq_true_eq] at hm
    obtain ⟨rfl, rfl, rfl, hj⟩ := hm
    simp only [zstep] at hs
    subst hj
    split at hs <;> first | (cases hs; done) | (simp only [Option.some.injEq, Prod.mk.injEq] at hs; obtain ⟨rfl, rfl, rfl, rfl⟩ := hs; rename_i hv; exact zs_iload hd hv kk) | (rename_i q _ _ _; exact absurd q (by decide)) | (simp at *; done)
  next j =>
    simp only [Bool.and_eq_true, beq_iff_eq, decide_eq_true_eq] at hm
    obtain ⟨rfl, rfl, rfl, hj⟩ := hm
    simp only [zstep] at hs
    split at hs <;> first | (cases hs; done) | (simp only [Option.some.injEq, Prod.mk.injEq] at hs; obtain ⟨rfl, rfl, rfl, rfl⟩ := hs; rename_i hv; exact zs_aload_n hd hj hv kk) | (rename_i q _ _ _; exact absurd q (by decide)) | (simp at *; done)
  next j =>
    simp only [Bool.and_eq_true, beq_iff_eq, decide_eq_true_eq] at hm
    obtain ⟨rfl, rfl, rfl, hj⟩ := hm
    simp only [zstep] at hs
    subst hj
    split at hs <;> first | (cases hs; done) | (simp only [Option.some.injEq, Prod.mk.injEq] at hs; obtain ⟨rfl, rfl, rfl, rfl⟩ := hs; rename_i hv; exact zs_aload hd hv kk) | (rename_i q _ _ _; exact absurd q (by decide)) | (simp at *; done)
  next j =>
    simp only [Bool.and_eq_true, beq_iff_eq, decide_eq_true_eq] at hm
    obtain ⟨rfl, rfl, rfl, hj⟩ := hm
    simp only [zstep] at hs
    split at hs <;> first | (cases hs; done) | (simp only [Option.some.injEq, Prod.mk.injEq] at hs; obtain ⟨rfl, rfl, rfl, rfl⟩ := hs; rename_i hv; exact zs_lload_n hd hj hv kk) | (rename_i q _ _ _; exact absurd q (by decide)) | (simp at *; done)
  next j =>
    simp only [Bool.and_eq_true, beq_iff_eq, decide_eq_true_eq] at hm
    obtain ⟨rfl, rfl, rfl, hj⟩ := hm
    simp only [zstep] at hs
    subst hj
    split at hs <;> first | (cases hs; done) | (simp only [Option.some.injEq, Prod.mk.injEq] at hs; obtain ⟨rfl, rfl, rfl, rfl⟩ := hs; rename_i hv; exact zs_lload hd hv kk) | (rename_i q _ _ _; exact absurd q (by decide)) | (simp at *; done)
  next j =>
    simp only [Bool.and_eq_true, beq_iff_eq, decide_eq_true_eq] at hm
    obtain ⟨rfl, rfl, rfl, hj, hl⟩ := hm
    simp only [zstep] at hs
    split at hs <;> first | (cases hs; done) | (simp only [Option.some.injEq, Prod.mk.injEq] at hs; obtain ⟨rfl, rfl, rfl, rfl⟩ := hs; exact zs_istore_n hd hj hl kk) | (simp at *; done)
  next j =>
    simp only [Bool.and_eq_true, beq_iff_eq, decide_eq_true_eq] at hm
    obtain ⟨rfl, rfl, rfl, hj, hl⟩ := hm
    simp only [zstep] at hs
    subst hj
    split at hs <;> first | (cases hs; done) | (simp only [Option.some.injEq, Prod.mk.injEq] at hs; obtain ⟨rfl, rfl, rfl, rfl⟩ := hs; exact zs_istore hd hl kk) | (simp at *; done)
  next j =>
    simp only [Bool.and_eq_true, beq_iff_eq, decide_eq_true_eq] at hm
    obtain ⟨rfl, rfl, rfl, hj, hl⟩ := hm
    simp only [zstep] at hs
    split at hs <;> first | (cases hs; done) | (simp only [Option.some.injEq, Prod.mk.injEq] at hs; obtain ⟨rfl, rfl, rfl, rfl⟩ := hs; exact zs_astore_n hd hj hl kk) | (simp at *; done)
  next j =>
    simp only [Bool.and_eq_true, beq_iff_eq, decide_eq_true_eq] at hm
    obtain ⟨rfl, rfl, rfl, hj, hl⟩ := hm
    simp only [zstep] at hs
    subst hj
    split at hs <;> first | (cases hs; done) | (simp only [Option.some.injEq, Prod.mk.injEq] at hs; obtain ⟨rfl, rfl, rfl, rfl⟩ := hs; exact zs_astore hd hl kk) | (simp at *; done)
  next j n =>
    simp only [Bool.and_eq_true, beq_iff_eq, decide_eq_true_eq] at hm
    obtain ⟨rfl, rfl, hx, hj, hl⟩ := hm
    subst hj
    simp only [zstep] at hs
    split at hs <;> first | (cases hs; done) | (simp only [Option.some.injEq, Prod.mk.injEq] at hs; obtain ⟨rfl, rfl, rfl, rfl⟩ := hs; rename_i hv; exact zs_iinc hd hx hl hv kk)
  next =>
    simp only [Bool.and_eq_true, beq_iff_eq, decide_eq_true_eq] at hm
    obtain ⟨rfl, rfl, rfl⟩ := hm
    simp only [zstep] at hs
    split at hs <;> first | (cases hs; done) | (simp only [Option.some.injEq, Prod.mk.injEq] at hs; obtain ⟨rfl, rfl, rfl, rfl⟩ := hs; exact zs_iadd hd kk)
  next =>
    simp only [Bool.and_eq_true, beq_iff_eq, decide_eq_true_eq] at hm
    obtain ⟨rfl, rfl, rfl⟩ := hm
    simp only [zstep] at hs
    split at hs <;> first | (cases hs; done) | (simp only [Option.some.injEq, Prod.mk.injEq] at hs; obtain ⟨rfl, rfl, rfl, rfl⟩ := hs; exact zs_isub hd kk)
  next =>
    simp only [Bool.and_eq_true, beq_iff_eq, decide_eq_true_eq] at hm
    obtain ⟨rfl, rfl, rfl⟩ := hm
    simp only [zstep] at hs
    split at hs <;> first | (cases hs; done) | (simp only [Option.some.injEq, Prod.mk.injEq] at hs; obtain ⟨rfl, rfl, rfl, rfl⟩ := hs; exact zs_imul hd kk)
  next =>
    simp only [Bool.and_eq_true, beq_iff_eq, decide_eq_true_eq] at hm
    obtain ⟨rfl, rfl, rfl⟩ := hm
    simp only [zstep] at hs
    split at hs <;> first | (cases hs; done) | (simp only [Option.some.injEq, Prod.mk.injEq] at hs; obtain ⟨rfl, rfl, rfl, rfl⟩ := hs; exact zs_iand hd kk)
  next =>
    simp only [Bool.and_eq_true, beq_iff_eq, decide_eq_true_eq] at hm
    obtain ⟨rfl, rfl, rfl⟩ := hm
    simp only [zstep] at hs
    split at hs <;> first | (cases hs; done) | (simp only [Option.some.injEq, Prod.mk.injEq] at hs; obtain ⟨rfl, rfl, rfl, rfl⟩ := hs; exact zs_ior hd kk)
  next =>
    simp only [Bool.and_eq_true, beq_iff_eq, decide_eq_true_eq] at hm
    obtain ⟨rfl, rfl, rfl⟩ := hm
    simp only [zstep] at hs
    split at hs <;> first | (cases hs; done) | (simp only [Option.some.injEq, Prod.mk.injEq] at hs; obtain ⟨rfl, rfl, rfl, rfl⟩ := hs; exact zs_ixor hd kk)
  next =>
    simp only [Bool.and_eq_true, beq_iff_eq, decide_eq_true_eq] at hm
    obtain ⟨rfl, rfl, rfl⟩ := hm
    simp only [zstep] at hs
    split at hs <;> first | (cases hs; done) | (simp only [Option.some.injEq, Prod.mk.injEq] at hs; obtain ⟨rfl, rfl, rfl, rfl⟩ := hs; exact zs_ishl hd kk)
  next =>
    simp only [Bool.and_eq_true, beq_iff_eq, decide_eq_true_eq] at hm
    obtain ⟨rfl, rfl, rfl⟩ := hm
    simp only [zstep] at hs
    split at hs <;> first | (cases hs; done) | (simp only [Option.some.injEq, Prod.mk.injEq] at hs; obtain ⟨rfl, rfl, rfl, rfl⟩ := hs; exact zs_ishr hd kk)
  next =>
    simp only [Bool.and_eq_true, beq_iff_eq, decide_eq_true_eq] at hm
    obtain ⟨rfl, rfl, rfl⟩ := hm
    simp only [zstep] at hs
    split at hs <;> first | (cases hs; done) | (simp only [Option.some.injEq, Prod.mk.injEq] at hs; obtain ⟨rfl, rfl, rfl, rfl⟩ := hs; exact zs_iushr hd kk)
  next =>
    simp only [Bool.and_eq_true, beq_iff_eq, decide_eq_true_eq] at hm
    obtain ⟨rfl, rfl, rfl⟩ := hm
    simp only [zstep] at hs
    split at hs <;> first | (cases hs; done) | (simp only [Option.some.injEq, Prod.mk.injEq] at hs; obtain ⟨rfl, rfl, rfl, rfl⟩ := hs; exact zs_idiv hd hP.1 kk)
  next =>
    simp only [Bool.and_eq_true, beq_iff_eq, decide_eq_true_eq] at hm
    obtain ⟨rfl, rfl, rfl⟩ := hm
    simp only [zstep] at hs
    split at hs <;> first | (cases hs; done) | (simp only [Option.some.injEq, Prod.mk.injEq] at hs; obtain ⟨rfl, rfl, rfl, rfl⟩ := hs; exact zs_irem hd hP.1 kk)
  next x0 =>
    dsimp only at hm
    rw [Bool.and_eq_true, Bool.and_eq_true, Bool.and_eq_true, Bool.and_eq_true] at hm
    obtain ⟨h1, h2, hf, h3, h4⟩ := hm
    obtain rfl := beq_iff_eq.mp h1
    obtain rfl := beq_iff_eq.mp h2
    replace h3 : (zFk o2).getD o3 0 = o4 := of_decide_eq_true h3
    replace h4 : x = nI o3 := of_decide_eq_true h4
    subst h4
    cases o4 with
    | zero =>
      simp only [zstep] at hs
      split at hs <;> first | (cases hs; done) | (simp only [Option.some.injEq, Prod.mk.injEq] at hs; obtain ⟨rfl, rfl, rfl, rfl⟩ := hs; exact zs_getfield (o := 0) hd hf hP.1 (fun k => by rw [if_pos h3]; rfl) kk)
    | succ o5 =>
      simp only [zstep] at hs
      split at hs <;> first | (cases hs; done) | skip
      rename_i a st
      simp only [Option.some.injEq, Prod.mk.injEq] at hs; obtain ⟨rfl, rfl, rfl, rfl⟩ := hs
      obtain ⟨⟨ho, hi⟩, -⟩ := hP
      intro k p l e R s m args below meth c0 H ls locs cells slots Qf C P S L Z F
      by_cases hlt : a + (o5 + 1) < 100000
      · refine zs_getfield (o := 0) (v := .ref (a + (o5 + 1))) hd hf ho (fun k2 => ?_) kk k p l e R s m args below meth c0 H ls locs cells slots Qf C P S L Z F
        rw [if_neg (by rw [h3]; exact Nat.succ_ne_zero _), if_pos hi, h3]
        show _ = Value.ref (zad k2 (a + (o5 + 1)))
        rw [zad_lt hlt]
      · exfalso
        obtain ⟨hc, hj, -⟩ := zFL_mem hf
        have h6 : (zFk o2).getD o3 0 ≤ 400 := by
          have : ∀ c, c < 11 → ∀ j, j < (zCN c).2.2 → (zFk c).getD j 0 ≤ 400 := by decide +kernel
          exact this o2 hc o3 hj
        have h7 := ho.1
        have h8 := P.2.1
        rw [h3] at h6
        exact hlt (Nat.lt_of_lt_of_le (Nat.add_lt_add_of_lt_of_le h7 h6) (by omega))
  next x0 =>
    dsimp only at hm
    rw [Bool.and_eq_true, Bool.and_eq_true, Bool.and_eq_true, Bool.and_eq_true, Bool.and_eq_true] at hm
    obtain ⟨h1, h2, hf, h3, h4, h5⟩ := hm
    obtain rfl := beq_iff_eq.mp h1
    obtain rfl := beq_iff_eq.mp h2
    replace h3 : (zFk o2).getD o3 0 = 0 := of_decide_eq_true h3
    replace h4 : x = nI o3 := of_decide_eq_true h4
    subst h4
    simp only [Bool.or_eq_true, Bool.and_eq_true, beq_iff_eq, decide_eq_true_eq] at h5
    rcases h5 with ⟨h5, rfl⟩ | ⟨h5, rfl⟩
    · simp only [zstep] at hs
      split at hs <;> first | (cases hs; done) | (simp only [Option.some.injEq, Prod.mk.injEq] at hs; obtain ⟨rfl, rfl, rfl, rfl⟩ := hs; exact zs_putfield (ty := .int) hd hf h3 hP.1 (by rw [h5]; decide) rfl rfl kk)
    · simp only [zstep] at hs
      split at hs <;> first | (cases hs; done) | (simp only [Option.some.injEq, Prod.mk.injEq] at hs; obtain ⟨rfl, rfl, rfl, rfl⟩ := hs; exact zs_putfield (ty := .boolean) hd hf h3 hP.1 (by rw [h5]; decide) (by rcases hP.2.1 with rfl | rfl <;> decide) (by rcases hP.2.1 with rfl | rfl <;> decide) kk)
  next =>
    simp only [Bool.and_eq_true, beq_iff_eq, decide_eq_true_eq] at hm
    obtain ⟨rfl, rfl, rfl⟩ := hm
    simp only [zstep] at hs
    split at hs <;> first | (cases hs; done) | (simp only [Option.some.injEq, Prod.mk.injEq] at hs; obtain ⟨rfl, rfl, rfl, rfl⟩ := hs; exact zs_iaload hd hP.1 kk)
  next =>
    simp only [Bool.and_eq_true, Bool.or_eq_true, beq_iff_eq] at hm
    obtain ⟨rfl, rfl, hm⟩ := hm
    rcases hm with rfl | rfl
    · simp only [zstep] at hs
      split at hs <;> first | (cases hs; done) | (simp only [Option.some.injEq, Prod.mk.injEq] at hs; obtain ⟨rfl, rfl, rfl, rfl⟩ := hs; exact zs_baload (t := 1) hd (Or.inl rfl) hP.1 kk)
    · simp only [zstep] at hs
      split at hs <;> first | (cases hs; done) | (simp only [Option.some.injEq, Prod.mk.injEq] at hs; obtain ⟨rfl, rfl, rfl, rfl⟩ := hs; exact zs_baload (t := 2) hd (Or.inr rfl) hP.1 kk)
  next =>
    simp only [Bool.and_eq_true, beq_iff_eq, decide_eq_true_eq] at hm
    obtain ⟨rfl, rfl, rfl⟩ := hm
    simp only [zstep] at hs
    split at hs <;> first | (cases hs; done) | (simp only [Option.some.injEq, Prod.mk.injEq] at hs; obtain ⟨rfl, rfl, rfl, rfl⟩ := hs; exact zs_iastore hd hP.1 kk)
  next =>
    simp only [Bool.and_eq_true, Bool.or_eq_true, beq_iff_eq] at hm
    obtain ⟨rfl, rfl, hm⟩ := hm
    rcases hm with rfl | rfl
    · simp only [zstep] at hs
      split at hs <;> first | (cases hs; done) | (simp only [Option.some.injEq, Prod.mk.injEq] at hs; obtain ⟨rfl, rfl, rfl, rfl⟩ := hs; exact zs_bastore hd hP.1 kk)
    · simp only [zstep] at hs
      split at hs <;> first | (cases hs; done) | (simp only [Option.some.injEq, Prod.mk.injEq] at hs; obtain ⟨rfl, rfl, rfl, rfl⟩ := hs; exact zs_zastore hd hP.1 kk)
  next =>
    simp only [Bool.and_eq_true, beq_iff_eq, decide_eq_true_eq] at hm
    obtain ⟨rfl, rfl⟩ := hm
    simp only [zstep] at hs
    split at hs <;> first | (cases hs; done) | (simp only [Option.some.injEq, Prod.mk.injEq] at hs; obtain ⟨rfl, rfl, rfl, rfl⟩ := hs; exact zs_aaload hd hP.1 kk)
  next =>
    simp only [Bool.and_eq_true, beq_iff_eq, decide_eq_true_eq] at hm
    obtain ⟨rfl, rfl⟩ := hm
    simp only [zstep] at hs
    split at hs <;> first | (cases hs; done) | (simp only [Option.some.injEq, Prod.mk.injEq] at hs; obtain ⟨rfl, rfl, rfl, rfl⟩ := hs; exact zs_alen hd hP.1 kk)
  next n =>
    rw [Bool.and_eq_true, Bool.and_eq_true] at hm
    obtain ⟨h1, h2, hx⟩ := hm
    obtain rfl := beq_iff_eq.mp h1
    obtain rfl := beq_iff_eq.mp h2
    simp only [zstep] at hs
    simp only [Option.some.injEq, Prod.mk.injEq] at hs; obtain ⟨rfl, rfl, rfl, rfl⟩ := hs
    exact zs_getstatic hd hx kk
  next =>
    simp only [Bool.and_eq_true, beq_iff_eq, decide_eq_true_eq] at hm
    obtain ⟨rfl, rfl⟩ := hm
    simp only [zstep] at hs
    split at hs <;> first | (cases hs; done) | (simp only [Option.some.injEq, Prod.mk.injEq] at hs; obtain ⟨rfl, rfl, rfl, rfl⟩ := hs; exact zs_ineg hd kk)
  next =>
    simp only [Bool.and_eq_true, beq_iff_eq, decide_eq_true_eq] at hm
    obtain ⟨rfl, rfl⟩ := hm
    simp only [zstep] at hs
    split at hs <;> first | (cases hs; done) | (simp only [Option.some.injEq, Prod.mk.injEq] at hs; obtain ⟨rfl, rfl, rfl, rfl⟩ := hs; exact zs_i2b hd kk)
  next =>
    simp only [Bool.and_eq_true, beq_iff_eq, decide_eq_true_eq] at hm
    obtain ⟨rfl, rfl⟩ := hm
    simp only [zstep] at hs
    split at hs <;> first | (cases hs; done) | (simp only [Option.some.injEq, Prod.mk.injEq] at hs; obtain ⟨rfl, rfl, rfl, rfl⟩ := hs; exact zs_i2l hd kk)
  next n => 
    simp only [Bool.and_eq_true, beq_iff_eq, decide_eq_true_eq] at hm
    obtain ⟨rfl, rfl, hx⟩ := hm
    simp only [zstep] at hs
    simp only [Option.some.injEq, Prod.mk.injEq] at hs; obtain ⟨rfl, rfl, rfl, rfl⟩ := hs
    exact zs_lconst hd hx kk
  next n =>
    rw [Bool.and_eq_true, Bool.and_eq_true] at hm
    obtain ⟨h1, h2, hx⟩ := hm
    obtain rfl := beq_iff_eq.mp h1
    obtain rfl := beq_iff_eq.mp h2
    simp only [zstep] at hs
    simp only [Option.some.injEq, Prod.mk.injEq] at hs; obtain ⟨rfl, rfl, rfl, rfl⟩ := hs
    exact zs_ldc2 hd (zCL_mem hx) kk
  next =>
    simp only [Bool.and_eq_true, beq_iff_eq, decide_eq_true_eq] at hm
    obtain ⟨rfl, rfl⟩ := hm
    simp only [zstep] at hs
    split at hs <;> first | (cases hs; done) | (simp only [Option.some.injEq, Prod.mk.injEq] at hs; obtain ⟨rfl, rfl, rfl, rfl⟩ := hs; exact zs_lsub hd kk)
  next =>
    simp only [Bool.and_eq_true, beq_iff_eq, decide_eq_true_eq] at hm
    obtain ⟨rfl, rfl⟩ := hm
    simp only [zstep] at hs
    split at hs <;> first | (cases hs; done) | (simp only [Option.some.injEq, Prod.mk.injEq] at hs; obtain ⟨rfl, rfl, rfl, rfl⟩ := hs; exact zs_lcmp hd kk)
  next =>
    simp only [Bool.and_eq_true, beq_iff_eq, decide_eq_true_eq] at hm
    obtain ⟨rfl, rfl⟩ := hm
    simp only [zstep] at hs
    split at hs <;> first | (cases hs; done) | (simp only [Option.some.injEq, Prod.mk.injEq] at hs; obtain ⟨rfl, rfl, rfl, rfl⟩ := hs; first | exact zs_dup_i hd kk | exact zs_dup_r hd kk)
  next =>
    simp only [Bool.and_eq_true, beq_iff_eq, decide_eq_true_eq] at hm
    obtain ⟨rfl, rfl⟩ := hm
    simp only [zstep] at hs
    split at hs <;> first | (cases hs; done) | (simp only [Option.some.injEq, Prod.mk.injEq] at hs; obtain ⟨rfl, rfl, rfl, rfl⟩ := hs; exact zs_dup2 hd kk)
  next =>
    simp only [Bool.and_eq_true, beq_iff_eq, decide_eq_true_eq] at hm
    obtain ⟨rfl, rfl⟩ := hm
    simp only [zstep] at hs
    split at hs <;> first | (cases hs; done) | (simp only [Option.some.injEq, Prod.mk.injEq] at hs; obtain ⟨rfl, rfl, rfl, rfl⟩ := hs; exact zs_pop hd kk)
  next =>
    simp only [Bool.and_eq_true, beq_iff_eq, decide_eq_true_eq] at hm
    obtain ⟨rfl, rfl⟩ := hm
    simp only [zstep] at hs
    split at hs <;> first | (cases hs; done) | (simp only [Option.some.injEq, Prod.mk.injEq] at hs; obtain ⟨rfl, rfl, rfl, rfl⟩ := hs; exact zs_dup_x1 hd kk)
  next x0 => 
    simp only [Bool.and_eq_true, beq_iff_eq, decide_eq_true_eq] at hm
    obtain ⟨rfl, rfl, hx⟩ := hm
    simp only [zstep] at hs
    simp only [Option.some.injEq, Prod.mk.injEq] at hs; obtain ⟨rfl, rfl, rfl, rfl⟩ := hs
    exact zs_goto hd hx kk
  next => cases hm
def zRun : List zop → zLv → List Value → zHp → Option (zLv × List Value × zHp × List Prop)
  | [], lv, st, h => some (lv, st, h, [])
  | o :: os, lv, st, h => match zstep o lv st h with
    | some (lv1, st1, h1, P1) => match zRun os lv1 st1 h1 with
      | some (lv2, st2, h2, P2) => some (lv2, st2, h2, P1 ++ P2)
      | none => none
    | none => none
/-- the ops stand in the code from pc on: where they end -/
def zBk (M : zMT) : Nat → List zop → Option Nat
  | pc, [] => some pc
  | pc, o :: os => match decode M.2.2.1 pc with
    | .ok (i, len) => if zmat M i len pc o = true then zBk M (znext o pc len) os else none
    | _ => none
theorem zall_app {P1 P2 : List Prop} (h : zall (P1 ++ P2)) : zall P1 ∧ zall P2 := by
  induction P1 with
  | nil => exact ⟨trivial, h⟩
  | cons p ps ih => exact ⟨⟨h.1, (ih h.2).1⟩, (ih h.2).2⟩
theorem zG_run {os : List zop} {pc' : Nat} {lv' : zLv} {st' : List Value} {h' : zHp} {Ps : List Prop} (hb : zBk M pc os = some pc') (hr : zRun os lv st h = some (lv', st', h', Ps)) (hP : zall Ps) (kk : zG M N Q pc' lv' st' h') : zG M N Q pc lv st h := by
  induction os generalizing pc lv st h lv' st' h' Ps with
  | nil =>
    simp only [zBk, Option.some.injEq] at hb
    simp only [zRun, Option.some.injEq, Prod.mk.injEq] at hr
    obtain ⟨rfl, rfl, rfl, rfl⟩ := hr
    subst hb
    exact kk
  | cons o os ih =>
    simp only [zBk] at hb
    split at hb
    next i len hd =>
      split at hb
      next hm =>
        simp only [zRun] at hr
        split at hr
        next lv1 st1 h1 P1 hs =>
          split at hr
          next lv2 st2 h2 P2 hr2 =>
            simp only [Option.some.injEq, Prod.mk.injEq] at hr
            obtain ⟨rfl, rfl, rfl, rfl⟩ := hr
            obtain ⟨q1, q2⟩ := zall_app hP
            exact zstep_ok hd hm hs q1 (ih hb hr2 q2 kk)
          next => cases hr
        next => cases hr
      next => cases hb
    next => cases hb
end
