/-! branches, switches, returns, calls -/
section
variable {M : zMT} {N : Nat} {Q : Option Value → zHp → Prop} {pc : Nat} {lv : zLv} {st : List Value} {h : zHp}
variable {os : List zop} {pc1 tgt : Nat} {off : Int} {lv' : zLv} {st' : List Value} {h' : zHp} {Ps : List Prop} {x y : Int32}
theorem zb_ifeq (hb : zBk M pc os = some pc1) (hd : decode M.2.2.1 pc1 = .ok (.ifCond .eq off, 3)) (ht : (pc1 : Int) + off = (tgt : Int)) (hr : zRun os lv st h = some (lv', .int x :: st', h', Ps)) (hP : zall Ps) (kt : x = 0 → zG M N Q tgt lv' st' h') (kf : ¬ (x = 0) → zG M N Q (pc1 + 3) lv' st' h') : zG M N Q pc lv st h := by
  refine zG_run hb hr hP ?_
  intro k p l e R s m args below meth c H ls locs cells slots Qf C P S L Z F
  exact lv_if_eq C.1 C.2.1 hd ht (fun q => kt q k p l e R s m args below meth c H ls locs cells slots Qf C P S L Z F) (fun q => kf q k p l e R s m args below meth c H ls locs cells slots Qf C P S L Z F)
theorem zb_iceq (hb : zBk M pc os = some pc1) (hd : decode M.2.2.1 pc1 = .ok (.if_icmp .eq off, 3)) (ht : (pc1 : Int) + off = (tgt : Int)) (hr : zRun os lv st h = some (lv', .int y :: .int x :: st', h', Ps)) (hP : zall Ps) (kt : x = y → zG M N Q tgt lv' st' h') (kf : ¬ (x = y) → zG M N Q (pc1 + 3) lv' st' h') : zG M N Q pc lv st h := by
  refine zG_run hb hr hP ?_
  intro k p l e R s m args below meth c H ls locs cells slots Qf C P S L Z F
  exact lv_icmp_eq C.1 C.2.1 hd ht (fun q => kt q k p l e R s m args below meth c H ls locs cells slots Qf C P S L Z F) (fun q => kf q k p l e R s m args below meth c H ls locs cells slots Qf C P S L Z F)
theorem zb_ifne (hb : zBk M pc os = some pc1) (hd : decode M.2.2.1 pc1 = .ok (.ifCond .ne off, 3)) (ht : (pc1 : Int) + off = (tgt : Int)) (hr : zRun os lv st h = some (lv', .int x :: st', h', Ps)) (hP : zall Ps) (kt : ¬ x = 0 → zG M N Q tgt lv' st' h') (kf : x = 0 → zG M N Q (pc1 + 3) lv' st' h') : zG M N Q pc lv st h := by
  refine zG_run hb hr hP ?_
  intro k p l e R s m args below meth c H ls locs cells slots Qf C P S L Z F
  exact lv_if_ne C.1 C.2.1 hd ht (fun q => kt q k p l e R s m args below meth c H ls locs cells slots Qf C P S L Z F) (fun q => kf q k p l e R s m args below meth c H ls locs cells slots Qf C P S L Z F)
theorem zb_icne (hb : zBk M pc os = some pc1) (hd : decode M.2.2.1 pc1 = .ok (.if_icmp .ne off, 3)) (ht : (pc1 : Int) + off = (tgt : Int)) (hr : zRun os lv st h = some (lv', .int y :: .int x :: st', h', Ps)) (hP : zall Ps) (kt : ¬ x = y → zG M N Q tgt lv' st' h') (kf : x = y → zG M N Q (pc1 + 3) lv' st' h') : zG M N Q pc lv st h := by
  refine zG_run hb hr hP ?_
  intro k p l e R s m args below meth c H ls locs cells slots Qf C P S L Z F
  exact lv_icmp_ne C.1 C.2.1 hd ht (fun q => kt q k p l e R s m args below meth c H ls locs cells slots Qf C P S L Z F) (fun q => kf q k p l e R s m args below meth c H ls locs cells slots Qf C P S L Z F)
theorem zb_iflt (hb : zBk M pc os = some pc1) (hd : decode M.2.2.1 pc1 = .ok (.ifCond .lt off, 3)) (ht : (pc1 : Int) + off = (tgt : Int)) (hr : zRun os lv st h = some (lv', .int x :: st', h', Ps)) (hP : zall Ps) (kt : x < 0 → zG M N Q tgt lv' st' h') (kf : ¬ (x < 0) → zG M N Q (pc1 + 3) lv' st' h') : zG M N Q pc lv st h := by
  refine zG_run hb hr hP ?_
  intro k p l e R s m args below meth c H ls locs cells slots Qf C P S L Z F
  exact lv_if_lt C.1 C.2.1 hd ht (fun q => kt q k p l e R s m args below meth c H ls locs cells slots Qf C P S L Z F) (fun q => kf q k p l e R s m args below meth c H ls locs cells slots Qf C P S L Z F)
theorem zb_iclt (hb : zBk M pc os = some pc1) (hd : decode M.2.2.1 pc1 = .ok (.if_icmp .lt off, 3)) (ht : (pc1 : Int) + off = (tgt : Int)) (hr : zRun os lv st h = some (lv', .int y :: .int x :: st', h', Ps)) (hP : zall Ps) (kt : x < y → zG M N Q tgt lv' st' h') (kf : ¬ (x < y) → zG M N Q (pc1 + 3) lv' st' h') : zG M N Q pc lv st h := by
  refine zG_run hb hr hP ?_
  intro k p l e R s m args below meth c H ls locs cells slots Qf C P S L Z F
  exact lv_icmp_lt C.1 C.2.1 hd ht (fun q => kt q k p l e R s m args below meth c H ls locs cells slots Qf C P S L Z F) (fun q => kf q k p l e R s m args below meth c H ls locs cells slots Qf C P S L Z F)
theorem zb_ifge (hb : zBk M pc os = some pc1) (hd : decode M.2.2.1 pc1 = .ok (.ifCond .ge off, 3)) (ht : (pc1 : Int) + off = (tgt : Int)) (hr : zRun os lv st h = some (lv', .int x :: st', h', Ps)) (hP : zall Ps) (kt : 0 ≤ x → zG M N Q tgt lv' st' h') (kf : ¬ (0 ≤ x) → zG M N Q (pc1 + 3) lv' st' h') : zG M N Q pc lv st h := by
  refine zG_run hb hr hP ?_
  intro k p l e R s m args below meth c H ls locs cells slots Qf C P S L Z F
  exact lv_if_ge C.1 C.2.1 hd ht (fun q => kt q k p l e R s m args below meth c H ls locs cells slots Qf C P S L Z F) (fun q => kf q k p l e R s m args below meth c H ls locs cells slots Qf C P S L Z F)
theorem zb_icge (hb : zBk M pc os = some pc1) (hd : decode M.2.2.1 pc1 = .ok (.if_icmp .ge off, 3)) (ht : (pc1 : Int) + off = (tgt : Int)) (hr : zRun os lv st h = some (lv', .int y :: .int x :: st', h', Ps)) (hP : zall Ps) (kt : y ≤ x → zG M N Q tgt lv' st' h') (kf : ¬ (y ≤ x) → zG M N Q (pc1 + 3) lv' st' h') : zG M N Q pc lv st h := by
  refine zG_run hb hr hP ?_
  intro k p l e R s m args below meth c H ls locs cells slots Qf C P S L Z F
  exact lv_icmp_ge C.1 C.2.1 hd ht (fun q => kt q k p l e R s m args below meth c H ls locs cells slots Qf C P S L Z F) (fun q => kf q k p l e R s m args below meth c H ls locs cells slots Qf C P S L Z F)
theorem zb_ifgt (hb : zBk M pc os = some pc1) (hd : decode M.2.2.1 pc1 = .ok (.ifCond .gt off, 3)) (ht : (pc1 : Int) + off = (tgt : Int)) (hr : zRun os lv st h = some (lv', .int x :: st', h', Ps)) (hP : zall Ps) (kt : 0 < x → zG M N Q tgt lv' st' h') (kf : ¬ (0 < x) → zG M N Q (pc1 + 3) lv' st' h') : zG M N Q pc lv st h := by
  refine zG_run hb hr hP ?_
  intro k p l e R s m args below meth c H ls locs cells slots Qf C P S L Z F
  exact lv_if_gt C.1 C.2.1 hd ht (fun q => kt q k p l e R s m args below meth c H ls locs cells slots Qf C P S L Z F) (fun q => kf q k p l e R s m args below meth c H ls locs cells slots Qf C P S L Z F)
theorem zb_icgt (hb : zBk M pc os = some pc1) (hd : decode M.2.2.1 pc1 = .ok (.if_icmp .gt off, 3)) (ht : (pc1 : Int) + off = (tgt : Int)) (hr : zRun os lv st h = some (lv', .int y :: .int x :: st', h', Ps)) (hP : zall Ps) (kt : y < x → zG M N Q tgt lv' st' h') (kf : ¬ (y < x) → zG M N Q (pc1 + 3) lv' st' h') : zG M N Q pc lv st h := by
  refine zG_run hb hr hP ?_
  intro k p l e R s m args below meth c H ls locs cells slots Qf C P S L Z F
  exact lv_icmp_gt C.1 C.2.1 hd ht (fun q => kt q k p l e R s m args below meth c H ls locs cells slots Qf C P S L Z F) (fun q => kf q k p l e R s m args below meth c H ls locs cells slots Qf C P S L Z F)
theorem zb_ifle (hb : zBk M pc os = some pc1) (hd : decode M.2.2.1 pc1 = .ok (.ifCond .le off, 3)) (ht : (pc1 : Int) + off = (tgt : Int)) (hr : zRun os lv st h = some (lv', .int x :: st', h', Ps)) (hP : zall Ps) (kt : x ≤ 0 → zG M N Q tgt lv' st' h') (kf : ¬ (x ≤ 0) → zG M N Q (pc1 + 3) lv' st' h') : zG M N Q pc lv st h := by
  refine zG_run hb hr hP ?_
  intro k p l e R s m args below meth c H ls locs cells slots Qf C P S L Z F
  exact lv_if_le C.1 C.2.1 hd ht (fun q => kt q k p l e R s m args below meth c H ls locs cells slots Qf C P S L Z F) (fun q => kf q k p l e R s m args below meth c H ls locs cells slots Qf C P S L Z F)
theorem zb_icle (hb : zBk M pc os = some pc1) (hd : decode M.2.2.1 pc1 = .ok (.if_icmp .le off, 3)) (ht : (pc1 : Int) + off = (tgt : Int)) (hr : zRun os lv st h = some (lv', .int y :: .int x :: st', h', Ps)) (hP : zall Ps) (kt : x ≤ y → zG M N Q tgt lv' st' h') (kf : ¬ (x ≤ y) → zG M N Q (pc1 + 3) lv' st' h') : zG M N Q pc lv st h := by
  refine zG_run hb hr hP ?_
  intro k p l e R s m args below meth c H ls locs cells slots Qf C P S L Z F
  exact lv_icmp_le C.1 C.2.1 hd ht (fun q => kt q k p l e R s m args below meth c H ls locs cells slots Qf C P S L Z F) (fun q => kf q k p l e R s m args below meth c H ls locs cells slots Qf C P S L Z F)
theorem zs_tableIn {dflt lo hi : Int} {offs : Array Int} {len : Nat} (hd : decode M.2.2.1 pc = .ok (.tableswitch dflt lo hi offs, len)) (h1 : ¬ x.toInt < lo) (h2 : ¬ hi < x.toInt) (ho : offs[(x.toInt - lo).toNat]? = some off) (ht : (pc : Int) + off = (tgt : Int)) (kk : zG M N Q tgt lv st h) : zG M N Q pc lv (.int x :: st) h := by
  intro k p l e R s m args below meth c H ls locs cells slots Qf C P S L Z F
  exact lv_tableIn C.1 C.2.1 hd h1 h2 ho ht (kk k p l e R s m args below meth c H ls locs cells slots Qf C P S L Z F)
theorem zs_tableOut {dflt lo hi : Int} {offs : Array Int} {len : Nat} (hd : decode M.2.2.1 pc = .ok (.tableswitch dflt lo hi offs, len)) (h1 : x.toInt < lo ∨ hi < x.toInt) (ht : (pc : Int) + dflt = (tgt : Int)) (kk : zG M N Q tgt lv st h) : zG M N Q pc lv (.int x :: st) h := by
  intro k p l e R s m args below meth c H ls locs cells slots Qf C P S L Z F
  exact lv_tableOut C.1 C.2.1 hd h1 ht (kk k p l e R s m args below meth c H ls locs cells slots Qf C P S L Z F)
theorem zs_lookup {dflt : Int} {ps : Array (Int × Int)} {len : Nat} (hd : decode M.2.2.1 pc = .ok (.lookupswitch dflt ps, len)) (hp : (ps.toList.zip (ps.toList.drop 1)).all (fun (a, next) => a.1 < next.1) = true) (ho : Op.lookupswitch.offset ps.toList dflt x.toInt = off) (ht : (pc : Int) + off = (tgt : Int)) (kk : zG M N Q tgt lv st h) : zG M N Q pc lv (.int x :: st) h := by
  intro k p l e R s m args below meth c H ls locs cells slots Qf C P S L Z F
  exact lv_lookup C.1 C.2.1 hd hp ho ht (kk k p l e R s m args below meth c H ls locs cells slots Qf C P S L Z F)
theorem zs_ret {r : Option Value} (hr : zRet M pc r) (hN : h.2.1 = N) (hq : Q r h) : zG M N Q pc lv r.toList h := by
  intro k p l e R s m args below meth c H ls locs cells slots Qf C P S L Z F
  exact F pc ls H locs cells slots r h hq hN P S Z hr
theorem zb_iret (hb : zBk M pc os = some pc1) (hd : decode M.2.2.1 pc1 = .ok (.ireturn, 1)) (hm : M.2.2.2.2.1 = some .int) (hr : zRun os lv st h = some (lv', [.int x], h', Ps)) (hP : zall Ps) (hN : h'.2.1 = N) (hq : Q (some (.int x)) h') : zG M N Q pc lv st h :=
  zG_run hb hr hP (zs_ret (r := some (.int x)) ⟨hd, .int, hm, rfl⟩ hN hq)
theorem zb_zret (hb : zBk M pc os = some pc1) (hd : decode M.2.2.1 pc1 = .ok (.ireturn, 1)) (hm : M.2.2.2.2.1 = some .boolean) (hr : zRun os lv st h = some (lv', [.int x], h', Ps)) (hP : zall Ps) (hN : h'.2.1 = N) (hx : x = 0 ∨ x = 1) (hq : Q (some (.int x)) h') : zG M N Q pc lv st h :=
  zG_run hb hr hP (zs_ret (r := some (.int x)) ⟨hd, .boolean, hm, by rcases hx with rfl | rfl <;> decide⟩ hN hq)
theorem zb_vret (hb : zBk M pc os = some pc1) (hd : decode M.2.2.1 pc1 = .ok (.return_, 1)) (hm : M.2.2.2.2.1 = none) (hr : zRun os lv st h = some (lv', [], h', Ps)) (hP : zall Ps) (hN : h'.2.1 = N) (hq : Q none h') : zG M N Q pc lv st h :=
  zG_run hb hr hP (zs_ret (r := none) ⟨hd, hm⟩ hN hq)
theorem zb_aret {a : Nat} {n : String} (hb : zBk M pc os = some pc1) (hd : decode M.2.2.1 pc1 = .ok (.areturn, 1)) (hm : M.2.2.2.2.1 = some (.object n)) (hr : zRun os lv st h = some (lv', [.ref a], h', Ps)) (hP : zall Ps) (hN : h'.2.1 = N) (hq : Q (some (.ref a)) h') : zG M N Q pc lv st h :=
  zG_run hb hr hP (zs_ret (r := some (.ref a)) ⟨hd, n, hm⟩ hN hq)
end
