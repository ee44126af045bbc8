/-! arrays, the signs, the script -/
theorem zSh_small : ∀ a, (zSh a).2.2 ≤ 10000 ∧ ((zSh a).1 = 2 → (zSh a).2.1 < 5) ∧ ((zSh a).1 = 1 → (zSh a).2.1 < 3) := by
  intro a
  by_cases ha : a < 411
  · revert a; decide +kernel
  · have h1 : ¬ a < 34 := by omega
    have h2 : ¬ a < 39 := by omega
    have h3 : ¬ a < 311 := by omega
    have h4 : ¬ a < 327 := by omega
    have h5 : ¬ a < 393 := by omega
    unfold zSh
    rw [if_neg h1, if_neg h2, if_neg h3, if_neg h4, if_neg h5, if_neg ha]
    split <;> decide
theorem zvp_in {i : Int32} {n : Nat} (hn : n < 2 ^ 31) (h0 : 0 ≤ i) (h1 : i < nI n) : vp_in i n := by
  rw [vp_in_iff]
  rw [Int32.le_iff_toInt_le] at h0
  rw [Int32.lt_iff_toInt_lt, nI_toInt hn] at h1
  exact ⟨by simpa using h0, h1⟩
theorem zAi_at {h : zHp} {a n : Nat} {i : Int32} (hn : n < 2 ^ 31) (hi : vp_in i n) : zAi h a n i.toNatClampNeg = h.1 a i := by
  obtain ⟨j, hj, rfl⟩ := vp_in_of hi hn
  rw [nI_clamp (by omega)]
  simp [zAi, hj]
theorem zIn_sh {h : zHp} {a t : Nat} {i : Int32} (hi : zIn h a t i) : zSh a = (1, t, (zSh a).2.2) ∧ vp_in i (zSh a).2.2 := by
  obtain ⟨h1, h2, h3, h4, h5⟩ := hi
  refine ⟨?_, zvp_in ?_ h4 h5⟩
  · rw [← h2, ← h3]
  · have := (zSh_small a).1; omega
theorem zbool_nar (x : Int32) : vp_nar .boolean x = x &&& 1 := rfl
section
variable {M : zMT} {N : Nat} {Q : Option Value → zHp → Prop} {pc : Nat} {lv : zLv} {st : List Value} {h : zHp}
theorem zs_iaload {a : Nat} {i : Int32} (hd : decode M.2.2.1 pc = .ok (.iaload, 1)) (hi : zInL h a i) (kk : zG M N Q (pc + 1) lv (.int (h.1 a i) :: st) h) : zG M N Q pc lv (.int i :: .ref a :: st) h := by
  intro k p l e R s m args below meth c H ls locs cells slots Qf C P S L Z F
  have K := kk k p l e R s m args below meth c H ls locs cells slots Qf C P S L Z F
  rcases hi with hi | ⟨rfl, h0, h1⟩ | ⟨rfl, h0, h1⟩
  · obtain ⟨hs, hv⟩ := zIn_sh hi
    have ha := zad_lt (k := k) (a := a) (zlt hi.1 P.2.1)
    show W p l e R s m args below meth c H locs cells slots Qf (F0 m pc ls (.int i :: .ref (zad k a) :: st.map (zv k)))
    rw [ha]
    refine va_iald (D := k.2.1) C.1 C.2.1 C.2.2.2.2.2.2.2.2.2.2.1 P.1 a 0 (by rw [zWs_get hi.1, zE_1 hs]) rfl hv hd ?_
    rw [zAi_at (by have := (zSh_small a).1; omega) hv]
    exact K
  · have hT := C.2.2.2.2.2.2.2.2.2.2.2.2.2.2.1
    have hv : vp_in i 6 := zvp_in (by decide) h0 h1
    refine va_ti (t := k.1.2.1) (v := .int (h.1 100000 i)) C.1 C.2.1 hT S hv ?_ hd K
    obtain ⟨j, hj, rfl⟩ := vp_in_of hv (by decide)
    rw [nI_clamp (by omega), P.2.2.1]
  · have hT := C.2.2.2.2.2.2.2.2.2.2.2.2.2.2.2.1
    have hn := C.2.2.2.2.2.2.2.2.2.2.2.2.2.2.2.2.1
    have hv : vp_in i (k.2.2.2 100001 (-1)).toNatClampNeg := by
      rw [P.2.2.2] at h1
      obtain ⟨n, hn2, he⟩ := nI_of hn
      rw [he] at h1 ⊢
      rw [nI_clamp hn2]
      exact zvp_in hn2 h0 h1
    refine va_ti (t := k.1.2.2) (v := .int (h.1 100001 i)) C.1 C.2.1 hT S hv ?_ hd K
    obtain ⟨n, hn2, he⟩ := nI_of hn
    rw [he, nI_clamp hn2] at hv
    obtain ⟨j, hj, rfl⟩ := vp_in_of hv hn2
    rw [nI_clamp (by omega), P.2.2.2]
theorem zs_baload {a t : Nat} {i : Int32} (hd : decode M.2.2.1 pc = .ok (.baload, 1)) (ht : t = 1 ∨ t = 2) (hi : zIn h a t i) (kk : zG M N Q (pc + 1) lv (.int (h.1 a i) :: st) h) : zG M N Q pc lv (.int i :: .ref a :: st) h := by
  intro k p l e R s m args below meth c H ls locs cells slots Qf C P S L Z F
  have K := kk k p l e R s m args below meth c H ls locs cells slots Qf C P S L Z F
  obtain ⟨hs, hv⟩ := zIn_sh hi
  have ha := zad_lt (k := k) (a := a) (zlt hi.1 P.2.1)
  show W p l e R s m args below meth c H locs cells slots Qf (F0 m pc ls (.int i :: .ref (zad k a) :: st.map (zv k)))
  rw [ha]
  rcases ht with rfl | rfl
  · refine va_bald (D := k.2.1) C.1 C.2.1 C.2.2.2.2.2.2.2.2.2.2.1 P.1 a 1 (by rw [zWs_get hi.1, zE_1 hs]) rfl hv hd ?_
    rw [zAi_at (by have := (zSh_small a).1; omega) hv]
    exact K
  · refine va_zald (D := k.2.1) C.1 C.2.1 C.2.2.2.2.2.2.2.2.2.2.1 P.1 a 2 (by rw [zWs_get hi.1, zE_1 hs]) rfl hv hd ?_
    rw [zAi_at (by have := (zSh_small a).1; omega) hv]
    exact K
theorem zs_iastore {a : Nat} {i x : Int32} (hd : decode M.2.2.1 pc = .ok (.iastore, 1)) (hi : zIn h a 0 i) (kk : zG M N Q (pc + 1) lv st (zup h.1 a i x, h.2)) : zG M N Q pc lv (.int x :: .int i :: .ref a :: st) h := by
  intro k p l e R s m args below meth c H ls locs cells slots Qf C P S L Z F
  obtain ⟨hs, hv⟩ := zIn_sh hi
  have ha := zad_lt (k := k) (a := a) (zlt hi.1 P.2.1)
  have hn : (zSh a).2.2 < 2 ^ 31 := by have := (zSh_small a).1; omega
  show W p l e R s m args below meth c H locs cells slots Qf (F0 m pc ls (.int x :: .int i :: .ref (zad k a) :: st.map (zv k)))
  rw [ha]
  refine va_iast (D := k.2.1) C.1 C.2.1 C.2.2.2.2.2.2.2.2.2.2.1 P.1 zWs_D S a 0 (by rw [zWs_get hi.1, zE_1 hs]) rfl hv hd (fun H1 locs1 hP1 _ hS1 => ?_)
  exact kk k p l e R s m args below meth c H1 ls locs1 cells slots Qf C (zPic_up P hi.1 (by rw [zE_1 hs, zAi_set hn hv]) hP1) hS1 L Z F
theorem zs_bastore {a : Nat} {i x : Int32} (hd : decode M.2.2.1 pc = .ok (.bastore, 1)) (hi : zIn h a 1 i) (kk : zG M N Q (pc + 1) lv st (zup h.1 a i x.toInt8.toInt32, h.2)) : zG M N Q pc lv (.int x :: .int i :: .ref a :: st) h := by
  intro k p l e R s m args below meth c H ls locs cells slots Qf C P S L Z F
  obtain ⟨hs, hv⟩ := zIn_sh hi
  have ha := zad_lt (k := k) (a := a) (zlt hi.1 P.2.1)
  have hn : (zSh a).2.2 < 2 ^ 31 := by have := (zSh_small a).1; omega
  show W p l e R s m args below meth c H locs cells slots Qf (F0 m pc ls (.int x :: .int i :: .ref (zad k a) :: st.map (zv k)))
  rw [ha]
  refine va_bast (D := k.2.1) C.1 C.2.1 C.2.2.2.2.2.2.2.2.2.2.1 P.1 zWs_D S a 1 (by rw [zWs_get hi.1, zE_1 hs]) rfl hv hd (fun H1 locs1 hP1 _ hS1 => ?_)
  exact kk k p l e R s m args below meth c H1 ls locs1 cells slots Qf C (zPic_up P hi.1 (by rw [zE_1 hs, zAi_set hn hv, vp_nar_byte]) hP1) hS1 L Z F
theorem zs_zastore {a : Nat} {i x : Int32} (hd : decode M.2.2.1 pc = .ok (.bastore, 1)) (hi : zIn h a 2 i) (kk : zG M N Q (pc + 1) lv st (zup h.1 a i (x &&& 1), h.2)) : zG M N Q pc lv (.int x :: .int i :: .ref a :: st) h := by
  intro k p l e R s m args below meth c H ls locs cells slots Qf C P S L Z F
  obtain ⟨hs, hv⟩ := zIn_sh hi
  have ha := zad_lt (k := k) (a := a) (zlt hi.1 P.2.1)
  have hn : (zSh a).2.2 < 2 ^ 31 := by have := (zSh_small a).1; omega
  show W p l e R s m args below meth c H locs cells slots Qf (F0 m pc ls (.int x :: .int i :: .ref (zad k a) :: st.map (zv k)))
  rw [ha]
  refine va_zast (D := k.2.1) C.1 C.2.1 C.2.2.2.2.2.2.2.2.2.2.1 P.1 zWs_D S a 2 (by rw [zWs_get hi.1, zE_1 hs]) rfl hv hd (fun H1 locs1 hP1 _ hS1 => ?_)
  exact kk k p l e R s m args below meth c H1 ls locs1 cells slots Qf C (zPic_up P hi.1 (by rw [zE_1 hs, zAi_set hn hv, zbool_nar]) hP1) hS1 L Z F
theorem zTys_r (k : zKT) : ∀ c, c < 5 → ∃ C : String, (zTys k)[zRc c]? = some (k.2.2.1 (zRc c), .object C) := by
  intro c hc
  match c, hc with
  | 0, _ => exact ⟨_, rfl⟩
  | 1, _ => exact ⟨_, rfl⟩
  | 2, _ => exact ⟨_, rfl⟩
  | 3, _ => exact ⟨_, rfl⟩
  | 4, _ => exact ⟨_, rfl⟩
theorem zs_aaload {a : Nat} {i : Int32} (hd : decode M.2.2.1 pc = .ok (.aaload, 1)) (hi : zInR h a i) (kk : zG M N Q (pc + 1) lv (.ref (zel a i) :: st) h) : zG M N Q pc lv (.int i :: .ref a :: st) h := by
  intro k p l e R s m args below meth c H ls locs cells slots Qf C P S L Z F
  have K := kk k p l e R s m args below meth c H ls locs cells slots Qf C P S L Z F
  obtain ⟨h1, h2, h3, h4, h5, h6⟩ := hi
  have hn : (zSh a).2.2 < 2 ^ 31 := by have := (zSh_small a).1; omega
  have hv := zvp_in hn h3 h4
  have hs : zSh a = (2, (zSh a).2.1, (zSh a).2.2) := by rw [← h2]
  have ha := zad_lt (k := k) (a := a) (zlt h1 P.2.1)
  obtain ⟨Cn, hC⟩ := zTys_r k _ ((zSh_small a).2.1 h2)
  show W p l e R s m args below meth c H locs cells slots Qf (F0 m pc ls (.int i :: .ref (zad k a) :: st.map (zv k)))
  rw [ha]
  refine va_aldq (D := k.2.1) C.1 C.2.1 C.2.2.2.2.2.2.2.2.2.2.1 P.1 a (zRc (zSh a).2.1) (by rw [zWs_get h1, zE_2 hs]) hC hv hd ?_
  have hj : i.toNatClampNeg < (zSh a).2.2 := Nat.not_le.mp fun q => hv (Or.inr q)
  have e1 : va_rf (zAr k h a (zSh a).2.1 (zSh a).2.2 i.toNatClampNeg) = zv k (.ref (zel a i)) := by
    show _ = Value.ref (zad k (zel a i))
    rw [zad_lt (show zel a i < 100000 from h6)]
    simp [zAr, hj, h5, va_rf, zel]
  rw [e1]
  exact K
theorem zs_alen {a : Nat} (hd : decode M.2.2.1 pc = .ok (.arraylength, 1)) (hi : (a < h.2.1 ∧ (zSh a).1 = 1 ∧ (zSh a).2.1 < 3) ∨ a = 100000 ∨ a = 100001) (kk : zG M N Q (pc + 1) lv (.int (zln h a) :: st) h) : zG M N Q pc lv (.ref a :: st) h := by
  intro k p l e R s m args below meth c H ls locs cells slots Qf C P S L Z F
  have K := kk k p l e R s m args below meth c H ls locs cells slots Qf C P S L Z F
  rcases hi with ⟨h1, h2, h3⟩ | rfl | rfl
  · have hlt : a < 100000 := zlt h1 P.2.1
    have ha := zad_lt (k := k) (a := a) hlt
    have hs : zSh a = (1, (zSh a).2.1, (zSh a).2.2) := by rw [← h2]
    show W p l e R s m args below meth c H locs cells slots Qf (F0 m pc ls (.ref (zad k a) :: st.map (zv k)))
    rw [ha]
    obtain ⟨ty, hty⟩ : ∃ ty, (zTys k)[(zSh a).2.1]? = some (k.2.2.1 (zSh a).2.1, ty) := by
      match hq : (zSh a).2.1, h3 with
      | 0, _ => exact ⟨_, rfl⟩
      | 1, _ => exact ⟨_, rfl⟩
      | 2, _ => exact ⟨_, rfl⟩
    refine va_alen (D := k.2.1) C.1 C.2.1 C.2.2.2.2.2.2.2.2.2.2.1 P.1 a (zSh a).2.1 (by rw [zWs_get h1, zE_1 hs]) hty (v := zln h a) ?_ hd K
    have : a ≠ 100001 := by omega
    simp only [zln, if_neg this]; rfl
  · exact va_tlen (t := k.1.2.1) C.1 C.2.1 C.2.2.2.2.2.2.2.2.2.2.2.2.2.2.1 S (v := zln h 100000) rfl hd K
  · refine va_tlen (t := k.1.2.2) C.1 C.2.1 C.2.2.2.2.2.2.2.2.2.2.2.2.2.2.2.1 S (v := zln h 100001) ?_ hd K
    have hn := C.2.2.2.2.2.2.2.2.2.2.2.2.2.2.2.2.1
    obtain ⟨n, hn2, he⟩ := nI_of hn
    simp only [zln, if_pos]
    rw [P.2.2.2, he, nI_clamp hn2]
    rfl
theorem zs_getstatic {x : Nat} (hd : decode M.2.2.1 pc = .ok (.getstatic x, 3)) (hf : zGS.any (fun e => e.1 == M.1 && e.2.1 == x) = true) (kk : zG M N Q (pc + 3) lv (.ref 100000 :: st) h) : zG M N Q pc lv st h := by
  intro k p l e R s m args below meth c H ls locs cells slots Qf C P S L Z F
  have K := kk k p l e R s m args below meth c H ls locs cells slots Qf C P S L Z F
  exact va_getsN (v := .ref k.1.2.1) C.1 C.2.1 C.2.2.2.2.2.2.2.2.2.2.2.2.2.1 S C.2.2.2.2.1 (va_Nw.use rfl (C.2.2.2.2.2.2.2.2.2.2.2.2.2.2.2.2.2.1 _ (zGS_mem hf))) (fun _ h9 => h9) hd K
end
