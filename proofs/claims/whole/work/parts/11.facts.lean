/-! facts on single cells: printed by wip/whole/gen_facts.py -/
theorem zA {p : Prop} {ps : List Prop} (h : p) (hs : zall ps) : zall (p :: ps) := ⟨h, hs⟩
theorem zsw_out {x : Int32} {n : Nat} {hi : Int} (hn : (n : Int) = hi + 1) (h : ∀ j : Nat, j < n → ¬ x = nI j) : x.toInt < 0 ∨ hi < x.toInt := by
  by_cases h0 : x.toInt < 0
  · exact Or.inl h0
  · right
    obtain ⟨j, hj, rfl⟩ := nI_of (x := x) (fun q => h0 (by rw [Int32.lt_iff_toInt_lt] at q; simpa using q))
    rw [nI_toInt hj]
    by_cases hjn : j < n
    · exact absurd rfl (h j hjn)
    · omega
section
variable {sg : zSig} {i : Int32}
theorem zob_0 : zOb (zN sg) 0 9 := ⟨(by decide : 0 < 411), rfl⟩
theorem zob_1 : zOb (zN sg) 1 5 := ⟨(by decide : 1 < 411), rfl⟩
theorem zin_2 (h0 : 0 ≤ i) (h1 : i < 200) : zIn (zN sg) 2 0 i := ⟨(by decide : 2 < 411), rfl, rfl, h0, h1⟩
theorem zinL_2 (h0 : 0 ≤ i) (h1 : i < 200) : zInL (zN sg) 2 i := Or.inl (zin_2 h0 h1)
theorem zin_3 (h0 : 0 ≤ i) (h1 : i < 200) : zIn (zN sg) 3 0 i := ⟨(by decide : 3 < 411), rfl, rfl, h0, h1⟩
theorem zinL_3 (h0 : 0 ≤ i) (h1 : i < 200) : zInL (zN sg) 3 i := Or.inl (zin_3 h0 h1)
theorem zob_34 : zOb (zN sg) 34 7 := ⟨(by decide : 34 < 411), rfl⟩
theorem zin_35 (h0 : 0 ≤ i) (h1 : i < 400) : zIn (zN sg) 35 0 i := ⟨(by decide : 35 < 411), rfl, rfl, h0, h1⟩
theorem zinL_35 (h0 : 0 ≤ i) (h1 : i < 400) : zInL (zN sg) 35 i := Or.inl (zin_35 h0 h1)
theorem zob_36 : zOb (zN sg) 36 2 := ⟨(by decide : 36 < 411), rfl⟩
theorem zin_312 (h0 : 0 ≤ i) (h1 : i < 2) : zIn (zN sg) 312 2 i := ⟨(by decide : 312 < 411), rfl, rfl, h0, h1⟩
theorem zob_313 : zOb (zN sg) 313 3 := ⟨(by decide : 313 < 411), rfl⟩
theorem zin_314 (h0 : 0 ≤ i) (h1 : i < 200) : zIn (zN sg) 314 0 i := ⟨(by decide : 314 < 411), rfl, rfl, h0, h1⟩
theorem zinL_314 (h0 : 0 ≤ i) (h1 : i < 200) : zInL (zN sg) 314 i := Or.inl (zin_314 h0 h1)
theorem zob_315 : zOb (zN sg) 315 3 := ⟨(by decide : 315 < 411), rfl⟩
theorem zin_316 (h0 : 0 ≤ i) (h1 : i < 200) : zIn (zN sg) 316 0 i := ⟨(by decide : 316 < 411), rfl, rfl, h0, h1⟩
theorem zinL_316 (h0 : 0 ≤ i) (h1 : i < 200) : zInL (zN sg) 316 i := Or.inl (zin_316 h0 h1)
theorem zob_317 : zOb (zN sg) 317 4 := ⟨(by decide : 317 < 411), rfl⟩
theorem zin_318 (h0 : 0 ≤ i) (h1 : i < 200) : zIn (zN sg) 318 0 i := ⟨(by decide : 318 < 411), rfl, rfl, h0, h1⟩
theorem zinL_318 (h0 : 0 ≤ i) (h1 : i < 200) : zInL (zN sg) 318 i := Or.inl (zin_318 h0 h1)
theorem zin_319 (h0 : 0 ≤ i) (h1 : i < 200) : zIn (zN sg) 319 0 i := ⟨(by decide : 319 < 411), rfl, rfl, h0, h1⟩
theorem zinL_319 (h0 : 0 ≤ i) (h1 : i < 200) : zInL (zN sg) 319 i := Or.inl (zin_319 h0 h1)
theorem zin_320 (h0 : 0 ≤ i) (h1 : i < 8) : zIn (zN sg) 320 0 i := ⟨(by decide : 320 < 411), rfl, rfl, h0, h1⟩
theorem zinL_320 (h0 : 0 ≤ i) (h1 : i < 8) : zInL (zN sg) 320 i := Or.inl (zin_320 h0 h1)
theorem zin_321 (h0 : 0 ≤ i) (h1 : i < 9) : zIn (zN sg) 321 0 i := ⟨(by decide : 321 < 411), rfl, rfl, h0, h1⟩
theorem zinL_321 (h0 : 0 ≤ i) (h1 : i < 9) : zInL (zN sg) 321 i := Or.inl (zin_321 h0 h1)
theorem zob_322 : zOb (zN sg) 322 8 := ⟨(by decide : 322 < 411), rfl⟩
theorem zin_323 (h0 : 0 ≤ i) (h1 : i < 400) : zIn (zN sg) 323 0 i := ⟨(by decide : 323 < 411), rfl, rfl, h0, h1⟩
theorem zinL_323 (h0 : 0 ≤ i) (h1 : i < 400) : zInL (zN sg) 323 i := Or.inl (zin_323 h0 h1)
theorem zin_324 (h0 : 0 ≤ i) (h1 : i < 6) : zIn (zN sg) 324 0 i := ⟨(by decide : 324 < 411), rfl, rfl, h0, h1⟩
theorem zinL_324 (h0 : 0 ≤ i) (h1 : i < 6) : zInL (zN sg) 324 i := Or.inl (zin_324 h0 h1)
theorem zin_325 (h0 : 0 ≤ i) (h1 : i < 6) : zIn (zN sg) 325 0 i := ⟨(by decide : 325 < 411), rfl, rfl, h0, h1⟩
theorem zinL_325 (h0 : 0 ≤ i) (h1 : i < 6) : zInL (zN sg) 325 i := Or.inl (zin_325 h0 h1)
theorem zin_326 (h0 : 0 ≤ i) (h1 : i < 7) : zIn (zN sg) 326 0 i := ⟨(by decide : 326 < 411), rfl, rfl, h0, h1⟩
theorem zinL_326 (h0 : 0 ≤ i) (h1 : i < 7) : zInL (zN sg) 326 i := Or.inl (zin_326 h0 h1)
theorem zob_393 : zOb (zN sg) 393 10 := ⟨(by decide : 393 < 411), rfl⟩
theorem zin_394 (h0 : 0 ≤ i) (h1 : i < 7) : zIn (zN sg) 394 0 i := ⟨(by decide : 394 < 411), rfl, rfl, h0, h1⟩
theorem zinL_394 (h0 : 0 ≤ i) (h1 : i < 7) : zInL (zN sg) 394 i := Or.inl (zin_394 h0 h1)
theorem zin_395 (h0 : 0 ≤ i) (h1 : i < 995) : zIn (zN sg) 395 0 i := ⟨(by decide : 395 < 411), rfl, rfl, h0, h1⟩
theorem zinL_395 (h0 : 0 ≤ i) (h1 : i < 995) : zInL (zN sg) 395 i := Or.inl (zin_395 h0 h1)
theorem zin_396 (h0 : 0 ≤ i) (h1 : i < 7960) : zIn (zN sg) 396 0 i := ⟨(by decide : 396 < 411), rfl, rfl, h0, h1⟩
theorem zinL_396 (h0 : 0 ≤ i) (h1 : i < 7960) : zInL (zN sg) 396 i := Or.inl (zin_396 h0 h1)
theorem zin_397 (h0 : 0 ≤ i) (h1 : i < 8) : zIn (zN sg) 397 0 i := ⟨(by decide : 397 < 411), rfl, rfl, h0, h1⟩
theorem zinL_397 (h0 : 0 ≤ i) (h1 : i < 8) : zInL (zN sg) 397 i := Or.inl (zin_397 h0 h1)
theorem zin_398 (h0 : 0 ≤ i) (h1 : i < 24) : zIn (zN sg) 398 0 i := ⟨(by decide : 398 < 411), rfl, rfl, h0, h1⟩
theorem zinL_398 (h0 : 0 ≤ i) (h1 : i < 24) : zInL (zN sg) 398 i := Or.inl (zin_398 h0 h1)
theorem zin_399 (h0 : 0 ≤ i) (h1 : i < 1990) : zIn (zN sg) 399 0 i := ⟨(by decide : 399 < 411), rfl, rfl, h0, h1⟩
theorem zinL_399 (h0 : 0 ≤ i) (h1 : i < 1990) : zInL (zN sg) 399 i := Or.inl (zin_399 h0 h1)
theorem zin_400 (h0 : 0 ≤ i) (h1 : i < 2) : zIn (zN sg) 400 2 i := ⟨(by decide : 400 < 411), rfl, rfl, h0, h1⟩
theorem zin_401 (h0 : 0 ≤ i) (h1 : i < 400) : zIn (zN sg) 401 1 i := ⟨(by decide : 401 < 411), rfl, rfl, h0, h1⟩
theorem zin_402 (h0 : 0 ≤ i) (h1 : i < 16) : zIn (zN sg) 402 2 i := ⟨(by decide : 402 < 411), rfl, rfl, h0, h1⟩
theorem zin_403 (h0 : 0 ≤ i) (h1 : i < 12) : zIn (zN sg) 403 2 i := ⟨(by decide : 403 < 411), rfl, rfl, h0, h1⟩
theorem zin_404 (h0 : 0 ≤ i) (h1 : i < 800) : zIn (zN sg) 404 0 i := ⟨(by decide : 404 < 411), rfl, rfl, h0, h1⟩
theorem zinL_404 (h0 : 0 ≤ i) (h1 : i < 800) : zInL (zN sg) 404 i := Or.inl (zin_404 h0 h1)
theorem zin_405 (h0 : 0 ≤ i) (h1 : i < 800) : zIn (zN sg) 405 0 i := ⟨(by decide : 405 < 411), rfl, rfl, h0, h1⟩
theorem zinL_405 (h0 : 0 ≤ i) (h1 : i < 800) : zInL (zN sg) 405 i := Or.inl (zin_405 h0 h1)
theorem zin_406 (h0 : 0 ≤ i) (h1 : i < 8) : zIn (zN sg) 406 0 i := ⟨(by decide : 406 < 411), rfl, rfl, h0, h1⟩
theorem zinL_406 (h0 : 0 ≤ i) (h1 : i < 8) : zInL (zN sg) 406 i := Or.inl (zin_406 h0 h1)
theorem zin_407 (h0 : 0 ≤ i) (h1 : i < 8) : zIn (zN sg) 407 0 i := ⟨(by decide : 407 < 411), rfl, rfl, h0, h1⟩
theorem zinL_407 (h0 : 0 ≤ i) (h1 : i < 8) : zInL (zN sg) 407 i := Or.inl (zin_407 h0 h1)
theorem zin_408 (h0 : 0 ≤ i) (h1 : i < 10000) : zIn (zN sg) 408 1 i := ⟨(by decide : 408 < 411), rfl, rfl, h0, h1⟩
theorem zin_409 (h0 : 0 ≤ i) (h1 : i < 201) : zIn (zN sg) 409 0 i := ⟨(by decide : 409 < 411), rfl, rfl, h0, h1⟩
theorem zinL_409 (h0 : 0 ≤ i) (h1 : i < 201) : zInL (zN sg) 409 i := Or.inl (zin_409 h0 h1)
theorem zin_410 (h0 : 0 ≤ i) (h1 : i < 200) : zIn (zN sg) 410 0 i := ⟨(by decide : 410 < 411), rfl, rfl, h0, h1⟩
theorem zinL_410 (h0 : 0 ≤ i) (h1 : i < 200) : zInL (zN sg) 410 i := Or.inl (zin_410 h0 h1)
theorem zinL_100000 (h0 : 0 ≤ i) (h1 : i < 6) : zInL (zN sg) 100000 i := Or.inr (Or.inl ⟨rfl, h0, h1⟩)
theorem zel_4 (h0 : 0 ≤ i) (h1 : i < 16) : ∃ j : Nat, j < 16 ∧ i = nI j ∧ zel 4 i = 6 + 1 * j := by
  obtain ⟨j, hj, rfl⟩ := vp_in_of (zvp_in (n := 16) (by decide) h0 h1) (by decide)
  exact ⟨j, hj, rfl, by show 4 + 2 + 1 * (nI j).toNatClampNeg = _; rw [nI_clamp (by omega)]⟩
theorem zinR_4 (h0 : 0 ≤ i) (h1 : i < 16) : zInR (zN sg) 4 i := by
  obtain ⟨j, hj, rfl, he⟩ := zel_4 h0 h1
  refine ⟨(by decide : 4 < 411), rfl, h0, h1, rfl, ?_⟩
  have : zel 4 (nI j) < 100000 := by rw [he]; omega
  exact this
theorem zel_ob4 (h0 : 0 ≤ i) (h1 : i < 16) : zOb (zN sg) (zel 4 i) 6 := by
  obtain ⟨j, hj, rfl, he⟩ := zel_4 h0 h1
  rw [he]
  refine ⟨by show _ < 411; omega, ?_⟩
  have key : ∀ j, j < 16 → zSh (6 + 1 * j) = (0, 6, 0) := by decide +kernel
  exact key j hj
theorem zel_5 (h0 : 0 ≤ i) (h1 : i < 12) : ∃ j : Nat, j < 12 ∧ i = nI j ∧ zel 5 i = 22 + 1 * j := by
  obtain ⟨j, hj, rfl⟩ := vp_in_of (zvp_in (n := 12) (by decide) h0 h1) (by decide)
  exact ⟨j, hj, rfl, by show 5 + 17 + 1 * (nI j).toNatClampNeg = _; rw [nI_clamp (by omega)]⟩
theorem zinR_5 (h0 : 0 ≤ i) (h1 : i < 12) : zInR (zN sg) 5 i := by
  obtain ⟨j, hj, rfl, he⟩ := zel_5 h0 h1
  refine ⟨(by decide : 5 < 411), rfl, h0, h1, rfl, ?_⟩
  have : zel 5 (nI j) < 100000 := by rw [he]; omega
  exact this
theorem zel_ob5 (h0 : 0 ≤ i) (h1 : i < 12) : zOb (zN sg) (zel 5 i) 1 := by
  obtain ⟨j, hj, rfl, he⟩ := zel_5 h0 h1
  rw [he]
  refine ⟨by show _ < 411; omega, ?_⟩
  have key : ∀ j, j < 12 → zSh (22 + 1 * j) = (0, 1, 0) := by decide +kernel
  exact key j hj
theorem zel_37 (h0 : 0 ≤ i) (h1 : i < 8) : ∃ j : Nat, j < 8 ∧ i = nI j ∧ zel 37 i = 39 + 34 * j := by
  obtain ⟨j, hj, rfl⟩ := vp_in_of (zvp_in (n := 8) (by decide) h0 h1) (by decide)
  exact ⟨j, hj, rfl, by show 37 + 2 + 34 * (nI j).toNatClampNeg = _; rw [nI_clamp (by omega)]⟩
theorem zinR_37 (h0 : 0 ≤ i) (h1 : i < 8) : zInR (zN sg) 37 i := by
  obtain ⟨j, hj, rfl, he⟩ := zel_37 h0 h1
  refine ⟨(by decide : 37 < 411), rfl, h0, h1, rfl, ?_⟩
  have : zel 37 (nI j) < 100000 := by rw [he]; omega
  exact this
theorem zel_ob37 (h0 : 0 ≤ i) (h1 : i < 8) : zOb (zN sg) (zel 37 i) 5 := by
  obtain ⟨j, hj, rfl, he⟩ := zel_37 h0 h1
  rw [he]
  refine ⟨by show _ < 411; omega, ?_⟩
  have key : ∀ j, j < 8 → zSh (39 + 34 * j) = (0, 5, 0) := by decide +kernel
  exact key j hj
theorem zel_38 (h0 : 0 ≤ i) (h1 : i < 8) : ∃ j : Nat, j < 8 ∧ i = nI j ∧ zel 38 i = 72 + 34 * j := by
  obtain ⟨j, hj, rfl⟩ := vp_in_of (zvp_in (n := 8) (by decide) h0 h1) (by decide)
  exact ⟨j, hj, rfl, by show 38 + 34 + 34 * (nI j).toNatClampNeg = _; rw [nI_clamp (by omega)]⟩
theorem zinR_38 (h0 : 0 ≤ i) (h1 : i < 8) : zInR (zN sg) 38 i := by
  obtain ⟨j, hj, rfl, he⟩ := zel_38 h0 h1
  refine ⟨(by decide : 38 < 411), rfl, h0, h1, rfl, ?_⟩
  have : zel 38 (nI j) < 100000 := by rw [he]; omega
  exact this
theorem zel_ob38 (h0 : 0 ≤ i) (h1 : i < 8) : zOb (zN sg) (zel 38 i) 0 := by
  obtain ⟨j, hj, rfl, he⟩ := zel_38 h0 h1
  rw [he]
  refine ⟨by show _ < 411; omega, ?_⟩
  have key : ∀ j, j < 8 → zSh (72 + 34 * j) = (0, 0, 0) := by decide +kernel
  exact key j hj
theorem zel_311 (h0 : 0 ≤ i) (h1 : i < 2) : ∃ j : Nat, j < 2 ∧ i = nI j ∧ zel 311 i = 327 + 33 * j := by
  obtain ⟨j, hj, rfl⟩ := vp_in_of (zvp_in (n := 2) (by decide) h0 h1) (by decide)
  exact ⟨j, hj, rfl, by show 311 + 16 + 33 * (nI j).toNatClampNeg = _; rw [nI_clamp (by omega)]⟩
theorem zinR_311 (h0 : 0 ≤ i) (h1 : i < 2) : zInR (zN sg) 311 i := by
  obtain ⟨j, hj, rfl, he⟩ := zel_311 h0 h1
  refine ⟨(by decide : 311 < 411), rfl, h0, h1, rfl, ?_⟩
  have : zel 311 (nI j) < 100000 := by rw [he]; omega
  exact this
theorem zel_ob311 (h0 : 0 ≤ i) (h1 : i < 2) : zOb (zN sg) (zel 311 i) 5 := by
  obtain ⟨j, hj, rfl, he⟩ := zel_311 h0 h1
  rw [he]
  refine ⟨by show _ < 411; omega, ?_⟩
  have key : ∀ j, j < 2 → zSh (327 + 33 * j) = (0, 5, 0) := by decide +kernel
  exact key j hj
end
theorem zup_s {sg : zSig} {a : Nat} {i x : Int32} : zup sg a i x a i = x := by simp [zup]
theorem zup_a {sg : zSig} {a b : Nat} {i j x : Int32} (h : b ≠ a) : zup sg a i x b j = sg b j := by simp [zup, h]
theorem zup_i {sg : zSig} {a b : Nat} {i j x : Int32} (h : j ≠ i) : zup sg a i x b j = sg b j := by by_cases hb : b = a <;> simp [zup, hb, h]
theorem zup_e {sg : zSig} {a b : Nat} {i j x : Int32} : zup sg a i x b j = if b = a ∧ j = i then x else sg b j := by by_cases hb : b = a <;> by_cases hj : j = i <;> simp [zup, hb, hj]
theorem zcp_e {sg : zSig} {a b c : Nat} {sp dp n j : Int32} : zcp sg a b sp dp n c j = if c = b ∧ dp ≤ j ∧ j < dp + n then sg a (sp + (j - dp)) else sg c j := by by_cases hb : c = b <;> by_cases hj : dp ≤ j ∧ j < dp + n <;> simp [zcp, hb, hj]
