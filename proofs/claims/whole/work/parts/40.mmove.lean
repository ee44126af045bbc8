/-! the reference: letters move: printed by wip/whole/p40.py -/
def mGo (sg : zSig) (f t s : Int32) : Bool := decide (((0 ≤ s ∧ s < sg 395 1) ∧ sg 395 (803 + 9 * s) = 1) ∧ f ≤ sg 395 (803 + 9 * s + 1) ∧ sg 395 (803 + 9 * s + 2) ≤ t)
def mGoA (sg : zSig) (f t s : Int32) : Bool := decide (((0 ≤ s ∧ s < sg 395 2) ∧ sg 395 (947 + 4 * s) = 1) ∧ f < sg 395 (947 + 4 * s + 1) ∧ sg 395 (947 + 4 * s + 1) < t)
def nGo (sg : zSig) (f t s a : Int32) : Int32 := if mGo sg f t s = true then a + 1 else a
theorem mGo_i {sg : zSig} {f t s : Int32} : (if mGo sg f t s = true then (1 : Int32) else 0) = if ((0 ≤ s ∧ s < sg 395 1) ∧ sg 395 (803 + 9 * s) = 1) ∧ f ≤ sg 395 (803 + 9 * s + 1) ∧ sg 395 (803 + 9 * s + 2) ≤ t then 1 else 0 := by
  unfold mGo; simp only [decide_eq_true_eq]
theorem mGoA_i {sg : zSig} {f t s : Int32} : (if mGoA sg f t s = true then (1 : Int32) else 0) = if ((0 ≤ s ∧ s < sg 395 2) ∧ sg 395 (947 + 4 * s) = 1) ∧ f < sg 395 (947 + 4 * s + 1) ∧ sg 395 (947 + 4 * s + 1) < t then 1 else 0 := by
  unfold mGoA; simp only [decide_eq_true_eq]
def mShs (d : Int32) (sg : zSig) (s f : Int32) : Int32 := if sg 402 s = 0 then sg 395 (803 + 9 * s + f) else (if f = 1 then sg 395 (803 + 9 * s + 1) + d else if f = 2 then sg 395 (803 + 9 * s + 2) + d else sg 395 (803 + 9 * s + f))
def mSha (d : Int32) (sg : zSig) (s f : Int32) : Int32 := if f = 1 then sg 395 (947 + 4 * s + 1) + (if sg 403 s = 0 then 0 else d) else sg 395 (947 + 4 * s + f)
theorem loc_mShs (d : Int32) : hlocs (mShs d) := fun sg sg' s h hf f f0 f1 => by
  unfold mShs; rw [h 402 s (by decide), hf 1 (by decide) (by decide), hf 2 (by decide) (by decide), hf f f0 f1]
theorem loc_mSha (d : Int32) : hloca (mSha d) := fun sg sg' s h hf f f0 f1 => by
  unfold mSha; rw [h 403 s (by decide), hf 1 (by decide) (by decide), hf f f0 f1]
def mGo3 (sg sg1 sg' : zSig) (f t : Int32) : Prop := (∀ c j, c ≠ 402 → c ≠ 403 → c ≠ 404 → sg' c j = sg1 c j) ∧ (∀ j, 0 ≤ j → j < 4 * (t - f) → sg' 404 j = sg 395 (3 + 4 * f + j)) ∧ (∀ s, 0 ≤ s → s < 16 → sg' 402 s = if mGo sg f t s = true then 1 else 0) ∧ ∀ s, 0 ≤ s → s < 12 → sg' 403 s = if mGoA sg f t s = true then 1 else 0
def mFin (sg sg' : zSig) (p th d : Int32) : Prop := (∀ c j, c ≠ 395 → sg' c j = sg c j) ∧ (∀ j, j < 803 → sg' 395 j = if 3 + 4 * th ≤ j ∧ j < 3 + 4 * th + 4 * d then sg 404 (j - (3 + 4 * th)) else sg 395 j) ∧ (∀ s f, 0 ≤ s → s < 16 → 0 ≤ f → f < 9 → sg' 395 (803 + 9 * s + f) = mShs (th - p) sg s f) ∧ ∀ s f, 0 ≤ s → s < 12 → 0 ≤ f → f < 4 → sg' 395 (947 + 4 * s + f) = mSha (th - p) sg s f
theorem bkMo_move_5 : zBk mMo_move 5 [(1, 0, 1, 0, 0), (1, 1, 0, 0, 0), (1, 2, 0, 0, 0)] = some 8 := by decide +kernel
theorem bkMo_move_11 : zBk mMo_move 11 [] = some 11 := by decide +kernel
theorem bkMo_move_22 : zBk mMo_move 22 [(1, 0, 1, 0, 0), (0, 0, 0, 0, -1)] = some 24 := by decide +kernel
theorem bkMo_move_27 : zBk mMo_move 27 [] = some 27 := by decide +kernel
theorem bkMo_move_14 : zBk mMo_move 14 [(1, 0, 1, 0, 0), (1, 3, 0, 0, 0)] = some 16 := by decide +kernel
theorem bkMo_move_19 : zBk mMo_move 19 [] = some 19 := by decide +kernel
theorem bkMo_move_28 : zBk mMo_move 28 [(1, 3, 0, 0, 0), (14, 0, 0, 0, 0), (1, 1, 0, 0, 0), (14, 0, 0, 0, 0), (1, 2, 0, 0, 0), (14, 0, 0, 0, 0)] = some 34 := by decide +kernel
theorem bkMo_move_37 : zBk mMo_move 37 [] = some 37 := by decide +kernel
theorem bkMo_move_47 : zBk mMo_move 47 [(1, 0, 1, 0, 0), (0, 0, 0, 0, 2)] = some 49 := by decide +kernel
theorem bkMo_move_52 : zBk mMo_move 52 [(1, 2, 0, 0, 0), (1, 1, 0, 0, 0), (4, 1, 0, 0, 0), (2, 4, 0, 0, 0)] = some 57 := by decide +kernel
theorem bkMo_move_70 : zBk mMo_move 70 [(2, 5, 0, 0, 0), (0, 0, 0, 0, 0), (2, 6, 0, 0, 0), (0, 0, 0, 0, 0), (2, 7, 0, 0, 0)] = some 78 := by decide +kernel
theorem bkMo_move_78 : zBk mMo_move 78 [(1, 7, 0, 0, 0), (0, 0, 0, 0, 4), (1, 4, 0, 0, 0), (4, 2, 0, 0, 0)] = some 84 := by decide +kernel
theorem bkMo_move_112 : zBk mMo_move 112 [(0, 0, 0, 0, 0), (2, 7, 0, 0, 0)] = some 115 := by decide +kernel
theorem bkMo_move_115 : zBk mMo_move 115 [(1, 7, 0, 0, 0), (0, 0, 0, 0, 16)] = some 119 := by decide +kernel
theorem bkMo_move_202 : zBk mMo_move 202 [(0, 0, 0, 0, 0), (2, 7, 0, 0, 0)] = some 205 := by decide +kernel
theorem bkMo_move_205 : zBk mMo_move 205 [(1, 7, 0, 0, 0), (0, 0, 0, 0, 12)] = some 209 := by decide +kernel
theorem bkMo_move_271 : zBk mMo_move 271 [(1, 0, 1, 0, 0), (1, 1, 0, 0, 0), (1, 2, 0, 0, 0), (1, 5, 0, 0, 0)] = some 276 := by decide +kernel
theorem bkMo_move_279 : zBk mMo_move 279 [(1, 0, 1, 0, 0), (1, 1, 0, 0, 0), (1, 2, 0, 0, 0), (0, 0, 0, 0, 1)] = some 283 := by decide +kernel
theorem bkMo_move_286 : zBk mMo_move 286 [(1, 0, 1, 0, 0), (1, 5, 0, 0, 0), (1, 4, 0, 0, 0), (0, 0, 0, 0, 1)] = some 292 := by decide +kernel
theorem bkMo_move_295 : zBk mMo_move 295 [(0, 0, 0, 0, 0), (2, 7, 0, 0, 0)] = some 298 := by decide +kernel
theorem bkMo_move_298 : zBk mMo_move 298 [(1, 7, 0, 0, 0), (0, 0, 0, 0, 4), (1, 4, 0, 0, 0), (4, 2, 0, 0, 0)] = some 304 := by decide +kernel
theorem bkMo_move_333 : zBk mMo_move 333 [(0, 0, 0, 0, 0), (2, 7, 0, 0, 0)] = some 336 := by decide +kernel
theorem bkMo_move_336 : zBk mMo_move 336 [(1, 7, 0, 0, 0), (0, 0, 0, 0, 16)] = some 340 := by decide +kernel
theorem bkMo_move_397 : zBk mMo_move 397 [(0, 0, 0, 0, 0), (2, 7, 0, 0, 0)] = some 400 := by decide +kernel
theorem bkMo_move_400 : zBk mMo_move 400 [(1, 7, 0, 0, 0), (0, 0, 0, 0, 12)] = some 404 := by decide +kernel
theorem bkMo_move_446 : zBk mMo_move 446 [(1, 0, 1, 0, 0), (1, 6, 0, 0, 0)] = some 449 := by decide +kernel
theorem bkMo_move_452 : zBk mMo_move 452 [] = some 452 := by decide +kernel
theorem bkMo_move_407 : zBk mMo_move 407 [(1, 0, 1, 0, 0), (5, 10, 3, 2, 3), (1, 7, 0, 0, 0)] = some 413 := by decide +kernel
theorem bkMo_move_416 : zBk mMo_move 416 [(0, 0, 0, 0, 1), (4, 0, 0, 0, 0), (19, 0, 0, 0, 0), (7, 0, 0, 0, 0), (1, 0, 1, 0, 0), (5, 10, 14, 10, 14), (1, 7, 0, 0, 0), (7, 2, 0, 0, 0)] = some 427 := by decide +kernel
theorem bkMo_move_437 : zBk mMo_move 437 [(0, 0, 0, 0, 0), (4, 0, 0, 0, 0), (8, 0, 0, 0, 0), (3, 7, 0, 0, 1), (22, 400, 0, 0, 0)] = some 400 := by decide +kernel
theorem bkMo_move_430 : zBk mMo_move 430 [(1, 5, 0, 0, 0), (1, 1, 0, 0, 0), (4, 1, 0, 0, 0), (22, 438, 0, 0, 0), (4, 0, 0, 0, 0), (8, 0, 0, 0, 0), (3, 7, 0, 0, 1), (22, 400, 0, 0, 0)] = some 400 := by decide +kernel
theorem bkMo_move_343 : zBk mMo_move 343 [(1, 0, 1, 0, 0), (5, 10, 13, 9, 13), (1, 7, 0, 0, 0), (7, 2, 0, 0, 0)] = some 350 := by decide +kernel
theorem bkMo_move_391 : zBk mMo_move 391 [(3, 7, 0, 0, 1), (22, 336, 0, 0, 0)] = some 336 := by decide +kernel
theorem bkMo_move_353 : zBk mMo_move 353 [(1, 0, 1, 0, 0), (5, 10, 3, 2, 3), (1, 7, 0, 0, 0)] = some 359 := by decide +kernel
theorem bkMo_move_362 : zBk mMo_move 362 [(0, 0, 0, 0, 1), (4, 0, 0, 0, 0), (19, 0, 0, 0, 0), (7, 0, 0, 0, 0), (1, 5, 0, 0, 0), (1, 1, 0, 0, 0), (4, 1, 0, 0, 0), (4, 0, 0, 0, 0), (8, 0, 0, 0, 0), (1, 0, 1, 0, 0), (5, 10, 3, 2, 3), (1, 7, 0, 0, 0)] = some 378 := by decide +kernel
theorem bkMo_move_381 : zBk mMo_move 381 [(0, 0, 0, 0, 2), (4, 0, 0, 0, 0), (19, 0, 0, 0, 0), (7, 0, 0, 0, 0), (1, 5, 0, 0, 0), (1, 1, 0, 0, 0), (4, 1, 0, 0, 0), (4, 0, 0, 0, 0), (8, 0, 0, 0, 0)] = some 391 := by decide +kernel
theorem bkMo_move_307 : zBk mMo_move 307 [(1, 0, 1, 0, 0), (5, 10, 3, 2, 3), (1, 5, 0, 0, 0)] = some 313 := by decide +kernel
theorem bkMo_move_316 : zBk mMo_move 316 [(1, 7, 0, 0, 0), (4, 0, 0, 0, 0), (1, 0, 1, 0, 0), (5, 10, 15, 11, 15), (1, 7, 0, 0, 0), (7, 0, 0, 0, 0), (8, 0, 0, 0, 0), (3, 7, 0, 0, 1), (22, 298, 0, 0, 0)] = some 298 := by decide +kernel
theorem bkMo_move_212 : zBk mMo_move 212 [(1, 0, 1, 0, 0), (5, 10, 14, 10, 14), (1, 7, 0, 0, 0)] = some 218 := by decide +kernel
theorem bkMo_move_264 : zBk mMo_move 264 [(8, 2, 0, 0, 0)] = some 265 := by decide +kernel
theorem bkMo_move_265 : zBk mMo_move 265 [(3, 7, 0, 0, 1), (22, 205, 0, 0, 0)] = some 205 := by decide +kernel
theorem bkMo_move_218 : zBk mMo_move 218 [(1, 0, 1, 0, 0), (1, 7, 0, 0, 0)] = some 221 := by decide +kernel
theorem bkMo_move_224 : zBk mMo_move 224 [] = some 224 := by decide +kernel
theorem bkMo_move_263 : zBk mMo_move 263 [(0, 0, 0, 0, 0)] = some 264 := by decide +kernel
theorem bkMo_move_227 : zBk mMo_move 227 [(1, 0, 1, 0, 0), (5, 10, 3, 2, 3), (1, 7, 0, 0, 0)] = some 233 := by decide +kernel
theorem bkMo_move_236 : zBk mMo_move 236 [(0, 0, 0, 0, 1), (4, 0, 0, 0, 0), (7, 0, 0, 0, 0), (1, 1, 0, 0, 0)] = some 240 := by decide +kernel
theorem bkMo_move_243 : zBk mMo_move 243 [(1, 0, 1, 0, 0), (5, 10, 3, 2, 3), (1, 7, 0, 0, 0)] = some 249 := by decide +kernel
theorem bkMo_move_252 : zBk mMo_move 252 [(0, 0, 0, 0, 1), (4, 0, 0, 0, 0), (7, 0, 0, 0, 0), (1, 2, 0, 0, 0)] = some 256 := by decide +kernel
theorem bkMo_move_259 : zBk mMo_move 259 [(0, 0, 0, 0, 1), (22, 264, 0, 0, 0)] = some 264 := by decide +kernel
theorem bkMo_move_122 : zBk mMo_move 122 [(1, 7, 0, 0, 0)] = some 124 := by decide +kernel
theorem bkMo_move_127 : zBk mMo_move 127 [(2, 8, 0, 0, 0), (1, 0, 1, 0, 0), (5, 10, 13, 9, 13), (1, 7, 0, 0, 0)] = some 135 := by decide +kernel
theorem bkMo_move_175 : zBk mMo_move 175 [(8, 2, 0, 0, 0)] = some 176 := by decide +kernel
theorem bkMo_move_176 : zBk mMo_move 176 [(1, 6, 0, 0, 0), (1, 0, 1, 0, 0), (5, 10, 13, 9, 13), (1, 7, 0, 0, 0), (7, 2, 0, 0, 0)] = some 185 := by decide +kernel
theorem bkMo_move_192 : zBk mMo_move 192 [(0, 0, 0, 0, 0), (4, 0, 0, 0, 0), (2, 6, 0, 0, 0), (3, 7, 0, 0, 1), (22, 115, 0, 0, 0)] = some 115 := by decide +kernel
theorem bkMo_move_188 : zBk mMo_move 188 [(0, 0, 0, 0, 1), (22, 193, 0, 0, 0), (4, 0, 0, 0, 0), (2, 6, 0, 0, 0), (3, 7, 0, 0, 1), (22, 115, 0, 0, 0)] = some 115 := by decide +kernel
theorem bkMo_move_135 : zBk mMo_move 135 [(1, 0, 1, 0, 0), (1, 7, 0, 0, 0)] = some 138 := by decide +kernel
theorem bkMo_move_141 : zBk mMo_move 141 [] = some 141 := by decide +kernel
theorem bkMo_move_174 : zBk mMo_move 174 [(0, 0, 0, 0, 0)] = some 175 := by decide +kernel
theorem bkMo_move_144 : zBk mMo_move 144 [(1, 0, 1, 0, 0), (5, 10, 3, 2, 3), (1, 8, 0, 0, 0), (0, 0, 0, 0, 1), (4, 0, 0, 0, 0), (7, 0, 0, 0, 0), (1, 1, 0, 0, 0)] = some 154 := by decide +kernel
theorem bkMo_move_157 : zBk mMo_move 157 [(1, 0, 1, 0, 0), (5, 10, 3, 2, 3), (1, 8, 0, 0, 0), (0, 0, 0, 0, 2), (4, 0, 0, 0, 0), (7, 0, 0, 0, 0), (1, 2, 0, 0, 0)] = some 167 := by decide +kernel
theorem bkMo_move_170 : zBk mMo_move 170 [(0, 0, 0, 0, 1), (22, 175, 0, 0, 0)] = some 175 := by decide +kernel
theorem bkMo_move_87 : zBk mMo_move 87 [(1, 0, 1, 0, 0), (5, 10, 15, 11, 15), (1, 7, 0, 0, 0), (1, 0, 1, 0, 0), (5, 10, 3, 2, 3), (1, 1, 0, 0, 0)] = some 98 := by decide +kernel
theorem bkMo_move_101 : zBk mMo_move 101 [(1, 7, 0, 0, 0), (4, 0, 0, 0, 0), (7, 0, 0, 0, 0), (8, 0, 0, 0, 0), (3, 7, 0, 0, 1), (22, 78, 0, 0, 0)] = some 78 := by decide +kernel
theorem bkMo_move_57 : zBk mMo_move 57 [(1, 3, 0, 0, 0), (1, 2, 0, 0, 0)] = some 59 := by decide +kernel
theorem bkMo_move_69 : zBk mMo_move 69 [(1, 3, 0, 0, 0)] = some 70 := by decide +kernel
theorem bkMo_move_62 : zBk mMo_move 62 [(1, 3, 0, 0, 0), (1, 4, 0, 0, 0), (4, 1, 0, 0, 0), (22, 70, 0, 0, 0)] = some 70 := by decide +kernel
theorem bkMo_move_40 : zBk mMo_move 40 [(1, 0, 1, 0, 0), (0, 0, 0, 0, -4)] = some 43 := by decide +kernel
theorem bkMo_move_46 : zBk mMo_move 46 [] = some 46 := by decide +kernel
theorem bkMo_move_0 : zBk mMo_move 0 [(1, 0, 1, 0, 0), (0, 0, 0, 0, 0), (6, 10, 0, 0, 0)] = some 5 := by decide +kernel
theorem bdMo_move_8 : decode mMo_move.2.2.1 8 = .ok (.invokevirtual 144, 3) := by decide +kernel
theorem bdMo_move_11 : decode mMo_move.2.2.1 11 = .ok (.ifCond .eq 11, 3) := by decide +kernel
theorem bdMo_move_16 : decode mMo_move.2.2.1 16 = .ok (.invokevirtual 97, 3) := by decide +kernel
theorem bdMo_move_19 : decode mMo_move.2.2.1 19 = .ok (.ifCond .ne 9, 3) := by decide +kernel
theorem bdMo_move_24 : decode mMo_move.2.2.1 24 = .ok (.invokevirtual 80, 3) := by decide +kernel
theorem bdMo_move_27 : decode mMo_move.2.2.1 27 = .ok (.ireturn, 1) := by decide +kernel
theorem bdMo_move_34 : decode mMo_move.2.2.1 34 = .ok (.invokestatic 87, 3) := by decide +kernel
theorem bdMo_move_37 : decode mMo_move.2.2.1 37 = .ok (.ifCond .eq 10, 3) := by decide +kernel
theorem bdMo_move_43 : decode mMo_move.2.2.1 43 = .ok (.invokevirtual 80, 3) := by decide +kernel
theorem bdMo_move_46 : decode mMo_move.2.2.1 46 = .ok (.ireturn, 1) := by decide +kernel
theorem bdMo_move_49 : decode mMo_move.2.2.1 49 = .ok (.invokevirtual 127, 3) := by decide +kernel
theorem bdMo_move_59 : decode mMo_move.2.2.1 59 = .ok (.if_icmp .le 10, 3) := by decide +kernel
theorem bdMo_move_84 : decode mMo_move.2.2.1 84 = .ok (.if_icmp .ge 28, 3) := by decide +kernel
theorem bdMo_move_98 : decode mMo_move.2.2.1 98 = .ok (.invokestatic 141, 3) := by decide +kernel
theorem bdMo_move_119 : decode mMo_move.2.2.1 119 = .ok (.if_icmp .ge 83, 3) := by decide +kernel
theorem bdMo_move_124 : decode mMo_move.2.2.1 124 = .ok (.invokestatic 91, 3) := by decide +kernel
theorem bdMo_move_138 : decode mMo_move.2.2.1 138 = .ok (.invokevirtual 151, 3) := by decide +kernel
theorem bdMo_move_141 : decode mMo_move.2.2.1 141 = .ok (.ifCond .eq 33, 3) := by decide +kernel
theorem bdMo_move_154 : decode mMo_move.2.2.1 154 = .ok (.if_icmp .lt 20, 3) := by decide +kernel
theorem bdMo_move_167 : decode mMo_move.2.2.1 167 = .ok (.if_icmp .gt 7, 3) := by decide +kernel
theorem bdMo_move_185 : decode mMo_move.2.2.1 185 = .ok (.ifCond .eq 7, 3) := by decide +kernel
theorem bdMo_move_209 : decode mMo_move.2.2.1 209 = .ok (.if_icmp .ge 62, 3) := by decide +kernel
theorem bdMo_move_221 : decode mMo_move.2.2.1 221 = .ok (.invokevirtual 154, 3) := by decide +kernel
theorem bdMo_move_224 : decode mMo_move.2.2.1 224 = .ok (.ifCond .eq 39, 3) := by decide +kernel
theorem bdMo_move_233 : decode mMo_move.2.2.1 233 = .ok (.invokestatic 94, 3) := by decide +kernel
theorem bdMo_move_240 : decode mMo_move.2.2.1 240 = .ok (.if_icmp .le 23, 3) := by decide +kernel
theorem bdMo_move_249 : decode mMo_move.2.2.1 249 = .ok (.invokestatic 94, 3) := by decide +kernel
theorem bdMo_move_256 : decode mMo_move.2.2.1 256 = .ok (.if_icmp .ge 7, 3) := by decide +kernel
theorem bdMo_move_276 : decode mMo_move.2.2.1 276 = .ok (.invokevirtual 130, 3) := by decide +kernel
theorem bdMo_move_283 : decode mMo_move.2.2.1 283 = .ok (.invokevirtual 148, 3) := by decide +kernel
theorem bdMo_move_292 : decode mMo_move.2.2.1 292 = .ok (.invokevirtual 134, 3) := by decide +kernel
theorem bdMo_move_304 : decode mMo_move.2.2.1 304 = .ok (.if_icmp .ge 29, 3) := by decide +kernel
theorem bdMo_move_313 : decode mMo_move.2.2.1 313 = .ok (.invokestatic 141, 3) := by decide +kernel
theorem bdMo_move_340 : decode mMo_move.2.2.1 340 = .ok (.if_icmp .ge 57, 3) := by decide +kernel
theorem bdMo_move_350 : decode mMo_move.2.2.1 350 = .ok (.ifCond .eq 41, 3) := by decide +kernel
theorem bdMo_move_359 : decode mMo_move.2.2.1 359 = .ok (.invokestatic 91, 3) := by decide +kernel
theorem bdMo_move_378 : decode mMo_move.2.2.1 378 = .ok (.invokestatic 91, 3) := by decide +kernel
theorem bdMo_move_404 : decode mMo_move.2.2.1 404 = .ok (.if_icmp .ge 42, 3) := by decide +kernel
theorem bdMo_move_413 : decode mMo_move.2.2.1 413 = .ok (.invokestatic 94, 3) := by decide +kernel
theorem bdMo_move_427 : decode mMo_move.2.2.1 427 = .ok (.ifCond .eq 10, 3) := by decide +kernel
theorem bdMo_move_449 : decode mMo_move.2.2.1 449 = .ok (.invokevirtual 84, 3) := by decide +kernel
theorem bdMo_move_452 : decode mMo_move.2.2.1 452 = .ok (.ireturn, 1) := by decide +kernel
set_option maxHeartbeats 4000000 in
theorem lMo_move {sg : zSig} {f t r : Int32} (n0 : 0 ≤ sg 395 0) (n2 : sg 395 0 ≤ 200) (g0 : 0 ≤ sg 395 1) (g1 : sg 395 1 ≤ 16) (a0 : 0 ≤ sg 395 2) (a1 : sg 395 2 ≤ 12) (b0 : 0 ≤ sg 393 6) (b1 : sg 393 6 ≤ 8) {Q : Option Value → zHp → Prop} (hq : ∀ rr h', ((rr = some (.int (-1)) ∧ h' = zN (hRef sg (-1)) ∧ (¬ ((0 ≤ f ∧ f < t ∧ t ≤ sg 395 0) ∧ 0 ≤ r ∧ r ≤ sg 395 0))) ∨ (rr = some (.int (-4)) ∧ h' = zN (hRef sg (-4)) ∧ (((0 ≤ f ∧ f < t ∧ t ≤ sg 395 0) ∧ 0 ≤ r ∧ r ≤ sg 395 0) ∧ f ≤ r ∧ r ≤ t)) ∨ (((0 ≤ f ∧ f < t ∧ t ≤ sg 395 0) ∧ 0 ≤ r ∧ r ≤ sg 395 0) ∧ ¬ (f ≤ r ∧ r ≤ t) ∧ ∃ sg1 sg2 sg3 sg4 sg5, mRem sg sg1 2 ∧ mGo3 sg sg1 sg2 f t ∧ mTk (mNo sg2 f t (pLd f t r)) sg3 f t 1 ∧ mMk sg3 sg4 (pLd f t r) (t - f) 1 ∧ mFin sg4 sg5 f (pLd f t r) (t - f) ∧ rr = some (.int (zit (nGo sg f t) 0 16)) ∧ h' = zN (hTell sg5))) → Q rr h') : zG mMo_move 411 Q 5 [(0, .ref 393), (1, .int f), (2, .int t), (3, .int r)] [] (zN sg) := by
  refine zG_run bkMo_move_5 (lv' := [(0, .ref 393), (1, .int f), (2, .int t), (3, .int r)]) (st' := [.int t, .int f, .ref 393]) (h' := zN sg) (Ps := []) rfl trivial ?_
  refine zG_callv (a := 393) (c := 10) (As := [.int f, .int t]) (rest := []) (N2 := 411) bdMo_move_8 okMo_isRange lk10_144 (And.intro (by decide) (by decide)) (by decide) rfl rfl rfl (Nat.le_of_ble_eq_true rfl) (Nat.le_of_ble_eq_true rfl) (Nat.le_refl 411) (Nat.le_refl 411) zob_393 cMo_isRange ?_
  rintro rr h' ⟨rfl, rfl⟩ -
  refine zb_ifeq (tgt := 22) bkMo_move_11 bdMo_move_11 (by decide) (lv' := [(0, .ref 393), (1, .int f), (2, .int t), (3, .int r)]) (st' := []) (h' := zN sg) (x := if 0 ≤ f ∧ f < t ∧ t ≤ sg 395 0 then 1 else 0) (Ps := []) rfl trivial (fun c1 => ?_) (fun c1 => ?_)
  · skip
    refine zG_run bkMo_move_22 (lv' := [(0, .ref 393), (1, .int f), (2, .int t), (3, .int r)]) (st' := [.int (-1), .ref 393]) (h' := zN sg) (Ps := []) rfl trivial ?_
    refine zG_callv (a := 393) (c := 10) (As := [.int (-1)]) (rest := []) (N2 := 411) bdMo_move_24 okMo_refuse lk10_80 (And.intro (by decide) (by decide)) (by decide) rfl rfl rfl (Nat.le_of_ble_eq_true rfl) (Nat.le_of_ble_eq_true rfl) (Nat.le_refl 411) (Nat.le_refl 411) zob_393 (cMo_refuse (by decide) (by decide)) ?_
    rintro rr h' ⟨rfl, rfl⟩ -
    refine zb_iret bkMo_move_27 bdMo_move_27 rfl (x := (-1)) (h' := zN (hRef sg (-1))) (Ps := []) rfl trivial rfl ?_
    refine hq _ _ ?_
    exact Or.inl ⟨rfl, rfl, by clear hq; grind⟩
  · skip
    refine zG_run bkMo_move_14 (lv' := [(0, .ref 393), (1, .int f), (2, .int t), (3, .int r)]) (st' := [.int r, .ref 393]) (h' := zN sg) (Ps := []) rfl trivial ?_
    refine zG_callv (a := 393) (c := 10) (As := [.int r]) (rest := []) (N2 := 411) bdMo_move_16 okMo_isPlace lk10_97 (And.intro (by decide) (by decide)) (by decide) rfl rfl rfl (Nat.le_of_ble_eq_true rfl) (Nat.le_of_ble_eq_true rfl) (Nat.le_refl 411) (Nat.le_refl 411) zob_393 cMo_isPlace ?_
    rintro rr h' ⟨rfl, rfl⟩ -
    refine zb_ifne (tgt := 28) bkMo_move_19 bdMo_move_19 (by decide) (lv' := [(0, .ref 393), (1, .int f), (2, .int t), (3, .int r)]) (st' := []) (h' := zN sg) (x := if 0 ≤ r ∧ r ≤ sg 395 0 then 1 else 0) (Ps := []) rfl trivial (fun c2 => ?_) (fun c2 => ?_)
    · skip
      have hc : ((0 ≤ f ∧ f < t ∧ t ≤ sg 395 0) ∧ 0 ≤ r ∧ r ≤ sg 395 0) := by clear hq; grind
      refine zG_run bkMo_move_28 (lv' := [(0, .ref 393), (1, .int f), (2, .int t), (3, .int r)]) (st' := [.long t.toInt64, .long f.toInt64, .long r.toInt64]) (h' := zN sg) (Ps := []) rfl trivial ?_
      refine zG_calls (As := [.long r.toInt64, .long f.toInt64, .long t.toInt64]) (rest := []) (N2 := 411) bdMo_move_34 okMo_in lk10_87 (And.intro (by decide) (by decide)) rfl rfl (Nat.le_of_ble_eq_true rfl) (Nat.le_of_ble_eq_true rfl) (Nat.le_refl 411) (Nat.le_refl 411) cMo_inA ?_
      rintro rr h' ⟨rfl, rfl⟩ -
      refine zb_ifeq (tgt := 47) bkMo_move_37 bdMo_move_37 (by decide) (lv' := [(0, .ref 393), (1, .int f), (2, .int t), (3, .int r)]) (st' := []) (h' := zN sg) (x := if f ≤ r ∧ r ≤ t then 1 else 0) (Ps := []) rfl trivial (fun c3 => ?_) (fun c3 => ?_)
      · skip
        have hnr : ¬ (f ≤ r ∧ r ≤ t) := by clear hq; grind
        refine zG_run bkMo_move_47 (lv' := [(0, .ref 393), (1, .int f), (2, .int t), (3, .int r)]) (st' := [.int 2, .ref 393]) (h' := zN sg) (Ps := []) rfl trivial ?_
        refine zG_callv (a := 393) (c := 10) (As := [.int 2]) (rest := []) (N2 := 411) bdMo_move_49 okMo_remember lk10_127 (And.intro (by decide) (by decide)) (by decide) rfl rfl rfl (Nat.le_of_ble_eq_true rfl) (Nat.le_of_ble_eq_true rfl) (Nat.le_refl 411) (Nat.le_refl 411) zob_393 (cMo_remember (s := 2) b0 b1) ?_
        rintro rr h' ⟨sg1, rfl, rfl, hb⟩ -
        have fb := hb.1
        have ub := mRem_u b0 b1 hb
        have x0 : sg1 395 0 = sg 395 0 := fb 395 0 (by decide) (by decide) (by decide) (by decide)
        have x1 : sg1 395 1 = sg 395 1 := fb 395 1 (by decide) (by decide) (by decide) (by decide)
        have x2 : sg1 395 2 = sg 395 2 := fb 395 2 (by decide) (by decide) (by decide) (by decide)
        have xt : sg1 393 11 = sg 393 11 := fb 393 11 (by decide) (by decide) (by decide) (by decide)
        refine zG_run bkMo_move_52 (lv' := [(4, .int (t - f)), (0, .ref 393), (1, .int f), (2, .int t), (3, .int r)]) (st' := []) (h' := zN sg1) (Ps := []) rfl trivial ?_
        obtain ⟨d, hd⟩ : ∃ d, d = t - f := ⟨_, rfl⟩
        rw [← hd]
        have d0 : 0 < d := by lia
        have d1 : d ≤ 200 := by lia
        have d2 : t = f + d := by lia
        have K : ∀ (th : Int32), (th = (if t < r then r - d else r)) → zG mMo_move 411 Q 70 [(4, .int d), (0, .ref 393), (1, .int f), (2, .int t), (3, .int r)] [.int th] (zN sg1) := by
          intro th hK
          have hth : 0 ≤ th ∧ th + d ≤ sg 395 0 ∧ th ≤ 200 := by
            clear hq fb hb c1 c2 c3
            by_cases q : t < r
            · rw [if_pos q] at hK; lia
            · rw [if_neg q] at hK; lia
          obtain ⟨th0, th1, th2⟩ := hth
          refine zG_run bkMo_move_70 (lv' := [(7, .int 0), (6, .int 0), (5, .int th), (4, .int d), (0, .ref 393), (1, .int f), (2, .int t), (3, .int r)]) (st' := []) (h' := zN sg1) (Ps := []) rfl trivial ?_
          refine zG_pick (lv' := [(0, .ref 393), (1, .int f), (2, .int t), (3, .int r), (4, .int d), (5, .int th), (6, .int 0), (7, .int 0)]) [4, 5, 6, 7, 3, 2, 1, 0] rfl ?_
          refine zlp2 (fun (ka : Int32) (sgA : zSig) => zG mMo_move 411 Q 78 [(0, .ref 393), (1, .int f), (2, .int t), (3, .int r), (4, .int d), (5, .int th), (6, .int 0), (7, .int ka)] [] (zN sgA)) (fun (ka : Int32) (sgA : zSig) => (0 ≤ ka) ∧ (ka ≤ 4 * d) ∧ (∀ c j, c ≠ 404 → sgA c j = sg1 c j) ∧ (∀ j, 0 ≤ j → j < ka → sgA 404 j = sg 395 (3 + 4 * f + j))) (fun (ka : Int32) (sgA : zSig) => zmu (4 * d) ka) ?_ 0 sg1 ?_
          · intro ka sgA hA ihA
            obtain ⟨q0, q1, qf, qz⟩ := hA
            refine zb_icge (tgt := 112) bkMo_move_78 bdMo_move_84 (by decide) (lv' := [(0, .ref 393), (1, .int f), (2, .int t), (3, .int r), (4, .int d), (5, .int th), (6, .int 0), (7, .int ka)]) (st' := []) (h' := zN sgA) (x := ka) (y := 4 * d) (Ps := []) rfl trivial (fun c4 => ?_) (fun c4 => ?_)
            · skip
              refine zG_run bkMo_move_112 (lv' := [(7, .int 0), (0, .ref 393), (1, .int f), (2, .int t), (3, .int r), (4, .int d), (5, .int th), (6, .int 0)]) (st' := []) (h' := zN sgA) (Ps := []) rfl trivial ?_
              refine zG_pick (lv' := [(0, .ref 393), (1, .int f), (2, .int t), (3, .int r), (4, .int d), (5, .int th), (6, .int 0), (7, .int 0)]) [1, 2, 3, 4, 5, 6, 7, 0] rfl ?_
              refine zlp3 (fun (n : Int32) (kb : Int32) (sgB : zSig) => zG mMo_move 411 Q 115 [(0, .ref 393), (1, .int f), (2, .int t), (3, .int r), (4, .int d), (5, .int th), (6, .int n), (7, .int kb)] [] (zN sgB)) (fun (n : Int32) (kb : Int32) (sgB : zSig) => (0 ≤ kb) ∧ (kb ≤ 16) ∧ (∀ c j, c ≠ 402 → c ≠ 404 → sgB c j = sg1 c j) ∧ (∀ j, 0 ≤ j → j < 4 * d → sgB 404 j = sg 395 (3 + 4 * f + j)) ∧ (∀ s, 0 ≤ s → s < kb → sgB 402 s = if mGo sg f t s = true then 1 else 0) ∧ (n = zit (nGo sg f t) 0 kb)) (fun (n : Int32) (kb : Int32) (sgB : zSig) => zmu 16 kb) ?_ 0 0 sgA ?_
              · intro n kb sgB hB ihB
                obtain ⟨b2, b3, bf, bm, bz, bn⟩ := hB
                have wrsgB : ∀ j, sgB 395 j = sg 395 j := fun j => by rw [bf 395 j (by decide) (by decide)]; exact fb 395 j (by decide) (by decide) (by decide) (Or.inl (by decide))
                have wrsgB0 := wrsgB 0
                have wrsgB1 := wrsgB 1
                have wrsgB2 := wrsgB 2
                have v0 := wrsgB (803 + 9 * kb)
                have v1 := wrsgB (803 + 9 * kb + 1)
                have v2 := wrsgB (803 + 9 * kb + 2)
                refine zb_icge (tgt := 202) bkMo_move_115 bdMo_move_119 (by decide) (lv' := [(0, .ref 393), (1, .int f), (2, .int t), (3, .int r), (4, .int d), (5, .int th), (6, .int n), (7, .int kb)]) (st' := []) (h' := zN sgB) (x := kb) (y := 16) (Ps := []) rfl trivial (fun c5 => ?_) (fun c5 => ?_)
                · skip
                  refine zG_run bkMo_move_202 (lv' := [(7, .int 0), (0, .ref 393), (1, .int f), (2, .int t), (3, .int r), (4, .int d), (5, .int th), (6, .int n)]) (st' := []) (h' := zN sgB) (Ps := []) rfl trivial ?_
                  refine zG_pick (lv' := [(0, .ref 393), (1, .int f), (2, .int t), (3, .int r), (4, .int d), (5, .int th), (6, .int n), (7, .int 0)]) [1, 2, 3, 4, 5, 6, 7, 0] rfl ?_
                  refine zlp2 (fun (kc : Int32) (sgC : zSig) => zG mMo_move 411 Q 205 [(0, .ref 393), (1, .int f), (2, .int t), (3, .int r), (4, .int d), (5, .int th), (6, .int n), (7, .int kc)] [] (zN sgC)) (fun (kc : Int32) (sgC : zSig) => (0 ≤ kc) ∧ (kc ≤ 12) ∧ (∀ c j, c ≠ 402 → c ≠ 403 → c ≠ 404 → sgC c j = sg1 c j) ∧ (∀ j, 0 ≤ j → j < 4 * d → sgC 404 j = sg 395 (3 + 4 * f + j)) ∧ (∀ s, 0 ≤ s → s < 16 → sgC 402 s = if mGo sg f t s = true then 1 else 0) ∧ (∀ s, 0 ≤ s → s < kc → sgC 403 s = if mGoA sg f t s = true then 1 else 0)) (fun (kc : Int32) (sgC : zSig) => zmu 12 kc) ?_ 0 sgB ?_
                  · intro kc sgC hC ihC
                    obtain ⟨c0, c01, cf, cm, cz, ca⟩ := hC
                    have wrsgC : ∀ j, sgC 395 j = sg 395 j := fun j => by rw [cf 395 j (by decide) (by decide) (by decide)]; exact fb 395 j (by decide) (by decide) (by decide) (Or.inl (by decide))
                    have wrsgC0 := wrsgC 0
                    have wrsgC1 := wrsgC 1
                    have wrsgC2 := wrsgC 2
                    have v3 := wrsgC (947 + 4 * kc)
                    have v4 := wrsgC (947 + 4 * kc + 1)
                    refine zb_icge (tgt := 271) bkMo_move_205 bdMo_move_209 (by decide) (lv' := [(0, .ref 393), (1, .int f), (2, .int t), (3, .int r), (4, .int d), (5, .int th), (6, .int n), (7, .int kc)]) (st' := []) (h' := zN sgC) (x := kc) (y := 12) (Ps := []) rfl trivial (fun c6 => ?_) (fun c6 => ?_)
                    · skip
                      have ekc : kc = 12 := by lia
                      have ekb : kb = 16 := by lia
                      have hu : sgC 393 6 = sg1 393 6 := cf 393 6 (by decide) (by decide) (by decide)
                      have ub0 := ub.1
                      have ub1 := ub.2
                      refine zG_run bkMo_move_271 (lv' := [(0, .ref 393), (1, .int f), (2, .int t), (3, .int r), (4, .int d), (5, .int th), (6, .int n), (7, .int kc)]) (st' := [.int th, .int t, .int f, .ref 393]) (h' := zN sgC) (Ps := []) rfl trivial ?_
                      refine zG_callv (a := 393) (c := 10) (As := [.int f, .int t, .int th]) (rest := []) (N2 := 411) bdMo_move_276 okMo_noteAct lk10_130 (And.intro (by decide) (by decide)) (by decide) rfl rfl rfl (Nat.le_of_ble_eq_true rfl) (Nat.le_of_ble_eq_true rfl) (Nat.le_refl 411) (Nat.le_refl 411) zob_393 (cMo_noteAct (by lia) (by lia)) ?_
                      rintro rr h' ⟨rfl, rfl⟩ -
                      refine zG_nm (sg := mNo sgC f t th) (fun sg2 e2 => ?_)
                      have f2 : ∀ c j, c ≠ 398 → sg2 c j = sgC c j := fun c j h => by rw [e2]; exact mNo_f h
                      have z0 : sg2 395 0 = sg 395 0 := by rw [f2 395 0 (by decide)]; assumption
                      have z1 : sg2 395 1 = sg 395 1 := by rw [f2 395 1 (by decide)]; assumption
                      have z2 : sg2 395 2 = sg 395 2 := by rw [f2 395 2 (by decide)]; assumption
                      refine zG_run bkMo_move_279 (lv' := [(0, .ref 393), (1, .int f), (2, .int t), (3, .int r), (4, .int d), (5, .int th), (6, .int n), (7, .int kc)]) (st' := [.int 1, .int t, .int f, .ref 393]) (h' := zN sg2) (Ps := []) rfl trivial ?_
                      refine zG_callv (a := 393) (c := 10) (As := [.int f, .int t, .int 1]) (rest := []) (N2 := 411) bdMo_move_283 okMo_takeOut lk10_148 (And.intro (by decide) (by decide)) (by decide) rfl rfl rfl (Nat.le_of_ble_eq_true rfl) (Nat.le_of_ble_eq_true rfl) (Nat.le_refl 411) (Nat.le_refl 411) zob_393 (cMo_takeOut (p := f) (q := t) (ot := 1) (by lia) (by lia) (by lia) (by lia) (by lia) (by lia) (by lia) (by lia) (by lia)) ?_
                      rintro rr h' ⟨sg5, rfl, rfl, hg5⟩ -
                      have u0 : sg5 395 0 + d = sg 395 0 := by rw [hg5.2.1, z0]; lia
                      have u1 : sg5 395 1 = sg 395 1 := by rw [hg5.2.2.1, z1]
                      have u2 : sg5 395 2 = sg 395 2 := by rw [hg5.2.2.2.1, z2]
                      refine zG_run bkMo_move_286 (lv' := [(0, .ref 393), (1, .int f), (2, .int t), (3, .int r), (4, .int d), (5, .int th), (6, .int n), (7, .int kc)]) (st' := [.int 1, .int d, .int th, .ref 393]) (h' := zN sg5) (Ps := []) rfl trivial ?_
                      refine zG_callv (a := 393) (c := 10) (As := [.int th, .int d, .int 1]) (rest := []) (N2 := 411) bdMo_move_292 okMo_makeRoom lk10_134 (And.intro (by decide) (by decide)) (by decide) rfl rfl rfl (Nat.le_of_ble_eq_true rfl) (Nat.le_of_ble_eq_true rfl) (Nat.le_refl 411) (Nat.le_refl 411) zob_393 (cMo_makeRoom (p := th) (m := d) (ot := 1) (by lia) (by lia) (by lia) (by lia) (by lia) (by lia) (by lia) (by lia) (by lia) (by lia) (by lia)) ?_
                      rintro rr h' ⟨sg6, rfl, rfl, hg6⟩ -
                      refine zG_run bkMo_move_295 (lv' := [(7, .int 0), (0, .ref 393), (1, .int f), (2, .int t), (3, .int r), (4, .int d), (5, .int th), (6, .int n)]) (st' := []) (h' := zN sg6) (Ps := []) rfl trivial ?_
                      refine zG_pick (lv' := [(0, .ref 393), (1, .int f), (2, .int t), (3, .int r), (4, .int d), (5, .int th), (6, .int n), (7, .int 0)]) [1, 2, 3, 4, 5, 6, 7, 0] rfl ?_
                      refine zlp2 (fun (kd : Int32) (sgD : zSig) => zG mMo_move 411 Q 298 [(0, .ref 393), (1, .int f), (2, .int t), (3, .int r), (4, .int d), (5, .int th), (6, .int n), (7, .int kd)] [] (zN sgD)) (fun (kd : Int32) (sgD : zSig) => (0 ≤ kd) ∧ (kd ≤ 4 * d) ∧ (∀ c j, c ≠ 395 → sgD c j = sg6 c j) ∧ (∀ j, sgD 395 j = if 3 + 4 * th ≤ j ∧ j < 3 + 4 * th + kd then sg6 404 (j - (3 + 4 * th)) else sg6 395 j)) (fun (kd : Int32) (sgD : zSig) => zmu (4 * d) kd) ?_ 0 sg6 ?_
                      · intro kd sgD hD ihD
                        obtain ⟨d4, d5, df, dz⟩ := hD
                        refine zb_icge (tgt := 333) bkMo_move_298 bdMo_move_304 (by decide) (lv' := [(0, .ref 393), (1, .int f), (2, .int t), (3, .int r), (4, .int d), (5, .int th), (6, .int n), (7, .int kd)]) (st' := []) (h' := zN sgD) (x := kd) (y := 4 * d) (Ps := []) rfl trivial (fun c7 => ?_) (fun c7 => ?_)
                        · skip
                          refine zG_run bkMo_move_333 (lv' := [(7, .int 0), (0, .ref 393), (1, .int f), (2, .int t), (3, .int r), (4, .int d), (5, .int th), (6, .int n)]) (st' := []) (h' := zN sgD) (Ps := []) rfl trivial ?_
                          refine zG_pick (lv' := [(0, .ref 393), (1, .int f), (2, .int t), (3, .int r), (4, .int d), (5, .int th), (6, .int n), (7, .int 0)]) [1, 2, 3, 4, 5, 6, 7, 0] rfl ?_
                          refine zlp2 (fun (ke : Int32) (sgE : zSig) => zG mMo_move 411 Q 336 [(0, .ref 393), (1, .int f), (2, .int t), (3, .int r), (4, .int d), (5, .int th), (6, .int n), (7, .int ke)] [] (zN sgE)) (fun (ke : Int32) (sgE : zSig) => (0 ≤ ke) ∧ (ke ≤ 16) ∧ (iRs (mShs (th - f)) sgD sgE ke)) (fun (ke : Int32) (sgE : zSig) => zmu 16 ke) ?_ 0 sgD ?_
                          · intro ke sgE hE ihE
                            obtain ⟨e3, e4, e5⟩ := hE
                            refine zb_icge (tgt := 397) bkMo_move_336 bdMo_move_340 (by decide) (lv' := [(0, .ref 393), (1, .int f), (2, .int t), (3, .int r), (4, .int d), (5, .int th), (6, .int n), (7, .int ke)]) (st' := []) (h' := zN sgE) (x := ke) (y := 16) (Ps := []) rfl trivial (fun c8 => ?_) (fun c8 => ?_)
                            · skip
                              refine zG_run bkMo_move_397 (lv' := [(7, .int 0), (0, .ref 393), (1, .int f), (2, .int t), (3, .int r), (4, .int d), (5, .int th), (6, .int n)]) (st' := []) (h' := zN sgE) (Ps := []) rfl trivial ?_
                              refine zG_pick (lv' := [(0, .ref 393), (1, .int f), (2, .int t), (3, .int r), (4, .int d), (5, .int th), (6, .int n), (7, .int 0)]) [1, 2, 3, 4, 5, 6, 7, 0] rfl ?_
                              refine zlp2 (fun (kg : Int32) (sgF : zSig) => zG mMo_move 411 Q 400 [(0, .ref 393), (1, .int f), (2, .int t), (3, .int r), (4, .int d), (5, .int th), (6, .int n), (7, .int kg)] [] (zN sgF)) (fun (kg : Int32) (sgF : zSig) => (0 ≤ kg) ∧ (kg ≤ 12) ∧ (iRa (mSha (th - f)) sgE sgF kg)) (fun (kg : Int32) (sgF : zSig) => zmu 12 kg) ?_ 0 sgE ?_
                              · intro kg sgF hF ihF
                                obtain ⟨e6, e7, e8⟩ := hF
                                refine zb_icge (tgt := 446) bkMo_move_400 bdMo_move_404 (by decide) (lv' := [(0, .ref 393), (1, .int f), (2, .int t), (3, .int r), (4, .int d), (5, .int th), (6, .int n), (7, .int kg)]) (st' := []) (h' := zN sgF) (x := kg) (y := 12) (Ps := []) rfl trivial (fun c9 => ?_) (fun c9 => ?_)
                                · skip
                                  refine zG_run bkMo_move_446 (lv' := [(0, .ref 393), (1, .int f), (2, .int t), (3, .int r), (4, .int d), (5, .int th), (6, .int n), (7, .int kg)]) (st' := [.int n, .ref 393]) (h' := zN sgF) (Ps := []) rfl trivial ?_
                                  refine zG_callv (a := 393) (c := 10) (As := [.int n]) (rest := []) (N2 := 411) bdMo_move_449 okMo_tell lk10_84 (And.intro (by decide) (by decide)) (by decide) rfl rfl rfl (Nat.le_of_ble_eq_true rfl) (Nat.le_of_ble_eq_true rfl) (Nat.le_refl 411) (Nat.le_refl 411) zob_393 cMo_tell ?_
                                  rintro rr h' ⟨rfl, rfl⟩ -
                                  refine zb_iret bkMo_move_452 bdMo_move_452 rfl (x := n) (h' := zN (hTell sgF)) (Ps := []) rfl trivial rfl ?_
                                  refine hq _ _ ?_
                                  have ekd : kd = 4 * d := by lia
                                  have eke : ke = 16 := by lia
                                  have ekg : kg = 12 := by lia
                                  have eth : th = pLd f t r := by rw [hK]; unfold pLd; clear hq ihA ihB ihC ihD ihE ihF fb hb qf qz bf bm bz cf cm cz ca df dz e5 e8 f2 hg5 hg6 wrsgB wrsgC; grind
                                  subst ekd eke ekg ekb ekc e2
                                  have hfin : mFin sg6 sgF f th d := by
                                    refine ⟨fun c j hc => by rw [e8.1 c j hc, e5.1 c j hc]; exact df c j hc, fun j hj => by rw [e8.2.1 j (Or.inl (by lia)), e5.2.1 j (Or.inl hj)]; exact dz j, fun s g s0 s1 f0 f1 => ?_, fun s g s0 s1 f0 f1 => ?_⟩
                                    · have rg := sp_rng s0 s1 f0 f1
                                      rw [e8.2.1 _ (Or.inl rg.2), e5.2.2 s g s0 s1 f0 f1, if_pos s1]
                                      exact loc_mShs _ sgD sg6 s df (fun g f0 f1 => by have rg := sp_rng s0 s1 f0 f1; rw [dz, if_neg (by lia)]) g f0 f1
                                    · rw [e8.2.2 s g s0 s1 f0 f1, if_pos s1]
                                      exact loc_mSha _ sgE sg6 s (fun c j hc => by rw [e5.1 c j hc]; exact df c j hc) (fun g f0 f1 => by have rg := an_rng s0 s1 f0 f1; rw [e5.2.1 _ (Or.inr (by lia)), dz, if_neg (by lia)]) g f0 f1
                                  have hgo : mGo3 sg sg1 sgC f t := ⟨cf, fun j j0 j1 => cm j j0 (by rw [hd]; exact j1), cz, fun s s0 s1 => ca s s0 s1⟩
                                  rw [eth] at hfin hg5 hg6
                                  rw [hd] at hfin hg6
                                  exact Or.inr (Or.inr ⟨hc, hnr, sg1, sgC, sg5, sg6, sgF, hb, hgo, hg5, hg6, hfin, by rw [bn], rfl⟩)
                                · skip
                                  refine zG_run bkMo_move_407 (lv' := [(0, .ref 393), (1, .int f), (2, .int t), (3, .int r), (4, .int d), (5, .int th), (6, .int n), (7, .int kg)]) (st' := [.int kg, .ref 395]) (h' := zN sgF) (Ps := [zOb (zN sgF) 393 10 ∧ (zN sgF).2.2 393 3 = true]) rfl (zA ⟨zob_393, rfl⟩ trivial) ?_
                                  refine zG_calls (As := [.int kg]) (rest := [.ref 395]) (N2 := 411) bdMo_move_413 okMo_anchorAt lk10_94 (And.intro (by decide) (by decide)) rfl rfl (Nat.le_of_ble_eq_true rfl) (Nat.le_of_ble_eq_true rfl) (Nat.le_refl 411) (Nat.le_refl 411) cMo_anchorAt ?_
                                  rintro rr h' ⟨rfl, rfl⟩ -
                                  refine zb_ifeq (tgt := 437) bkMo_move_416 bdMo_move_427 (by decide) (lv' := [(0, .ref 393), (1, .int f), (2, .int t), (3, .int r), (4, .int d), (5, .int th), (6, .int n), (7, .int kg)]) (st' := [.int (sgF 395 ((947 + 4 * kg) + 1)), .int ((947 + 4 * kg) + 1), .ref 395]) (h' := zN sgF) (x := sgF 403 kg) (Ps := [zInL (zN sgF) 395 ((947 + 4 * kg) + 1), zOb (zN sgF) 393 10 ∧ (zN sgF).2.2 393 14 = true, zIn (zN sgF) 403 2 kg]) rfl (zA (zinL_395 (i := (947 + 4 * kg) + 1) (by lia) (by lia)) (zA ⟨zob_393, rfl⟩ (zA (zin_403 (i := kg) (by lia) (by lia)) trivial))) (fun c10 => ?_) (fun c10 => ?_)
                                  · skip
                                    refine zG_run bkMo_move_437 (lv' := [(7, .int (kg + 1)), (0, .ref 393), (1, .int f), (2, .int t), (3, .int r), (4, .int d), (5, .int th), (6, .int n)]) (st' := []) (h' := zN (zup sgF 395 ((947 + 4 * kg) + 1) ((sgF 395 ((947 + 4 * kg) + 1)) + 0))) (Ps := [zIn (zN sgF) 395 0 ((947 + 4 * kg) + 1)]) rfl (zA (zin_395 (i := (947 + 4 * kg) + 1) (by lia) (by lia)) trivial) ?_
                                    refine zG_pick (lv' := [(0, .ref 393), (1, .int f), (2, .int t), (3, .int r), (4, .int d), (5, .int th), (6, .int n), (7, .int (kg + 1))]) [1, 2, 3, 4, 5, 6, 7, 0] rfl ?_
                                    refine ihF (kg + 1) (zup sgF 395 ((947 + 4 * kg) + 1) ((sgF 395 ((947 + 4 * kg) + 1)) + 0)) ?_ ?_
                                    · refine ⟨?_, ?_, ?_⟩
                                      · lia
                                      · lia
                                      · refine iRa_s (loc_mSha (th - f)) e8 e6 (by lia) (fun c j hc => ?_) (fun j hj => ?_) (fun g f0 f1 => ?_)
                                        · rw [zup_a hc]
                                        · rw [zup_i (fun q => hj 1 (by decide) (by decide) q)]
                                        · rw [up_ac]; unfold mSha; first | rw [if_pos (show sgF 403 kg = 0 by assumption)] | rw [if_neg (show ¬ sgF 403 kg = 0 by assumption)]
                                    · exact zmu_up (by lia)
                                  · skip
                                    refine zG_run bkMo_move_430 (lv' := [(7, .int (kg + 1)), (0, .ref 393), (1, .int f), (2, .int t), (3, .int r), (4, .int d), (5, .int th), (6, .int n)]) (st' := []) (h' := zN (zup sgF 395 ((947 + 4 * kg) + 1) ((sgF 395 ((947 + 4 * kg) + 1)) + (th - f)))) (Ps := [zIn (zN sgF) 395 0 ((947 + 4 * kg) + 1)]) rfl (zA (zin_395 (i := (947 + 4 * kg) + 1) (by lia) (by lia)) trivial) ?_
                                    refine zG_pick (lv' := [(0, .ref 393), (1, .int f), (2, .int t), (3, .int r), (4, .int d), (5, .int th), (6, .int n), (7, .int (kg + 1))]) [1, 2, 3, 4, 5, 6, 7, 0] rfl ?_
                                    refine ihF (kg + 1) (zup sgF 395 ((947 + 4 * kg) + 1) ((sgF 395 ((947 + 4 * kg) + 1)) + (th - f))) ?_ ?_
                                    · refine ⟨?_, ?_, ?_⟩
                                      · lia
                                      · lia
                                      · refine iRa_s (loc_mSha (th - f)) e8 e6 (by lia) (fun c j hc => ?_) (fun j hj => ?_) (fun g f0 f1 => ?_)
                                        · rw [zup_a hc]
                                        · rw [zup_i (fun q => hj 1 (by decide) (by decide) q)]
                                        · rw [up_ac]; unfold mSha; first | rw [if_pos (show sgF 403 kg = 0 by assumption)] | rw [if_neg (show ¬ sgF 403 kg = 0 by assumption)]
                                    · exact zmu_up (by lia)
                              · refine ⟨?_, ?_, ?_⟩
                                · lia
                                · lia
                                · exact iRa_0
                            · skip
                              refine zb_ifeq (tgt := 391) bkMo_move_343 bdMo_move_350 (by decide) (lv' := [(0, .ref 393), (1, .int f), (2, .int t), (3, .int r), (4, .int d), (5, .int th), (6, .int n), (7, .int ke)]) (st' := []) (h' := zN sgE) (x := sgE 402 ke) (Ps := [zOb (zN sgE) 393 10 ∧ (zN sgE).2.2 393 13 = true, zIn (zN sgE) 402 2 ke]) rfl (zA ⟨zob_393, rfl⟩ (zA (zin_402 (i := ke) (by lia) (by lia)) trivial)) (fun c11 => ?_) (fun c11 => ?_)
                              · skip
                                refine zG_run bkMo_move_391 (lv' := [(7, .int (ke + 1)), (0, .ref 393), (1, .int f), (2, .int t), (3, .int r), (4, .int d), (5, .int th), (6, .int n)]) (st' := []) (h' := zN sgE) (Ps := []) rfl trivial ?_
                                refine zG_pick (lv' := [(0, .ref 393), (1, .int f), (2, .int t), (3, .int r), (4, .int d), (5, .int th), (6, .int n), (7, .int (ke + 1))]) [1, 2, 3, 4, 5, 6, 7, 0] rfl ?_
                                refine ihE (ke + 1) sgE ?_ ?_
                                · refine ⟨?_, ?_, ?_⟩
                                  · lia
                                  · lia
                                  · refine iRs_s (loc_mShs (th - f)) e5 e3 (by lia) (fun _ _ _ => rfl) (fun _ _ => rfl) (fun g f0 f1 => ?_)
                                    unfold mShs; rw [if_pos (show sgE 402 ke = 0 by assumption)]
                                · exact zmu_up (by lia)
                              · skip
                                refine zG_run bkMo_move_353 (lv' := [(0, .ref 393), (1, .int f), (2, .int t), (3, .int r), (4, .int d), (5, .int th), (6, .int n), (7, .int ke)]) (st' := [.int ke, .ref 395]) (h' := zN sgE) (Ps := [zOb (zN sgE) 393 10 ∧ (zN sgE).2.2 393 3 = true]) rfl (zA ⟨zob_393, rfl⟩ trivial) ?_
                                refine zG_calls (As := [.int ke]) (rest := [.ref 395]) (N2 := 411) bdMo_move_359 okMo_spanAt lk10_91 (And.intro (by decide) (by decide)) rfl rfl (Nat.le_of_ble_eq_true rfl) (Nat.le_of_ble_eq_true rfl) (Nat.le_refl 411) (Nat.le_refl 411) cMo_spanAt ?_
                                rintro rr h' ⟨rfl, rfl⟩ -
                                refine zG_run bkMo_move_362 (lv' := [(0, .ref 393), (1, .int f), (2, .int t), (3, .int r), (4, .int d), (5, .int th), (6, .int n), (7, .int ke)]) (st' := [.int ke, .ref 395]) (h' := zN (zup sgE 395 ((803 + 9 * ke) + 1) ((sgE 395 ((803 + 9 * ke) + 1)) + (th - f)))) (Ps := [zInL (zN sgE) 395 ((803 + 9 * ke) + 1), zIn (zN sgE) 395 0 ((803 + 9 * ke) + 1), zOb (zN (zup sgE 395 ((803 + 9 * ke) + 1) ((sgE 395 ((803 + 9 * ke) + 1)) + (th - f)))) 393 10 ∧ (zN (zup sgE 395 ((803 + 9 * ke) + 1) ((sgE 395 ((803 + 9 * ke) + 1)) + (th - f)))).2.2 393 3 = true]) rfl (zA (zinL_395 (i := (803 + 9 * ke) + 1) (by lia) (by lia)) (zA (zin_395 (i := (803 + 9 * ke) + 1) (by lia) (by lia)) (zA ⟨zob_393, rfl⟩ trivial))) ?_
                                refine zG_calls (As := [.int ke]) (rest := [.ref 395]) (N2 := 411) bdMo_move_378 okMo_spanAt lk10_91 (And.intro (by decide) (by decide)) rfl rfl (Nat.le_of_ble_eq_true rfl) (Nat.le_of_ble_eq_true rfl) (Nat.le_refl 411) (Nat.le_refl 411) cMo_spanAt ?_
                                rintro rr h' ⟨rfl, rfl⟩ -
                                refine zG_run bkMo_move_381 (lv' := [(0, .ref 393), (1, .int f), (2, .int t), (3, .int r), (4, .int d), (5, .int th), (6, .int n), (7, .int ke)]) (st' := []) (h' := zN (zup (zup sgE 395 ((803 + 9 * ke) + 1) ((sgE 395 ((803 + 9 * ke) + 1)) + (th - f))) 395 ((803 + 9 * ke) + 2) (((zup sgE 395 ((803 + 9 * ke) + 1) ((sgE 395 ((803 + 9 * ke) + 1)) + (th - f))) 395 ((803 + 9 * ke) + 2)) + (th - f)))) (Ps := [zInL (zN (zup sgE 395 ((803 + 9 * ke) + 1) ((sgE 395 ((803 + 9 * ke) + 1)) + (th - f)))) 395 ((803 + 9 * ke) + 2), zIn (zN (zup sgE 395 ((803 + 9 * ke) + 1) ((sgE 395 ((803 + 9 * ke) + 1)) + (th - f)))) 395 0 ((803 + 9 * ke) + 2)]) rfl (zA (zinL_395 (i := (803 + 9 * ke) + 2) (by lia) (by lia)) (zA (zin_395 (i := (803 + 9 * ke) + 2) (by lia) (by lia)) trivial)) ?_
                                have es : zup (zup sgE 395 ((803 + 9 * ke) + 1) ((sgE 395 ((803 + 9 * ke) + 1)) + (th - f))) 395 ((803 + 9 * ke) + 2) (((zup sgE 395 ((803 + 9 * ke) + 1) ((sgE 395 ((803 + 9 * ke) + 1)) + (th - f))) 395 ((803 + 9 * ke) + 2)) + (th - f)) = zup (zup sgE 395 (803 + 9 * ke + 1) (sgE 395 (803 + 9 * ke + 1) + (th - f))) 395 (803 + 9 * ke + 2) (sgE 395 (803 + 9 * ke + 2) + (th - f)) := by rw [zup_o (by decide)]
                                refine zG_run bkMo_move_391 (lv' := [(7, .int (ke + 1)), (0, .ref 393), (1, .int f), (2, .int t), (3, .int r), (4, .int d), (5, .int th), (6, .int n)]) (st' := []) (h' := zN (zup (zup sgE 395 ((803 + 9 * ke) + 1) ((sgE 395 ((803 + 9 * ke) + 1)) + (th - f))) 395 ((803 + 9 * ke) + 2) (((zup sgE 395 ((803 + 9 * ke) + 1) ((sgE 395 ((803 + 9 * ke) + 1)) + (th - f))) 395 ((803 + 9 * ke) + 2)) + (th - f)))) (Ps := []) rfl trivial ?_
                                refine zG_pick (lv' := [(0, .ref 393), (1, .int f), (2, .int t), (3, .int r), (4, .int d), (5, .int th), (6, .int n), (7, .int (ke + 1))]) [1, 2, 3, 4, 5, 6, 7, 0] rfl ?_
                                refine ihE (ke + 1) (zup (zup sgE 395 ((803 + 9 * ke) + 1) ((sgE 395 ((803 + 9 * ke) + 1)) + (th - f))) 395 ((803 + 9 * ke) + 2) (((zup sgE 395 ((803 + 9 * ke) + 1) ((sgE 395 ((803 + 9 * ke) + 1)) + (th - f))) 395 ((803 + 9 * ke) + 2)) + (th - f))) ?_ ?_
                                · refine ⟨?_, ?_, ?_⟩
                                  · lia
                                  · lia
                                  · refine iRs_s (loc_mShs (th - f)) e5 e3 (by lia) (fun c j hc => ?_) (fun j hj => ?_) (fun g f0 f1 => ?_)
                                    · rw [es, zup_a hc, zup_a hc]
                                    · rw [es, zup_i (fun q => hj 2 (by decide) (by decide) q), zup_i (fun q => hj 1 (by decide) (by decide) q)]
                                    · rw [es, up_sc]; unfold mShs; rw [if_neg (show ¬ sgE 402 ke = 0 by assumption)]
                                · exact zmu_up (by lia)
                          · refine ⟨?_, ?_, ?_⟩
                            · lia
                            · lia
                            · exact iRs_0
                        · skip
                          refine zG_run bkMo_move_307 (lv' := [(0, .ref 393), (1, .int f), (2, .int t), (3, .int r), (4, .int d), (5, .int th), (6, .int n), (7, .int kd)]) (st' := [.int th, .ref 395]) (h' := zN sgD) (Ps := [zOb (zN sgD) 393 10 ∧ (zN sgD).2.2 393 3 = true]) rfl (zA ⟨zob_393, rfl⟩ trivial) ?_
                          refine zG_calls (As := [.int th]) (rest := [.ref 395]) (N2 := 411) bdMo_move_313 okMo_letterAt lk10_141 (And.intro (by decide) (by decide)) rfl rfl (Nat.le_of_ble_eq_true rfl) (Nat.le_of_ble_eq_true rfl) (Nat.le_refl 411) (Nat.le_refl 411) cMo_letterAt ?_
                          rintro rr h' ⟨rfl, rfl⟩ -
                          refine zG_run bkMo_move_316 (lv' := [(7, .int (kd + 1)), (0, .ref 393), (1, .int f), (2, .int t), (3, .int r), (4, .int d), (5, .int th), (6, .int n)]) (st' := []) (h' := zN (zup sgD 395 ((3 + 4 * th) + kd) (sgD 404 kd))) (Ps := [zOb (zN sgD) 393 10 ∧ (zN sgD).2.2 393 15 = true, zInL (zN sgD) 404 kd, zIn (zN sgD) 395 0 ((3 + 4 * th) + kd)]) rfl (zA ⟨zob_393, rfl⟩ (zA (zinL_404 (i := kd) (by lia) (by lia)) (zA (zin_395 (i := (3 + 4 * th) + kd) (by lia) (by lia)) trivial))) ?_
                          refine zG_pick (lv' := [(0, .ref 393), (1, .int f), (2, .int t), (3, .int r), (4, .int d), (5, .int th), (6, .int n), (7, .int (kd + 1))]) [1, 2, 3, 4, 5, 6, 7, 0] rfl ?_
                          refine ihD (kd + 1) (zup sgD 395 ((3 + 4 * th) + kd) (sgD 404 kd)) ?_ ?_
                          · refine ⟨?_, ?_, ?_, ?_⟩
                            · lia
                            · lia
                            · intro c j h; rw [zup_a h]; exact df c j h
                            · intro j; rw [zup_e, df 404 kd (by decide), dz j]; by_cases hj : j = 3 + 4 * th + kd
                              · rw [if_pos ⟨rfl, hj⟩, if_pos (by lia), show j - (3 + 4 * th) = kd by rw [hj]; grind]
                              · rw [if_neg (fun q => hj q.2)]
                                by_cases hk : 3 + 4 * th ≤ j ∧ j < 3 + 4 * th + kd
                                · rw [if_pos hk, if_pos (by lia)]
                                · rw [if_neg hk, if_neg (by lia)]
                          · exact zmu_up (by lia)
                      · refine ⟨?_, ?_, ?_, ?_⟩
                        · lia
                        · lia
                        · intro c j _; rfl
                        · intro j; rw [if_neg (by lia)]
                    · skip
                      refine zG_run bkMo_move_212 (lv' := [(0, .ref 393), (1, .int f), (2, .int t), (3, .int r), (4, .int d), (5, .int th), (6, .int n), (7, .int kc)]) (st' := [.int kc, .ref 403]) (h' := zN sgC) (Ps := [zOb (zN sgC) 393 10 ∧ (zN sgC).2.2 393 14 = true]) rfl (zA ⟨zob_393, rfl⟩ trivial) ?_
                      have K3 : ∀ (e : Int32), (e = (if mGoA sg f t kc = true then 1 else 0)) → zG mMo_move 411 Q 264 [(0, .ref 393), (1, .int f), (2, .int t), (3, .int r), (4, .int d), (5, .int th), (6, .int n), (7, .int kc)] [.int e, .int kc, .ref 403] (zN sgC) := by
                        intro e hK3
                        refine zG_run bkMo_move_264 (lv' := [(0, .ref 393), (1, .int f), (2, .int t), (3, .int r), (4, .int d), (5, .int th), (6, .int n), (7, .int kc)]) (st' := []) (h' := zN (zup sgC 403 kc (e &&& 1))) (Ps := [zIn (zN sgC) 403 2 kc]) rfl (zA (zin_403 (i := kc) (by lia) (by lia)) trivial) ?_
                        have hb3 : e &&& 1 = (if mGoA sg f t kc = true then 1 else 0) := by rw [hK3]; split <;> rfl
                        refine zG_run bkMo_move_265 (lv' := [(7, .int (kc + 1)), (0, .ref 393), (1, .int f), (2, .int t), (3, .int r), (4, .int d), (5, .int th), (6, .int n)]) (st' := []) (h' := zN (zup sgC 403 kc (e &&& 1))) (Ps := []) rfl trivial ?_
                        refine zG_pick (lv' := [(0, .ref 393), (1, .int f), (2, .int t), (3, .int r), (4, .int d), (5, .int th), (6, .int n), (7, .int (kc + 1))]) [1, 2, 3, 4, 5, 6, 7, 0] rfl ?_
                        refine ihC (kc + 1) (zup sgC 403 kc (e &&& 1)) ?_ ?_
                        · refine ⟨?_, ?_, ?_, ?_, ?_, ?_⟩
                          · lia
                          · lia
                          · intro c j h1 h2 h3; rw [zup_a h2]; exact cf c j h1 h2 h3
                          · intro j j0 j1; rw [zup_a (by decide)]; exact cm j j0 j1
                          · intro s s0 s1; rw [zup_a (by decide)]; exact cz s s0 s1
                          · intro s s0 s1; rw [zup_e]; by_cases hs : s = kc
                            · rw [if_pos ⟨rfl, hs⟩, hs]; exact hb3
                            · rw [if_neg (fun q => hs q.2)]; exact ca s s0 (by lia)
                        · exact zmu_up (by lia)
                      refine zG_run bkMo_move_218 (lv' := [(0, .ref 393), (1, .int f), (2, .int t), (3, .int r), (4, .int d), (5, .int th), (6, .int n), (7, .int kc)]) (st' := [.int kc, .ref 393, .int kc, .ref 403]) (h' := zN sgC) (Ps := []) rfl trivial ?_
                      refine zG_callv (a := 393) (c := 10) (As := [.int kc]) (rest := [.int kc, .ref 403]) (N2 := 411) bdMo_move_221 okMo_isAnchor lk10_154 (And.intro (by decide) (by decide)) (by decide) rfl rfl rfl (Nat.le_of_ble_eq_true rfl) (Nat.le_of_ble_eq_true rfl) (Nat.le_refl 411) (Nat.le_refl 411) zob_393 (cMo_isAnchor (by lia)) ?_
                      rintro rr h' ⟨rfl, rfl⟩ -
                      refine zb_ifeq (tgt := 263) bkMo_move_224 bdMo_move_224 (by decide) (lv' := [(0, .ref 393), (1, .int f), (2, .int t), (3, .int r), (4, .int d), (5, .int th), (6, .int n), (7, .int kc)]) (st' := [.int kc, .ref 403]) (h' := zN sgC) (x := if (0 ≤ kc ∧ kc < sgC 395 2) ∧ sgC 395 (947 + 4 * kc) = 1 then 1 else 0) (Ps := []) rfl trivial (fun c12 => ?_) (fun c12 => ?_)
                      · skip
                        refine zG_run bkMo_move_263 (lv' := [(0, .ref 393), (1, .int f), (2, .int t), (3, .int r), (4, .int d), (5, .int th), (6, .int n), (7, .int kc)]) (st' := [.int 0, .int kc, .ref 403]) (h' := zN sgC) (Ps := []) rfl trivial ?_
                        exact K3 _ (by rw [mGoA_i]; clear hq fb hb ihA ihB ihC qf qz bf bm bz cf cm cz ca wrsgB wrsgC; grind)
                      · skip
                        refine zG_run bkMo_move_227 (lv' := [(0, .ref 393), (1, .int f), (2, .int t), (3, .int r), (4, .int d), (5, .int th), (6, .int n), (7, .int kc)]) (st' := [.int kc, .ref 395, .int kc, .ref 403]) (h' := zN sgC) (Ps := [zOb (zN sgC) 393 10 ∧ (zN sgC).2.2 393 3 = true]) rfl (zA ⟨zob_393, rfl⟩ trivial) ?_
                        refine zG_calls (As := [.int kc]) (rest := [.ref 395, .int kc, .ref 403]) (N2 := 411) bdMo_move_233 okMo_anchorAt lk10_94 (And.intro (by decide) (by decide)) rfl rfl (Nat.le_of_ble_eq_true rfl) (Nat.le_of_ble_eq_true rfl) (Nat.le_refl 411) (Nat.le_refl 411) cMo_anchorAt ?_
                        rintro rr h' ⟨rfl, rfl⟩ -
                        refine zb_icle (tgt := 263) bkMo_move_236 bdMo_move_240 (by decide) (lv' := [(0, .ref 393), (1, .int f), (2, .int t), (3, .int r), (4, .int d), (5, .int th), (6, .int n), (7, .int kc)]) (st' := [.int kc, .ref 403]) (h' := zN sgC) (x := sgC 395 ((947 + 4 * kc) + 1)) (y := f) (Ps := [zInL (zN sgC) 395 ((947 + 4 * kc) + 1)]) rfl (zA (zinL_395 (i := (947 + 4 * kc) + 1) (by lia) (by lia)) trivial) (fun c13 => ?_) (fun c13 => ?_)
                        · skip
                          refine zG_run bkMo_move_263 (lv' := [(0, .ref 393), (1, .int f), (2, .int t), (3, .int r), (4, .int d), (5, .int th), (6, .int n), (7, .int kc)]) (st' := [.int 0, .int kc, .ref 403]) (h' := zN sgC) (Ps := []) rfl trivial ?_
                          exact K3 _ (by rw [mGoA_i]; clear hq fb hb ihA ihB ihC qf qz bf bm bz cf cm cz ca wrsgB wrsgC; grind)
                        · skip
                          refine zG_run bkMo_move_243 (lv' := [(0, .ref 393), (1, .int f), (2, .int t), (3, .int r), (4, .int d), (5, .int th), (6, .int n), (7, .int kc)]) (st' := [.int kc, .ref 395, .int kc, .ref 403]) (h' := zN sgC) (Ps := [zOb (zN sgC) 393 10 ∧ (zN sgC).2.2 393 3 = true]) rfl (zA ⟨zob_393, rfl⟩ trivial) ?_
                          refine zG_calls (As := [.int kc]) (rest := [.ref 395, .int kc, .ref 403]) (N2 := 411) bdMo_move_249 okMo_anchorAt lk10_94 (And.intro (by decide) (by decide)) rfl rfl (Nat.le_of_ble_eq_true rfl) (Nat.le_of_ble_eq_true rfl) (Nat.le_refl 411) (Nat.le_refl 411) cMo_anchorAt ?_
                          rintro rr h' ⟨rfl, rfl⟩ -
                          refine zb_icge (tgt := 263) bkMo_move_252 bdMo_move_256 (by decide) (lv' := [(0, .ref 393), (1, .int f), (2, .int t), (3, .int r), (4, .int d), (5, .int th), (6, .int n), (7, .int kc)]) (st' := [.int kc, .ref 403]) (h' := zN sgC) (x := sgC 395 ((947 + 4 * kc) + 1)) (y := t) (Ps := [zInL (zN sgC) 395 ((947 + 4 * kc) + 1)]) rfl (zA (zinL_395 (i := (947 + 4 * kc) + 1) (by lia) (by lia)) trivial) (fun c14 => ?_) (fun c14 => ?_)
                          · skip
                            refine zG_run bkMo_move_263 (lv' := [(0, .ref 393), (1, .int f), (2, .int t), (3, .int r), (4, .int d), (5, .int th), (6, .int n), (7, .int kc)]) (st' := [.int 0, .int kc, .ref 403]) (h' := zN sgC) (Ps := []) rfl trivial ?_
                            exact K3 _ (by rw [mGoA_i]; clear hq fb hb ihA ihB ihC qf qz bf bm bz cf cm cz ca wrsgB wrsgC; grind)
                          · skip
                            refine zG_run bkMo_move_259 (lv' := [(0, .ref 393), (1, .int f), (2, .int t), (3, .int r), (4, .int d), (5, .int th), (6, .int n), (7, .int kc)]) (st' := [.int 1, .int kc, .ref 403]) (h' := zN sgC) (Ps := []) rfl trivial ?_
                            exact K3 _ (by rw [mGoA_i]; clear hq fb hb ihA ihB ihC qf qz bf bm bz cf cm cz ca wrsgB wrsgC; grind)
                  · refine ⟨?_, ?_, ?_, ?_, ?_, ?_⟩
                    · lia
                    · lia
                    · intro c j h1 _ h2; exact bf c j h1 h2
                    · exact bm
                    · intro s s0 s1; exact bz s s0 (by lia)
                    · intro s s0 s1; exfalso; lia
                · skip
                  refine zG_run bkMo_move_122 (lv' := [(0, .ref 393), (1, .int f), (2, .int t), (3, .int r), (4, .int d), (5, .int th), (6, .int n), (7, .int kb)]) (st' := [.int kb]) (h' := zN sgB) (Ps := []) rfl trivial ?_
                  refine zG_calls (As := [.int kb]) (rest := []) (N2 := 411) bdMo_move_124 okMo_spanAt lk10_91 (And.intro (by decide) (by decide)) rfl rfl (Nat.le_of_ble_eq_true rfl) (Nat.le_of_ble_eq_true rfl) (Nat.le_refl 411) (Nat.le_refl 411) cMo_spanAt ?_
                  rintro rr h' ⟨rfl, rfl⟩ -
                  refine zG_run bkMo_move_127 (lv' := [(8, .int (803 + 9 * kb)), (0, .ref 393), (1, .int f), (2, .int t), (3, .int r), (4, .int d), (5, .int th), (6, .int n), (7, .int kb)]) (st' := [.int kb, .ref 402]) (h' := zN sgB) (Ps := [zOb (zN sgB) 393 10 ∧ (zN sgB).2.2 393 13 = true]) rfl (zA ⟨zob_393, rfl⟩ trivial) ?_
                  have K2 : ∀ (b : Int32), (b = (if mGo sg f t kb = true then 1 else 0)) → zG mMo_move 411 Q 175 [(8, .int (803 + 9 * kb)), (0, .ref 393), (1, .int f), (2, .int t), (3, .int r), (4, .int d), (5, .int th), (6, .int n), (7, .int kb)] [.int b, .int kb, .ref 402] (zN sgB) := by
                    intro b hK2
                    refine zG_run bkMo_move_175 (lv' := [(8, .int (803 + 9 * kb)), (0, .ref 393), (1, .int f), (2, .int t), (3, .int r), (4, .int d), (5, .int th), (6, .int n), (7, .int kb)]) (st' := []) (h' := zN (zup sgB 402 kb (b &&& 1))) (Ps := [zIn (zN sgB) 402 2 kb]) rfl (zA (zin_402 (i := kb) (by lia) (by lia)) trivial) ?_
                    have hb1 : b &&& 1 = (if mGo sg f t kb = true then 1 else 0) := by rw [hK2]; split <;> rfl
                    refine zb_ifeq (tgt := 192) bkMo_move_176 bdMo_move_185 (by decide) (lv' := [(8, .int (803 + 9 * kb)), (0, .ref 393), (1, .int f), (2, .int t), (3, .int r), (4, .int d), (5, .int th), (6, .int n), (7, .int kb)]) (st' := [.int n]) (h' := zN (zup sgB 402 kb (b &&& 1))) (x := (zup sgB 402 kb (b &&& 1)) 402 kb) (Ps := [zOb (zN (zup sgB 402 kb (b &&& 1))) 393 10 ∧ (zN (zup sgB 402 kb (b &&& 1))).2.2 393 13 = true, zIn (zN (zup sgB 402 kb (b &&& 1))) 402 2 kb]) rfl (zA ⟨zob_393, rfl⟩ (zA (zin_402 (i := kb) (by lia) (by lia)) trivial)) (fun c15 => ?_) (fun c15 => ?_)
                    · skip
                      have hz : (zup sgB 402 kb (b &&& 1)) 402 kb = 0 := by assumption
                      have hg : ¬ mGo sg f t kb = true := fun q => by rw [zup_s, hb1, if_pos q] at hz; exact absurd hz (by decide)
                      refine zG_run bkMo_move_192 (lv' := [(7, .int (kb + 1)), (6, .int (n + 0)), (8, .int (803 + 9 * kb)), (0, .ref 393), (1, .int f), (2, .int t), (3, .int r), (4, .int d), (5, .int th)]) (st' := []) (h' := zN (zup sgB 402 kb (b &&& 1))) (Ps := []) rfl trivial ?_
                      refine zG_pick (lv' := [(0, .ref 393), (1, .int f), (2, .int t), (3, .int r), (4, .int d), (5, .int th), (6, .int (n + 0)), (7, .int (kb + 1))]) [3, 4, 5, 6, 7, 8, 1, 0] rfl ?_
                      refine ihB (n + 0) (kb + 1) (zup sgB 402 kb (b &&& 1)) ?_ ?_
                      · refine ⟨?_, ?_, ?_, ?_, ?_, ?_⟩
                        · lia
                        · lia
                        · intro c j h1 h2; rw [zup_a h1]; exact bf c j h1 h2
                        · intro j j0 j1; rw [zup_a (by decide)]; exact bm j j0 j1
                        · intro s s0 s1; rw [zup_e]; by_cases hs : s = kb
                          · rw [if_pos ⟨rfl, hs⟩, hs]; exact hb1
                          · rw [if_neg (fun q => hs q.2)]; exact bz s s0 (by lia)
                        · rw [zit_s _ _ b2 (by lia : kb < 16), ← bn]; unfold nGo; first | rw [if_pos hg] | (rw [if_neg hg]; grind)
                      · exact zmu_up (by lia)
                    · skip
                      have hz : ¬ (zup sgB 402 kb (b &&& 1)) 402 kb = 0 := by assumption
                      have hg : mGo sg f t kb = true := Decidable.byContradiction (fun q => by rw [zup_s, hb1, if_neg q] at hz; exact hz rfl)
                      refine zG_run bkMo_move_188 (lv' := [(7, .int (kb + 1)), (6, .int (n + 1)), (8, .int (803 + 9 * kb)), (0, .ref 393), (1, .int f), (2, .int t), (3, .int r), (4, .int d), (5, .int th)]) (st' := []) (h' := zN (zup sgB 402 kb (b &&& 1))) (Ps := []) rfl trivial ?_
                      refine zG_pick (lv' := [(0, .ref 393), (1, .int f), (2, .int t), (3, .int r), (4, .int d), (5, .int th), (6, .int (n + 1)), (7, .int (kb + 1))]) [3, 4, 5, 6, 7, 8, 1, 0] rfl ?_
                      refine ihB (n + 1) (kb + 1) (zup sgB 402 kb (b &&& 1)) ?_ ?_
                      · refine ⟨?_, ?_, ?_, ?_, ?_, ?_⟩
                        · lia
                        · lia
                        · intro c j h1 h2; rw [zup_a h1]; exact bf c j h1 h2
                        · intro j j0 j1; rw [zup_a (by decide)]; exact bm j j0 j1
                        · intro s s0 s1; rw [zup_e]; by_cases hs : s = kb
                          · rw [if_pos ⟨rfl, hs⟩, hs]; exact hb1
                          · rw [if_neg (fun q => hs q.2)]; exact bz s s0 (by lia)
                        · rw [zit_s _ _ b2 (by lia : kb < 16), ← bn]; unfold nGo; first | rw [if_pos hg] | (rw [if_neg hg]; grind)
                      · exact zmu_up (by lia)
                  refine zG_run bkMo_move_135 (lv' := [(8, .int (803 + 9 * kb)), (0, .ref 393), (1, .int f), (2, .int t), (3, .int r), (4, .int d), (5, .int th), (6, .int n), (7, .int kb)]) (st' := [.int kb, .ref 393, .int kb, .ref 402]) (h' := zN sgB) (Ps := []) rfl trivial ?_
                  refine zG_callv (a := 393) (c := 10) (As := [.int kb]) (rest := [.int kb, .ref 402]) (N2 := 411) bdMo_move_138 okMo_isSpan lk10_151 (And.intro (by decide) (by decide)) (by decide) rfl rfl rfl (Nat.le_of_ble_eq_true rfl) (Nat.le_of_ble_eq_true rfl) (Nat.le_refl 411) (Nat.le_refl 411) zob_393 (cMo_isSpan (by lia)) ?_
                  rintro rr h' ⟨rfl, rfl⟩ -
                  refine zb_ifeq (tgt := 174) bkMo_move_141 bdMo_move_141 (by decide) (lv' := [(8, .int (803 + 9 * kb)), (0, .ref 393), (1, .int f), (2, .int t), (3, .int r), (4, .int d), (5, .int th), (6, .int n), (7, .int kb)]) (st' := [.int kb, .ref 402]) (h' := zN sgB) (x := if (0 ≤ kb ∧ kb < sgB 395 1) ∧ sgB 395 (803 + 9 * kb) = 1 then 1 else 0) (Ps := []) rfl trivial (fun c16 => ?_) (fun c16 => ?_)
                  · skip
                    refine zG_run bkMo_move_174 (lv' := [(8, .int (803 + 9 * kb)), (0, .ref 393), (1, .int f), (2, .int t), (3, .int r), (4, .int d), (5, .int th), (6, .int n), (7, .int kb)]) (st' := [.int 0, .int kb, .ref 402]) (h' := zN sgB) (Ps := []) rfl trivial ?_
                    exact K2 _ (by rw [mGo_i]; clear hq fb hb ihA ihB qf qz bf bm bz wrsgB; grind)
                  · skip
                    refine zb_iclt (tgt := 174) bkMo_move_144 bdMo_move_154 (by decide) (lv' := [(8, .int (803 + 9 * kb)), (0, .ref 393), (1, .int f), (2, .int t), (3, .int r), (4, .int d), (5, .int th), (6, .int n), (7, .int kb)]) (st' := [.int kb, .ref 402]) (h' := zN sgB) (x := sgB 395 ((803 + 9 * kb) + 1)) (y := f) (Ps := [zOb (zN sgB) 393 10 ∧ (zN sgB).2.2 393 3 = true, zInL (zN sgB) 395 ((803 + 9 * kb) + 1)]) rfl (zA ⟨zob_393, rfl⟩ (zA (zinL_395 (i := (803 + 9 * kb) + 1) (by lia) (by lia)) trivial)) (fun c17 => ?_) (fun c17 => ?_)
                    · skip
                      refine zG_run bkMo_move_174 (lv' := [(8, .int (803 + 9 * kb)), (0, .ref 393), (1, .int f), (2, .int t), (3, .int r), (4, .int d), (5, .int th), (6, .int n), (7, .int kb)]) (st' := [.int 0, .int kb, .ref 402]) (h' := zN sgB) (Ps := []) rfl trivial ?_
                      exact K2 _ (by rw [mGo_i]; clear hq fb hb ihA ihB qf qz bf bm bz wrsgB; grind)
                    · skip
                      refine zb_icgt (tgt := 174) bkMo_move_157 bdMo_move_167 (by decide) (lv' := [(8, .int (803 + 9 * kb)), (0, .ref 393), (1, .int f), (2, .int t), (3, .int r), (4, .int d), (5, .int th), (6, .int n), (7, .int kb)]) (st' := [.int kb, .ref 402]) (h' := zN sgB) (x := sgB 395 ((803 + 9 * kb) + 2)) (y := t) (Ps := [zOb (zN sgB) 393 10 ∧ (zN sgB).2.2 393 3 = true, zInL (zN sgB) 395 ((803 + 9 * kb) + 2)]) rfl (zA ⟨zob_393, rfl⟩ (zA (zinL_395 (i := (803 + 9 * kb) + 2) (by lia) (by lia)) trivial)) (fun c18 => ?_) (fun c18 => ?_)
                      · skip
                        refine zG_run bkMo_move_174 (lv' := [(8, .int (803 + 9 * kb)), (0, .ref 393), (1, .int f), (2, .int t), (3, .int r), (4, .int d), (5, .int th), (6, .int n), (7, .int kb)]) (st' := [.int 0, .int kb, .ref 402]) (h' := zN sgB) (Ps := []) rfl trivial ?_
                        exact K2 _ (by rw [mGo_i]; clear hq fb hb ihA ihB qf qz bf bm bz wrsgB; grind)
                      · skip
                        refine zG_run bkMo_move_170 (lv' := [(8, .int (803 + 9 * kb)), (0, .ref 393), (1, .int f), (2, .int t), (3, .int r), (4, .int d), (5, .int th), (6, .int n), (7, .int kb)]) (st' := [.int 1, .int kb, .ref 402]) (h' := zN sgB) (Ps := []) rfl trivial ?_
                        exact K2 _ (by rw [mGo_i]; clear hq fb hb ihA ihB qf qz bf bm bz wrsgB; grind)
              · refine ⟨?_, ?_, ?_, ?_, ?_, ?_⟩
                · lia
                · lia
                · intro c j _ h; exact qf c j h
                · intro j j0 j1; exact qz j j0 (by lia)
                · intro s s0 s1; exfalso; lia
                · rfl
            · skip
              refine zG_run bkMo_move_87 (lv' := [(0, .ref 393), (1, .int f), (2, .int t), (3, .int r), (4, .int d), (5, .int th), (6, .int 0), (7, .int ka)]) (st' := [.int f, .ref 395, .int ka, .ref 404]) (h' := zN sgA) (Ps := [zOb (zN sgA) 393 10 ∧ (zN sgA).2.2 393 15 = true, zOb (zN sgA) 393 10 ∧ (zN sgA).2.2 393 3 = true]) rfl (zA ⟨zob_393, rfl⟩ (zA ⟨zob_393, rfl⟩ trivial)) ?_
              refine zG_calls (As := [.int f]) (rest := [.ref 395, .int ka, .ref 404]) (N2 := 411) bdMo_move_98 okMo_letterAt lk10_141 (And.intro (by decide) (by decide)) rfl rfl (Nat.le_of_ble_eq_true rfl) (Nat.le_of_ble_eq_true rfl) (Nat.le_refl 411) (Nat.le_refl 411) cMo_letterAt ?_
              rintro rr h' ⟨rfl, rfl⟩ -
              refine zG_run bkMo_move_101 (lv' := [(7, .int (ka + 1)), (0, .ref 393), (1, .int f), (2, .int t), (3, .int r), (4, .int d), (5, .int th), (6, .int 0)]) (st' := []) (h' := zN (zup sgA 404 ka (sgA 395 ((3 + 4 * f) + ka)))) (Ps := [zInL (zN sgA) 395 ((3 + 4 * f) + ka), zIn (zN sgA) 404 0 ka]) rfl (zA (zinL_395 (i := (3 + 4 * f) + ka) (by lia) (by lia)) (zA (zin_404 (i := ka) (by lia) (by lia)) trivial)) ?_
              refine zG_pick (lv' := [(0, .ref 393), (1, .int f), (2, .int t), (3, .int r), (4, .int d), (5, .int th), (6, .int 0), (7, .int (ka + 1))]) [1, 2, 3, 4, 5, 6, 7, 0] rfl ?_
              refine ihA (ka + 1) (zup sgA 404 ka (sgA 395 ((3 + 4 * f) + ka))) ?_ ?_
              · refine ⟨?_, ?_, ?_, ?_⟩
                · lia
                · lia
                · intro c j h; rw [zup_a h]; exact qf c j h
                · intro j j0 j1; rw [zup_e]; by_cases hj : j = ka
                  · rw [if_pos ⟨rfl, hj⟩, qf 395 _ (by decide), fb 395 _ (by decide) (by decide) (by decide) (Or.inl (by decide)), hj]
                  · rw [if_neg (fun q => hj q.2)]; exact qz j j0 (by lia)
              · exact zmu_up (by lia)
          · refine ⟨?_, ?_, ?_, ?_⟩
            · lia
            · lia
            · intro c j _; rfl
            · intro j j0 j1; exfalso; lia
        refine zb_icle (tgt := 69) bkMo_move_57 bdMo_move_59 (by decide) (lv' := [(4, .int d), (0, .ref 393), (1, .int f), (2, .int t), (3, .int r)]) (st' := []) (h' := zN sg1) (x := r) (y := t) (Ps := []) rfl trivial (fun c19 => ?_) (fun c19 => ?_)
        · skip
          refine zG_run bkMo_move_69 (lv' := [(4, .int d), (0, .ref 393), (1, .int f), (2, .int t), (3, .int r)]) (st' := [.int r]) (h' := zN sg1) (Ps := []) rfl trivial ?_
          exact K _ (by clear hq fb hb; grind)
        · skip
          refine zG_run bkMo_move_62 (lv' := [(4, .int d), (0, .ref 393), (1, .int f), (2, .int t), (3, .int r)]) (st' := [.int (r - d)]) (h' := zN sg1) (Ps := []) rfl trivial ?_
          exact K _ (by clear hq fb hb; grind)
      · skip
        refine zG_run bkMo_move_40 (lv' := [(0, .ref 393), (1, .int f), (2, .int t), (3, .int r)]) (st' := [.int (-4), .ref 393]) (h' := zN sg) (Ps := []) rfl trivial ?_
        refine zG_callv (a := 393) (c := 10) (As := [.int (-4)]) (rest := []) (N2 := 411) bdMo_move_43 okMo_refuse lk10_80 (And.intro (by decide) (by decide)) (by decide) rfl rfl rfl (Nat.le_of_ble_eq_true rfl) (Nat.le_of_ble_eq_true rfl) (Nat.le_refl 411) (Nat.le_refl 411) zob_393 (cMo_refuse (by decide) (by decide)) ?_
        rintro rr h' ⟨rfl, rfl⟩ -
        refine zb_iret bkMo_move_46 bdMo_move_46 rfl (x := (-4)) (h' := zN (hRef sg (-4))) (Ps := []) rfl trivial rfl ?_
        refine hq _ _ ?_
        exact Or.inr (Or.inl ⟨rfl, rfl, by clear hq; grind⟩)
    · skip
      refine zG_run bkMo_move_22 (lv' := [(0, .ref 393), (1, .int f), (2, .int t), (3, .int r)]) (st' := [.int (-1), .ref 393]) (h' := zN sg) (Ps := []) rfl trivial ?_
      refine zG_callv (a := 393) (c := 10) (As := [.int (-1)]) (rest := []) (N2 := 411) bdMo_move_24 okMo_refuse lk10_80 (And.intro (by decide) (by decide)) (by decide) rfl rfl rfl (Nat.le_of_ble_eq_true rfl) (Nat.le_of_ble_eq_true rfl) (Nat.le_refl 411) (Nat.le_refl 411) zob_393 (cMo_refuse (by decide) (by decide)) ?_
      rintro rr h' ⟨rfl, rfl⟩ -
      refine zb_iret bkMo_move_27 bdMo_move_27 rfl (x := (-1)) (h' := zN (hRef sg (-1))) (Ps := []) rfl trivial rfl ?_
      refine hq _ _ ?_
      exact Or.inl ⟨rfl, rfl, by clear hq; grind⟩
theorem bMo_move {sg : zSig} {f t r : Int32} (n0 : 0 ≤ sg 395 0) (n2 : sg 395 0 ≤ 200) (g0 : 0 ≤ sg 395 1) (g1 : sg 395 1 ≤ 16) (a0 : 0 ≤ sg 395 2) (a1 : sg 395 2 ≤ 12) (b0 : 0 ≤ sg 393 6) (b1 : sg 393 6 ≤ 8) : zG mMo_move 411 (fun rr h' => (rr = some (.int (-1)) ∧ h' = zN (hRef sg (-1)) ∧ (¬ ((0 ≤ f ∧ f < t ∧ t ≤ sg 395 0) ∧ 0 ≤ r ∧ r ≤ sg 395 0))) ∨ (rr = some (.int (-4)) ∧ h' = zN (hRef sg (-4)) ∧ (((0 ≤ f ∧ f < t ∧ t ≤ sg 395 0) ∧ 0 ≤ r ∧ r ≤ sg 395 0) ∧ f ≤ r ∧ r ≤ t)) ∨ (((0 ≤ f ∧ f < t ∧ t ≤ sg 395 0) ∧ 0 ≤ r ∧ r ≤ sg 395 0) ∧ ¬ (f ≤ r ∧ r ≤ t) ∧ ∃ sg1 sg2 sg3 sg4 sg5, mRem sg sg1 2 ∧ mGo3 sg sg1 sg2 f t ∧ mTk (mNo sg2 f t (pLd f t r)) sg3 f t 1 ∧ mMk sg3 sg4 (pLd f t r) (t - f) 1 ∧ mFin sg4 sg5 f (pLd f t r) (t - f) ∧ rr = some (.int (zit (nGo sg f t) 0 16)) ∧ h' = zN (hTell sg5))) 5 [(0, .ref 393), (1, .int f), (2, .int t), (3, .int r)] [] (zN sg) := lMo_move n0 n2 g0 g1 a0 a1 b0 b1 (fun _ _ q => q)
theorem tMo_move {sg : zSig} {f t r : Int32} {Q : Option Value → zHp → Prop} (g : zG mMo_move 411 Q 5 [(0, .ref 393), (1, .int f), (2, .int t), (3, .int r)] [] (zN (zup sg 393 0 0))) : zG mMo_move 411 Q 0 [(0, .ref 393), (1, .int f), (2, .int t), (3, .int r)] [] (zN sg) :=
  zG_run bkMo_move_0 (lv' := [(0, .ref 393), (1, .int f), (2, .int t), (3, .int r)]) (st' := []) (h' := zN (zup sg 393 0 0)) (Ps := [zOb (zN sg) 393 10]) rfl (zA zob_393 trivial) g
