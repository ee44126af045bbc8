/-! leaves: printed by wip/whole/p12.py -/
def fOf (f c s : Int32) : Int32 := 100 * f + 10 * c + s
def fFl (s : Int32) : Int32 := s / 100
def fCo (s : Int32) : Int32 := s / 10 - s / 10 / 10 * 10
def fSz (s : Int32) : Int32 := s - s / 10 * 10
def fMax (x y : Int32) : Int32 := if x < y then y else x
def fMin (x y : Int32) : Int32 := if x ≤ y then x else y
def fBr (s on off co gr : Int32) : Int32 := fOf ((fFl s ||| on) &&& (off ^^^ (-1))) (if co = -1 then fCo s else co) (fMax 0 (fMin 9 (fSz s + gr)))
def fMk (s kind v : Int32) : Int32 := if kind = 4 then fOf (fFl s) v (fSz s) else if kind = 5 then fOf (fFl s) (fCo s) v else fOf (fFl s ||| (1 <<< (kind &&& 31))) (fCo s) (fSz s)
def fMv (s kind : Int32) : Int32 := if kind = 4 then (if fCo s = 0 then -1 else fCo s) else if kind = 5 then (if fSz s = 4 then -1 else fSz s) else if (fFl s >>> (kind &&& 31)) &&& 1 = 0 then -1 else 1
def fSu (s mask fl co : Int32) : Int32 := if (fFl s ^^^ fl) &&& mask = 0 ∧ (co = -1 ∨ fCo s = co) then 1 else 0
def pOn (x l p m : Int32) : Int32 := if p < x ∨ (x = p ∧ l = 1) then x + m else x
def pBk (x p q : Int32) : Int32 := if q ≤ x then x - (q - p) else if x ≤ p then x else p
def pLd (p q r : Int32) : Int32 := if p < r then r - (q - p) else r
def pLb (x l p q r : Int32) : Int32 := pOn (pBk x p q) l (pLd p q r) (q - p)
def pMv (x l p q r : Int32) : Int32 := if p < x ∧ x < q then x + pLd p q r - p else pLb x l p q r
def pSw (x l f t c : Int32) : Int32 := pBk (pBk (pOn x l (f + 1) c) f (f + 1)) (f + c) (t - 1 + c)
theorem bkSty_of_0 : zBk mSty_of 0 [(0, 0, 0, 0, 100), (1, 0, 0, 0, 0), (4, 2, 0, 0, 0), (0, 0, 0, 0, 10), (1, 1, 0, 0, 0), (4, 2, 0, 0, 0), (4, 0, 0, 0, 0), (1, 2, 0, 0, 0), (4, 0, 0, 0, 0)] = some 11 := by decide +kernel
theorem bdSty_of_11 : decode mSty_of.2.2.1 11 = .ok (.ireturn, 1) := by decide +kernel
theorem cSty_of {sg : zSig} {f c s : Int32}  : zG mSty_of 411 (fun rr h' => rr = some (.int (fOf f c s)) ∧ h' = zN sg) 0 [(0, .int f), (1, .int c), (2, .int s)] [] (zN sg) := by
  refine zb_iret bkSty_of_0 bdSty_of_11 rfl (x := ((100 * f) + (10 * c)) + s) (h' := zN sg) (Ps := []) rfl trivial rfl ?_
  exact ⟨by grind [fOf], rfl⟩
theorem bkSty_flagsOf_0 : zBk mSty_flagsOf 0 [(1, 0, 0, 0, 0), (0, 0, 0, 0, 100), (4, 9, 0, 0, 0)] = some 4 := by decide +kernel
theorem bdSty_flagsOf_4 : decode mSty_flagsOf.2.2.1 4 = .ok (.ireturn, 1) := by decide +kernel
theorem cSty_flagsOf {sg : zSig} {s : Int32}  : zG mSty_flagsOf 411 (fun rr h' => rr = some (.int (fFl s)) ∧ h' = zN sg) 0 [(0, .int s)] [] (zN sg) := by
  refine zb_iret bkSty_flagsOf_0 bdSty_flagsOf_4 rfl (x := s / 100) (h' := zN sg) (Ps := [¬ (100 : Int32) = 0]) rfl (zA (by decide) trivial) rfl ?_
  exact ⟨by grind [fFl], rfl⟩
theorem bkSty_colorOf_0 : zBk mSty_colorOf 0 [(1, 0, 0, 0, 0), (0, 0, 0, 0, 10), (4, 9, 0, 0, 0), (0, 0, 0, 0, 10), (4, 10, 0, 0, 0)] = some 7 := by decide +kernel
theorem bdSty_colorOf_7 : decode mSty_colorOf.2.2.1 7 = .ok (.ireturn, 1) := by decide +kernel
theorem cSty_colorOf {sg : zSig} {s : Int32}  : zG mSty_colorOf 411 (fun rr h' => rr = some (.int (fCo s)) ∧ h' = zN sg) 0 [(0, .int s)] [] (zN sg) := by
  refine zb_iret bkSty_colorOf_0 bdSty_colorOf_7 rfl (x := (s / 10) - (s / 10) / 10 * 10) (h' := zN sg) (Ps := [¬ (10 : Int32) = 0, ¬ (10 : Int32) = 0]) rfl (zA (by decide) (zA (by decide) trivial)) rfl ?_
  exact ⟨by grind [fCo], rfl⟩
theorem bkSty_sizeOf_0 : zBk mSty_sizeOf 0 [(1, 0, 0, 0, 0), (0, 0, 0, 0, 10), (4, 10, 0, 0, 0)] = some 4 := by decide +kernel
theorem bdSty_sizeOf_4 : decode mSty_sizeOf.2.2.1 4 = .ok (.ireturn, 1) := by decide +kernel
theorem cSty_sizeOf {sg : zSig} {s : Int32}  : zG mSty_sizeOf 411 (fun rr h' => rr = some (.int (fSz s)) ∧ h' = zN sg) 0 [(0, .int s)] [] (zN sg) := by
  refine zb_iret bkSty_sizeOf_0 bdSty_sizeOf_4 rfl (x := s - s / 10 * 10) (h' := zN sg) (Ps := [¬ (10 : Int32) = 0]) rfl (zA (by decide) trivial) rfl ?_
  exact ⟨by grind [fSz], rfl⟩
theorem bkMa_max_0 : zBk mMa_max 0 [(1, 0, 0, 0, 0), (1, 1, 0, 0, 0)] = some 2 := by decide +kernel
theorem bkMa_max_9 : zBk mMa_max 9 [(1, 1, 0, 0, 0)] = some 10 := by decide +kernel
theorem bkMa_max_5 : zBk mMa_max 5 [(1, 0, 0, 0, 0), (22, 10, 0, 0, 0)] = some 10 := by decide +kernel
theorem bdMa_max_2 : decode mMa_max.2.2.1 2 = .ok (.if_icmp .lt 7, 3) := by decide +kernel
theorem bdMa_max_10 : decode mMa_max.2.2.1 10 = .ok (.ireturn, 1) := by decide +kernel
theorem cMa_max {sg : zSig} {x y : Int32}  : zG mMa_max 411 (fun rr h' => rr = some (.int (fMax x y)) ∧ h' = zN sg) 0 [(0, .int x), (1, .int y)] [] (zN sg) := by
  refine zb_iclt (tgt := 9) bkMa_max_0 bdMa_max_2 (by decide) (lv' := [(0, .int x), (1, .int y)]) (st' := []) (h' := zN sg) (x := x) (y := y) (Ps := []) rfl trivial (fun c1 => ?_) (fun c1 => ?_)
  · skip
    refine zb_iret bkMa_max_9 bdMa_max_10 rfl (x := y) (h' := zN sg) (Ps := []) rfl trivial rfl ?_
    exact ⟨by grind [fMax], rfl⟩
  · skip
    refine zb_iret bkMa_max_5 bdMa_max_10 rfl (x := x) (h' := zN sg) (Ps := []) rfl trivial rfl ?_
    exact ⟨by grind [fMax], rfl⟩
theorem bkMa_min_0 : zBk mMa_min 0 [(1, 0, 0, 0, 0), (1, 1, 0, 0, 0)] = some 2 := by decide +kernel
theorem bkMa_min_9 : zBk mMa_min 9 [(1, 1, 0, 0, 0)] = some 10 := by decide +kernel
theorem bkMa_min_5 : zBk mMa_min 5 [(1, 0, 0, 0, 0), (22, 10, 0, 0, 0)] = some 10 := by decide +kernel
theorem bdMa_min_2 : decode mMa_min.2.2.1 2 = .ok (.if_icmp .gt 7, 3) := by decide +kernel
theorem bdMa_min_10 : decode mMa_min.2.2.1 10 = .ok (.ireturn, 1) := by decide +kernel
theorem cMa_min {sg : zSig} {x y : Int32}  : zG mMa_min 411 (fun rr h' => rr = some (.int (fMin x y)) ∧ h' = zN sg) 0 [(0, .int x), (1, .int y)] [] (zN sg) := by
  refine zb_icgt (tgt := 9) bkMa_min_0 bdMa_min_2 (by decide) (lv' := [(0, .int x), (1, .int y)]) (st' := []) (h' := zN sg) (x := x) (y := y) (Ps := []) rfl trivial (fun c1 => ?_) (fun c1 => ?_)
  · skip
    refine zb_iret bkMa_min_9 bdMa_min_10 rfl (x := y) (h' := zN sg) (Ps := []) rfl trivial rfl ?_
    exact ⟨by grind [fMin], rfl⟩
  · skip
    refine zb_iret bkMa_min_5 bdMa_min_10 rfl (x := x) (h' := zN sg) (Ps := []) rfl trivial rfl ?_
    exact ⟨by grind [fMin], rfl⟩
theorem bkSty_brushed_0 : zBk mSty_brushed 0 [(1, 0, 0, 0, 0)] = some 1 := by decide +kernel
theorem bkSty_brushed_4 : zBk mSty_brushed 4 [(1, 1, 0, 0, 0), (4, 4, 0, 0, 0), (1, 2, 0, 0, 0), (0, 0, 0, 0, -1), (4, 5, 0, 0, 0), (4, 3, 0, 0, 0), (2, 5, 0, 0, 0), (1, 3, 0, 0, 0), (0, 0, 0, 0, -1)] = some 14 := by decide +kernel
theorem bkSty_brushed_24 : zBk mSty_brushed 24 [(1, 3, 0, 0, 0), (2, 6, 0, 0, 0), (0, 0, 0, 0, 0), (0, 0, 0, 0, 9), (1, 0, 0, 0, 0)] = some 31 := by decide +kernel
theorem bkSty_brushed_34 : zBk mSty_brushed 34 [(1, 4, 0, 0, 0), (4, 0, 0, 0, 0)] = some 37 := by decide +kernel
theorem bkSty_brushed_40 : zBk mSty_brushed 40 [] = some 40 := by decide +kernel
theorem bkSty_brushed_43 : zBk mSty_brushed 43 [(2, 7, 0, 0, 0), (1, 5, 0, 0, 0), (1, 6, 0, 0, 0), (1, 7, 0, 0, 0)] = some 51 := by decide +kernel
theorem bkSty_brushed_54 : zBk mSty_brushed 54 [] = some 54 := by decide +kernel
theorem bkSty_brushed_17 : zBk mSty_brushed 17 [(1, 0, 0, 0, 0)] = some 18 := by decide +kernel
theorem bkSty_brushed_21 : zBk mSty_brushed 21 [(22, 25, 0, 0, 0), (2, 6, 0, 0, 0), (0, 0, 0, 0, 0), (0, 0, 0, 0, 9), (1, 0, 0, 0, 0)] = some 31 := by decide +kernel
theorem bdSty_brushed_1 : decode mSty_brushed.2.2.1 1 = .ok (.invokestatic 9, 3) := by decide +kernel
theorem bdSty_brushed_14 : decode mSty_brushed.2.2.1 14 = .ok (.if_icmp .ne 10, 3) := by decide +kernel
theorem bdSty_brushed_18 : decode mSty_brushed.2.2.1 18 = .ok (.invokestatic 15, 3) := by decide +kernel
theorem bdSty_brushed_31 : decode mSty_brushed.2.2.1 31 = .ok (.invokestatic 18, 3) := by decide +kernel
theorem bdSty_brushed_37 : decode mSty_brushed.2.2.1 37 = .ok (.invokestatic 21, 3) := by decide +kernel
theorem bdSty_brushed_40 : decode mSty_brushed.2.2.1 40 = .ok (.invokestatic 27, 3) := by decide +kernel
theorem bdSty_brushed_51 : decode mSty_brushed.2.2.1 51 = .ok (.invokestatic 30, 3) := by decide +kernel
theorem bdSty_brushed_54 : decode mSty_brushed.2.2.1 54 = .ok (.ireturn, 1) := by decide +kernel
theorem cSty_brushed {sg : zSig} {s n f c g : Int32}  : zG mSty_brushed 411 (fun rr h' => rr = some (.int (fBr s n f c g)) ∧ h' = zN sg) 0 [(0, .int s), (1, .int n), (2, .int f), (3, .int c), (4, .int g)] [] (zN sg) := by
  refine zG_run bkSty_brushed_0 (lv' := [(0, .int s), (1, .int n), (2, .int f), (3, .int c), (4, .int g)]) (st' := [.int s]) (h' := zN sg) (Ps := []) rfl trivial ?_
  refine zG_calls (As := [.int s]) (rest := []) (N2 := 411) bdSty_brushed_1 okSty_flagsOf lk12_9 (And.intro (by decide) (by decide)) rfl rfl (Nat.le_of_ble_eq_true rfl) (Nat.le_of_ble_eq_true rfl) (Nat.le_refl 411) (Nat.le_refl 411) cSty_flagsOf ?_
  rintro rr h' ⟨rfl, rfl⟩ -
  refine zb_icne (tgt := 24) bkSty_brushed_4 bdSty_brushed_14 (by decide) (lv' := [(5, .int (((fFl s) ||| n) &&& (f ^^^ (-1)))), (0, .int s), (1, .int n), (2, .int f), (3, .int c), (4, .int g)]) (st' := []) (h' := zN sg) (x := c) (y := (-1)) (Ps := []) rfl trivial (fun c1 => ?_) (fun c1 => ?_)
  · skip
    refine zG_run bkSty_brushed_24 (lv' := [(6, .int c), (5, .int (((fFl s) ||| n) &&& (f ^^^ (-1)))), (0, .int s), (1, .int n), (2, .int f), (3, .int c), (4, .int g)]) (st' := [.int s, .int 9, .int 0]) (h' := zN sg) (Ps := []) rfl trivial ?_
    refine zG_calls (As := [.int s]) (rest := [.int 9, .int 0]) (N2 := 411) bdSty_brushed_31 okSty_sizeOf lk12_18 (And.intro (by decide) (by decide)) rfl rfl (Nat.le_of_ble_eq_true rfl) (Nat.le_of_ble_eq_true rfl) (Nat.le_refl 411) (Nat.le_refl 411) cSty_sizeOf ?_
    rintro rr h' ⟨rfl, rfl⟩ -
    refine zG_run bkSty_brushed_34 (lv' := [(6, .int c), (5, .int (((fFl s) ||| n) &&& (f ^^^ (-1)))), (0, .int s), (1, .int n), (2, .int f), (3, .int c), (4, .int g)]) (st' := [.int ((fSz s) + g), .int 9, .int 0]) (h' := zN sg) (Ps := []) rfl trivial ?_
    refine zG_calls (As := [.int 9, .int ((fSz s) + g)]) (rest := [.int 0]) (N2 := 411) bdSty_brushed_37 okMa_min lk12_21 (And.intro (by decide) (by decide)) rfl rfl (Nat.le_of_ble_eq_true rfl) (Nat.le_of_ble_eq_true rfl) (Nat.le_refl 411) (Nat.le_refl 411) cMa_min ?_
    rintro rr h' ⟨rfl, rfl⟩ -
    refine zG_run bkSty_brushed_40 (lv' := [(6, .int c), (5, .int (((fFl s) ||| n) &&& (f ^^^ (-1)))), (0, .int s), (1, .int n), (2, .int f), (3, .int c), (4, .int g)]) (st' := [.int (fMin 9 ((fSz s) + g)), .int 0]) (h' := zN sg) (Ps := []) rfl trivial ?_
    refine zG_calls (As := [.int 0, .int (fMin 9 ((fSz s) + g))]) (rest := []) (N2 := 411) bdSty_brushed_40 okMa_max lk12_27 (And.intro (by decide) (by decide)) rfl rfl (Nat.le_of_ble_eq_true rfl) (Nat.le_of_ble_eq_true rfl) (Nat.le_refl 411) (Nat.le_refl 411) cMa_max ?_
    rintro rr h' ⟨rfl, rfl⟩ -
    refine zG_run bkSty_brushed_43 (lv' := [(7, .int (fMax 0 (fMin 9 ((fSz s) + g)))), (6, .int c), (5, .int (((fFl s) ||| n) &&& (f ^^^ (-1)))), (0, .int s), (1, .int n), (2, .int f), (3, .int c), (4, .int g)]) (st' := [.int (fMax 0 (fMin 9 ((fSz s) + g))), .int c, .int (((fFl s) ||| n) &&& (f ^^^ (-1)))]) (h' := zN sg) (Ps := []) rfl trivial ?_
    refine zG_calls (As := [.int (((fFl s) ||| n) &&& (f ^^^ (-1))), .int c, .int (fMax 0 (fMin 9 ((fSz s) + g)))]) (rest := []) (N2 := 411) bdSty_brushed_51 okSty_of lk12_30 (And.intro (by decide) (by decide)) rfl rfl (Nat.le_of_ble_eq_true rfl) (Nat.le_of_ble_eq_true rfl) (Nat.le_refl 411) (Nat.le_refl 411) cSty_of ?_
    rintro rr h' ⟨rfl, rfl⟩ -
    refine zb_iret bkSty_brushed_54 bdSty_brushed_54 rfl (x := fOf (((fFl s) ||| n) &&& (f ^^^ (-1))) c (fMax 0 (fMin 9 ((fSz s) + g)))) (h' := zN sg) (Ps := []) rfl trivial rfl ?_
    exact ⟨by grind [fBr], rfl⟩
  · skip
    refine zG_run bkSty_brushed_17 (lv' := [(5, .int (((fFl s) ||| n) &&& (f ^^^ (-1)))), (0, .int s), (1, .int n), (2, .int f), (3, .int c), (4, .int g)]) (st' := [.int s]) (h' := zN sg) (Ps := []) rfl trivial ?_
    refine zG_calls (As := [.int s]) (rest := []) (N2 := 411) bdSty_brushed_18 okSty_colorOf lk12_15 (And.intro (by decide) (by decide)) rfl rfl (Nat.le_of_ble_eq_true rfl) (Nat.le_of_ble_eq_true rfl) (Nat.le_refl 411) (Nat.le_refl 411) cSty_colorOf ?_
    rintro rr h' ⟨rfl, rfl⟩ -
    refine zG_run bkSty_brushed_21 (lv' := [(6, .int (fCo s)), (5, .int (((fFl s) ||| n) &&& (f ^^^ (-1)))), (0, .int s), (1, .int n), (2, .int f), (3, .int c), (4, .int g)]) (st' := [.int s, .int 9, .int 0]) (h' := zN sg) (Ps := []) rfl trivial ?_
    refine zG_calls (As := [.int s]) (rest := [.int 9, .int 0]) (N2 := 411) bdSty_brushed_31 okSty_sizeOf lk12_18 (And.intro (by decide) (by decide)) rfl rfl (Nat.le_of_ble_eq_true rfl) (Nat.le_of_ble_eq_true rfl) (Nat.le_refl 411) (Nat.le_refl 411) cSty_sizeOf ?_
    rintro rr h' ⟨rfl, rfl⟩ -
    refine zG_run bkSty_brushed_34 (lv' := [(6, .int (fCo s)), (5, .int (((fFl s) ||| n) &&& (f ^^^ (-1)))), (0, .int s), (1, .int n), (2, .int f), (3, .int c), (4, .int g)]) (st' := [.int ((fSz s) + g), .int 9, .int 0]) (h' := zN sg) (Ps := []) rfl trivial ?_
    refine zG_calls (As := [.int 9, .int ((fSz s) + g)]) (rest := [.int 0]) (N2 := 411) bdSty_brushed_37 okMa_min lk12_21 (And.intro (by decide) (by decide)) rfl rfl (Nat.le_of_ble_eq_true rfl) (Nat.le_of_ble_eq_true rfl) (Nat.le_refl 411) (Nat.le_refl 411) cMa_min ?_
    rintro rr h' ⟨rfl, rfl⟩ -
    refine zG_run bkSty_brushed_40 (lv' := [(6, .int (fCo s)), (5, .int (((fFl s) ||| n) &&& (f ^^^ (-1)))), (0, .int s), (1, .int n), (2, .int f), (3, .int c), (4, .int g)]) (st' := [.int (fMin 9 ((fSz s) + g)), .int 0]) (h' := zN sg) (Ps := []) rfl trivial ?_
    refine zG_calls (As := [.int 0, .int (fMin 9 ((fSz s) + g))]) (rest := []) (N2 := 411) bdSty_brushed_40 okMa_max lk12_27 (And.intro (by decide) (by decide)) rfl rfl (Nat.le_of_ble_eq_true rfl) (Nat.le_of_ble_eq_true rfl) (Nat.le_refl 411) (Nat.le_refl 411) cMa_max ?_
    rintro rr h' ⟨rfl, rfl⟩ -
    refine zG_run bkSty_brushed_43 (lv' := [(7, .int (fMax 0 (fMin 9 ((fSz s) + g)))), (6, .int (fCo s)), (5, .int (((fFl s) ||| n) &&& (f ^^^ (-1)))), (0, .int s), (1, .int n), (2, .int f), (3, .int c), (4, .int g)]) (st' := [.int (fMax 0 (fMin 9 ((fSz s) + g))), .int (fCo s), .int (((fFl s) ||| n) &&& (f ^^^ (-1)))]) (h' := zN sg) (Ps := []) rfl trivial ?_
    refine zG_calls (As := [.int (((fFl s) ||| n) &&& (f ^^^ (-1))), .int (fCo s), .int (fMax 0 (fMin 9 ((fSz s) + g)))]) (rest := []) (N2 := 411) bdSty_brushed_51 okSty_of lk12_30 (And.intro (by decide) (by decide)) rfl rfl (Nat.le_of_ble_eq_true rfl) (Nat.le_of_ble_eq_true rfl) (Nat.le_refl 411) (Nat.le_refl 411) cSty_of ?_
    rintro rr h' ⟨rfl, rfl⟩ -
    refine zb_iret bkSty_brushed_54 bdSty_brushed_54 rfl (x := fOf (((fFl s) ||| n) &&& (f ^^^ (-1))) (fCo s) (fMax 0 (fMin 9 ((fSz s) + g)))) (h' := zN sg) (Ps := []) rfl trivial rfl ?_
    exact ⟨by grind [fBr], rfl⟩
theorem bkSty_marked_0 : zBk mSty_marked 0 [(1, 1, 0, 0, 0), (0, 0, 0, 0, 4)] = some 2 := by decide +kernel
theorem bkSty_marked_18 : zBk mSty_marked 18 [(1, 1, 0, 0, 0), (0, 0, 0, 0, 5)] = some 20 := by decide +kernel
theorem bkSty_marked_36 : zBk mSty_marked 36 [(1, 0, 0, 0, 0)] = some 37 := by decide +kernel
theorem bkSty_marked_40 : zBk mSty_marked 40 [(0, 0, 0, 0, 1), (1, 1, 0, 0, 0), (4, 6, 0, 0, 0), (4, 4, 0, 0, 0), (1, 0, 0, 0, 0)] = some 45 := by decide +kernel
theorem bkSty_marked_48 : zBk mSty_marked 48 [(1, 0, 0, 0, 0)] = some 49 := by decide +kernel
theorem bkSty_marked_52 : zBk mSty_marked 52 [] = some 52 := by decide +kernel
theorem bkSty_marked_55 : zBk mSty_marked 55 [] = some 55 := by decide +kernel
theorem bkSty_marked_23 : zBk mSty_marked 23 [(1, 0, 0, 0, 0)] = some 24 := by decide +kernel
theorem bkSty_marked_27 : zBk mSty_marked 27 [(1, 0, 0, 0, 0)] = some 28 := by decide +kernel
theorem bkSty_marked_31 : zBk mSty_marked 31 [(1, 2, 0, 0, 0)] = some 32 := by decide +kernel
theorem bkSty_marked_35 : zBk mSty_marked 35 [] = some 35 := by decide +kernel
theorem bkSty_marked_5 : zBk mSty_marked 5 [(1, 0, 0, 0, 0)] = some 6 := by decide +kernel
theorem bkSty_marked_9 : zBk mSty_marked 9 [(1, 2, 0, 0, 0), (1, 0, 0, 0, 0)] = some 11 := by decide +kernel
theorem bkSty_marked_14 : zBk mSty_marked 14 [] = some 14 := by decide +kernel
theorem bkSty_marked_17 : zBk mSty_marked 17 [] = some 17 := by decide +kernel
theorem bdSty_marked_2 : decode mSty_marked.2.2.1 2 = .ok (.if_icmp .ne 16, 3) := by decide +kernel
theorem bdSty_marked_6 : decode mSty_marked.2.2.1 6 = .ok (.invokestatic 9, 3) := by decide +kernel
theorem bdSty_marked_11 : decode mSty_marked.2.2.1 11 = .ok (.invokestatic 18, 3) := by decide +kernel
theorem bdSty_marked_14 : decode mSty_marked.2.2.1 14 = .ok (.invokestatic 30, 3) := by decide +kernel
theorem bdSty_marked_17 : decode mSty_marked.2.2.1 17 = .ok (.ireturn, 1) := by decide +kernel
theorem bdSty_marked_20 : decode mSty_marked.2.2.1 20 = .ok (.if_icmp .ne 16, 3) := by decide +kernel
theorem bdSty_marked_24 : decode mSty_marked.2.2.1 24 = .ok (.invokestatic 9, 3) := by decide +kernel
theorem bdSty_marked_28 : decode mSty_marked.2.2.1 28 = .ok (.invokestatic 15, 3) := by decide +kernel
theorem bdSty_marked_32 : decode mSty_marked.2.2.1 32 = .ok (.invokestatic 30, 3) := by decide +kernel
theorem bdSty_marked_35 : decode mSty_marked.2.2.1 35 = .ok (.ireturn, 1) := by decide +kernel
theorem bdSty_marked_37 : decode mSty_marked.2.2.1 37 = .ok (.invokestatic 9, 3) := by decide +kernel
theorem bdSty_marked_45 : decode mSty_marked.2.2.1 45 = .ok (.invokestatic 15, 3) := by decide +kernel
theorem bdSty_marked_49 : decode mSty_marked.2.2.1 49 = .ok (.invokestatic 18, 3) := by decide +kernel
theorem bdSty_marked_52 : decode mSty_marked.2.2.1 52 = .ok (.invokestatic 30, 3) := by decide +kernel
theorem bdSty_marked_55 : decode mSty_marked.2.2.1 55 = .ok (.ireturn, 1) := by decide +kernel
theorem cSty_marked {sg : zSig} {s k v : Int32}  : zG mSty_marked 411 (fun rr h' => rr = some (.int (fMk s k v)) ∧ h' = zN sg) 0 [(0, .int s), (1, .int k), (2, .int v)] [] (zN sg) := by
  refine zb_icne (tgt := 18) bkSty_marked_0 bdSty_marked_2 (by decide) (lv' := [(0, .int s), (1, .int k), (2, .int v)]) (st' := []) (h' := zN sg) (x := k) (y := 4) (Ps := []) rfl trivial (fun c1 => ?_) (fun c1 => ?_)
  · skip
    refine zb_icne (tgt := 36) bkSty_marked_18 bdSty_marked_20 (by decide) (lv' := [(0, .int s), (1, .int k), (2, .int v)]) (st' := []) (h' := zN sg) (x := k) (y := 5) (Ps := []) rfl trivial (fun c2 => ?_) (fun c2 => ?_)
    · skip
      refine zG_run bkSty_marked_36 (lv' := [(0, .int s), (1, .int k), (2, .int v)]) (st' := [.int s]) (h' := zN sg) (Ps := []) rfl trivial ?_
      refine zG_calls (As := [.int s]) (rest := []) (N2 := 411) bdSty_marked_37 okSty_flagsOf lk12_9 (And.intro (by decide) (by decide)) rfl rfl (Nat.le_of_ble_eq_true rfl) (Nat.le_of_ble_eq_true rfl) (Nat.le_refl 411) (Nat.le_refl 411) cSty_flagsOf ?_
      rintro rr h' ⟨rfl, rfl⟩ -
      refine zG_run bkSty_marked_40 (lv' := [(0, .int s), (1, .int k), (2, .int v)]) (st' := [.int s, .int ((fFl s) ||| (1 <<< (k &&& 31)))]) (h' := zN sg) (Ps := []) rfl trivial ?_
      refine zG_calls (As := [.int s]) (rest := [.int ((fFl s) ||| (1 <<< (k &&& 31)))]) (N2 := 411) bdSty_marked_45 okSty_colorOf lk12_15 (And.intro (by decide) (by decide)) rfl rfl (Nat.le_of_ble_eq_true rfl) (Nat.le_of_ble_eq_true rfl) (Nat.le_refl 411) (Nat.le_refl 411) cSty_colorOf ?_
      rintro rr h' ⟨rfl, rfl⟩ -
      refine zG_run bkSty_marked_48 (lv' := [(0, .int s), (1, .int k), (2, .int v)]) (st' := [.int s, .int (fCo s), .int ((fFl s) ||| (1 <<< (k &&& 31)))]) (h' := zN sg) (Ps := []) rfl trivial ?_
      refine zG_calls (As := [.int s]) (rest := [.int (fCo s), .int ((fFl s) ||| (1 <<< (k &&& 31)))]) (N2 := 411) bdSty_marked_49 okSty_sizeOf lk12_18 (And.intro (by decide) (by decide)) rfl rfl (Nat.le_of_ble_eq_true rfl) (Nat.le_of_ble_eq_true rfl) (Nat.le_refl 411) (Nat.le_refl 411) cSty_sizeOf ?_
      rintro rr h' ⟨rfl, rfl⟩ -
      refine zG_run bkSty_marked_52 (lv' := [(0, .int s), (1, .int k), (2, .int v)]) (st' := [.int (fSz s), .int (fCo s), .int ((fFl s) ||| (1 <<< (k &&& 31)))]) (h' := zN sg) (Ps := []) rfl trivial ?_
      refine zG_calls (As := [.int ((fFl s) ||| (1 <<< (k &&& 31))), .int (fCo s), .int (fSz s)]) (rest := []) (N2 := 411) bdSty_marked_52 okSty_of lk12_30 (And.intro (by decide) (by decide)) rfl rfl (Nat.le_of_ble_eq_true rfl) (Nat.le_of_ble_eq_true rfl) (Nat.le_refl 411) (Nat.le_refl 411) cSty_of ?_
      rintro rr h' ⟨rfl, rfl⟩ -
      refine zb_iret bkSty_marked_55 bdSty_marked_55 rfl (x := fOf ((fFl s) ||| (1 <<< (k &&& 31))) (fCo s) (fSz s)) (h' := zN sg) (Ps := []) rfl trivial rfl ?_
      exact ⟨by grind [fMk], rfl⟩
    · skip
      refine zG_run bkSty_marked_23 (lv' := [(0, .int s), (1, .int k), (2, .int v)]) (st' := [.int s]) (h' := zN sg) (Ps := []) rfl trivial ?_
      refine zG_calls (As := [.int s]) (rest := []) (N2 := 411) bdSty_marked_24 okSty_flagsOf lk12_9 (And.intro (by decide) (by decide)) rfl rfl (Nat.le_of_ble_eq_true rfl) (Nat.le_of_ble_eq_true rfl) (Nat.le_refl 411) (Nat.le_refl 411) cSty_flagsOf ?_
      rintro rr h' ⟨rfl, rfl⟩ -
      refine zG_run bkSty_marked_27 (lv' := [(0, .int s), (1, .int k), (2, .int v)]) (st' := [.int s, .int (fFl s)]) (h' := zN sg) (Ps := []) rfl trivial ?_
      refine zG_calls (As := [.int s]) (rest := [.int (fFl s)]) (N2 := 411) bdSty_marked_28 okSty_colorOf lk12_15 (And.intro (by decide) (by decide)) rfl rfl (Nat.le_of_ble_eq_true rfl) (Nat.le_of_ble_eq_true rfl) (Nat.le_refl 411) (Nat.le_refl 411) cSty_colorOf ?_
      rintro rr h' ⟨rfl, rfl⟩ -
      refine zG_run bkSty_marked_31 (lv' := [(0, .int s), (1, .int k), (2, .int v)]) (st' := [.int v, .int (fCo s), .int (fFl s)]) (h' := zN sg) (Ps := []) rfl trivial ?_
      refine zG_calls (As := [.int (fFl s), .int (fCo s), .int v]) (rest := []) (N2 := 411) bdSty_marked_32 okSty_of lk12_30 (And.intro (by decide) (by decide)) rfl rfl (Nat.le_of_ble_eq_true rfl) (Nat.le_of_ble_eq_true rfl) (Nat.le_refl 411) (Nat.le_refl 411) cSty_of ?_
      rintro rr h' ⟨rfl, rfl⟩ -
      refine zb_iret bkSty_marked_35 bdSty_marked_35 rfl (x := fOf (fFl s) (fCo s) v) (h' := zN sg) (Ps := []) rfl trivial rfl ?_
      exact ⟨by grind [fMk], rfl⟩
  · skip
    refine zG_run bkSty_marked_5 (lv' := [(0, .int s), (1, .int k), (2, .int v)]) (st' := [.int s]) (h' := zN sg) (Ps := []) rfl trivial ?_
    refine zG_calls (As := [.int s]) (rest := []) (N2 := 411) bdSty_marked_6 okSty_flagsOf lk12_9 (And.intro (by decide) (by decide)) rfl rfl (Nat.le_of_ble_eq_true rfl) (Nat.le_of_ble_eq_true rfl) (Nat.le_refl 411) (Nat.le_refl 411) cSty_flagsOf ?_
    rintro rr h' ⟨rfl, rfl⟩ -
    refine zG_run bkSty_marked_9 (lv' := [(0, .int s), (1, .int k), (2, .int v)]) (st' := [.int s, .int v, .int (fFl s)]) (h' := zN sg) (Ps := []) rfl trivial ?_
    refine zG_calls (As := [.int s]) (rest := [.int v, .int (fFl s)]) (N2 := 411) bdSty_marked_11 okSty_sizeOf lk12_18 (And.intro (by decide) (by decide)) rfl rfl (Nat.le_of_ble_eq_true rfl) (Nat.le_of_ble_eq_true rfl) (Nat.le_refl 411) (Nat.le_refl 411) cSty_sizeOf ?_
    rintro rr h' ⟨rfl, rfl⟩ -
    refine zG_run bkSty_marked_14 (lv' := [(0, .int s), (1, .int k), (2, .int v)]) (st' := [.int (fSz s), .int v, .int (fFl s)]) (h' := zN sg) (Ps := []) rfl trivial ?_
    refine zG_calls (As := [.int (fFl s), .int v, .int (fSz s)]) (rest := []) (N2 := 411) bdSty_marked_14 okSty_of lk12_30 (And.intro (by decide) (by decide)) rfl rfl (Nat.le_of_ble_eq_true rfl) (Nat.le_of_ble_eq_true rfl) (Nat.le_refl 411) (Nat.le_refl 411) cSty_of ?_
    rintro rr h' ⟨rfl, rfl⟩ -
    refine zb_iret bkSty_marked_17 bdSty_marked_17 rfl (x := fOf (fFl s) v (fSz s)) (h' := zN sg) (Ps := []) rfl trivial rfl ?_
    exact ⟨by grind [fMk], rfl⟩
theorem bkSty_markValue_0 : zBk mSty_markValue 0 [(1, 1, 0, 0, 0), (0, 0, 0, 0, 4)] = some 2 := by decide +kernel
theorem bkSty_markValue_21 : zBk mSty_markValue 21 [(1, 1, 0, 0, 0), (0, 0, 0, 0, 5)] = some 23 := by decide +kernel
theorem bkSty_markValue_43 : zBk mSty_markValue 43 [(1, 0, 0, 0, 0)] = some 44 := by decide +kernel
theorem bkSty_markValue_47 : zBk mSty_markValue 47 [(1, 1, 0, 0, 0), (4, 7, 0, 0, 0), (0, 0, 0, 0, 1), (4, 3, 0, 0, 0)] = some 51 := by decide +kernel
theorem bkSty_markValue_58 : zBk mSty_markValue 58 [(0, 0, 0, 0, 1)] = some 59 := by decide +kernel
theorem bkSty_markValue_54 : zBk mSty_markValue 54 [(0, 0, 0, 0, -1), (22, 59, 0, 0, 0)] = some 59 := by decide +kernel
theorem bkSty_markValue_26 : zBk mSty_markValue 26 [(1, 0, 0, 0, 0)] = some 27 := by decide +kernel
theorem bkSty_markValue_30 : zBk mSty_markValue 30 [(0, 0, 0, 0, 4)] = some 31 := by decide +kernel
theorem bkSty_markValue_38 : zBk mSty_markValue 38 [(1, 0, 0, 0, 0)] = some 39 := by decide +kernel
theorem bkSty_markValue_42 : zBk mSty_markValue 42 [] = some 42 := by decide +kernel
theorem bkSty_markValue_34 : zBk mSty_markValue 34 [(0, 0, 0, 0, -1), (22, 42, 0, 0, 0)] = some 42 := by decide +kernel
theorem bkSty_markValue_5 : zBk mSty_markValue 5 [(1, 0, 0, 0, 0)] = some 6 := by decide +kernel
theorem bkSty_markValue_9 : zBk mSty_markValue 9 [] = some 9 := by decide +kernel
theorem bkSty_markValue_16 : zBk mSty_markValue 16 [(1, 0, 0, 0, 0)] = some 17 := by decide +kernel
theorem bkSty_markValue_20 : zBk mSty_markValue 20 [] = some 20 := by decide +kernel
theorem bkSty_markValue_12 : zBk mSty_markValue 12 [(0, 0, 0, 0, -1), (22, 20, 0, 0, 0)] = some 20 := by decide +kernel
theorem bdSty_markValue_2 : decode mSty_markValue.2.2.1 2 = .ok (.if_icmp .ne 19, 3) := by decide +kernel
theorem bdSty_markValue_6 : decode mSty_markValue.2.2.1 6 = .ok (.invokestatic 15, 3) := by decide +kernel
theorem bdSty_markValue_9 : decode mSty_markValue.2.2.1 9 = .ok (.ifCond .ne 7, 3) := by decide +kernel
theorem bdSty_markValue_17 : decode mSty_markValue.2.2.1 17 = .ok (.invokestatic 15, 3) := by decide +kernel
theorem bdSty_markValue_20 : decode mSty_markValue.2.2.1 20 = .ok (.ireturn, 1) := by decide +kernel
theorem bdSty_markValue_23 : decode mSty_markValue.2.2.1 23 = .ok (.if_icmp .ne 20, 3) := by decide +kernel
theorem bdSty_markValue_27 : decode mSty_markValue.2.2.1 27 = .ok (.invokestatic 18, 3) := by decide +kernel
theorem bdSty_markValue_31 : decode mSty_markValue.2.2.1 31 = .ok (.if_icmp .ne 7, 3) := by decide +kernel
theorem bdSty_markValue_39 : decode mSty_markValue.2.2.1 39 = .ok (.invokestatic 18, 3) := by decide +kernel
theorem bdSty_markValue_42 : decode mSty_markValue.2.2.1 42 = .ok (.ireturn, 1) := by decide +kernel
theorem bdSty_markValue_44 : decode mSty_markValue.2.2.1 44 = .ok (.invokestatic 9, 3) := by decide +kernel
theorem bdSty_markValue_51 : decode mSty_markValue.2.2.1 51 = .ok (.ifCond .ne 7, 3) := by decide +kernel
theorem bdSty_markValue_59 : decode mSty_markValue.2.2.1 59 = .ok (.ireturn, 1) := by decide +kernel
theorem cSty_markValue {sg : zSig} {s k : Int32}  : zG mSty_markValue 411 (fun rr h' => rr = some (.int (fMv s k)) ∧ h' = zN sg) 0 [(0, .int s), (1, .int k)] [] (zN sg) := by
  refine zb_icne (tgt := 21) bkSty_markValue_0 bdSty_markValue_2 (by decide) (lv' := [(0, .int s), (1, .int k)]) (st' := []) (h' := zN sg) (x := k) (y := 4) (Ps := []) rfl trivial (fun c1 => ?_) (fun c1 => ?_)
  · skip
    refine zb_icne (tgt := 43) bkSty_markValue_21 bdSty_markValue_23 (by decide) (lv' := [(0, .int s), (1, .int k)]) (st' := []) (h' := zN sg) (x := k) (y := 5) (Ps := []) rfl trivial (fun c2 => ?_) (fun c2 => ?_)
    · skip
      refine zG_run bkSty_markValue_43 (lv' := [(0, .int s), (1, .int k)]) (st' := [.int s]) (h' := zN sg) (Ps := []) rfl trivial ?_
      refine zG_calls (As := [.int s]) (rest := []) (N2 := 411) bdSty_markValue_44 okSty_flagsOf lk12_9 (And.intro (by decide) (by decide)) rfl rfl (Nat.le_of_ble_eq_true rfl) (Nat.le_of_ble_eq_true rfl) (Nat.le_refl 411) (Nat.le_refl 411) cSty_flagsOf ?_
      rintro rr h' ⟨rfl, rfl⟩ -
      refine zb_ifne (tgt := 58) bkSty_markValue_47 bdSty_markValue_51 (by decide) (lv' := [(0, .int s), (1, .int k)]) (st' := []) (h' := zN sg) (x := ((fFl s) >>> (k &&& 31)) &&& 1) (Ps := []) rfl trivial (fun c3 => ?_) (fun c3 => ?_)
      · skip
        refine zb_iret bkSty_markValue_58 bdSty_markValue_59 rfl (x := 1) (h' := zN sg) (Ps := []) rfl trivial rfl ?_
        exact ⟨by grind [fMv], rfl⟩
      · skip
        refine zb_iret bkSty_markValue_54 bdSty_markValue_59 rfl (x := (-1)) (h' := zN sg) (Ps := []) rfl trivial rfl ?_
        exact ⟨by grind [fMv], rfl⟩
    · skip
      refine zG_run bkSty_markValue_26 (lv' := [(0, .int s), (1, .int k)]) (st' := [.int s]) (h' := zN sg) (Ps := []) rfl trivial ?_
      refine zG_calls (As := [.int s]) (rest := []) (N2 := 411) bdSty_markValue_27 okSty_sizeOf lk12_18 (And.intro (by decide) (by decide)) rfl rfl (Nat.le_of_ble_eq_true rfl) (Nat.le_of_ble_eq_true rfl) (Nat.le_refl 411) (Nat.le_refl 411) cSty_sizeOf ?_
      rintro rr h' ⟨rfl, rfl⟩ -
      refine zb_icne (tgt := 38) bkSty_markValue_30 bdSty_markValue_31 (by decide) (lv' := [(0, .int s), (1, .int k)]) (st' := []) (h' := zN sg) (x := fSz s) (y := 4) (Ps := []) rfl trivial (fun c4 => ?_) (fun c4 => ?_)
      · skip
        refine zG_run bkSty_markValue_38 (lv' := [(0, .int s), (1, .int k)]) (st' := [.int s]) (h' := zN sg) (Ps := []) rfl trivial ?_
        refine zG_calls (As := [.int s]) (rest := []) (N2 := 411) bdSty_markValue_39 okSty_sizeOf lk12_18 (And.intro (by decide) (by decide)) rfl rfl (Nat.le_of_ble_eq_true rfl) (Nat.le_of_ble_eq_true rfl) (Nat.le_refl 411) (Nat.le_refl 411) cSty_sizeOf ?_
        rintro rr h' ⟨rfl, rfl⟩ -
        refine zb_iret bkSty_markValue_42 bdSty_markValue_42 rfl (x := fSz s) (h' := zN sg) (Ps := []) rfl trivial rfl ?_
        exact ⟨by grind [fMv], rfl⟩
      · skip
        refine zb_iret bkSty_markValue_34 bdSty_markValue_42 rfl (x := (-1)) (h' := zN sg) (Ps := []) rfl trivial rfl ?_
        exact ⟨by grind [fMv], rfl⟩
  · skip
    refine zG_run bkSty_markValue_5 (lv' := [(0, .int s), (1, .int k)]) (st' := [.int s]) (h' := zN sg) (Ps := []) rfl trivial ?_
    refine zG_calls (As := [.int s]) (rest := []) (N2 := 411) bdSty_markValue_6 okSty_colorOf lk12_15 (And.intro (by decide) (by decide)) rfl rfl (Nat.le_of_ble_eq_true rfl) (Nat.le_of_ble_eq_true rfl) (Nat.le_refl 411) (Nat.le_refl 411) cSty_colorOf ?_
    rintro rr h' ⟨rfl, rfl⟩ -
    refine zb_ifne (tgt := 16) bkSty_markValue_9 bdSty_markValue_9 (by decide) (lv' := [(0, .int s), (1, .int k)]) (st' := []) (h' := zN sg) (x := fCo s) (Ps := []) rfl trivial (fun c5 => ?_) (fun c5 => ?_)
    · skip
      refine zG_run bkSty_markValue_16 (lv' := [(0, .int s), (1, .int k)]) (st' := [.int s]) (h' := zN sg) (Ps := []) rfl trivial ?_
      refine zG_calls (As := [.int s]) (rest := []) (N2 := 411) bdSty_markValue_17 okSty_colorOf lk12_15 (And.intro (by decide) (by decide)) rfl rfl (Nat.le_of_ble_eq_true rfl) (Nat.le_of_ble_eq_true rfl) (Nat.le_refl 411) (Nat.le_refl 411) cSty_colorOf ?_
      rintro rr h' ⟨rfl, rfl⟩ -
      refine zb_iret bkSty_markValue_20 bdSty_markValue_20 rfl (x := fCo s) (h' := zN sg) (Ps := []) rfl trivial rfl ?_
      exact ⟨by grind [fMv], rfl⟩
    · skip
      refine zb_iret bkSty_markValue_12 bdSty_markValue_20 rfl (x := (-1)) (h' := zN sg) (Ps := []) rfl trivial rfl ?_
      exact ⟨by grind [fMv], rfl⟩
theorem bkSty_suits_0 : zBk mSty_suits 0 [(1, 0, 0, 0, 0)] = some 1 := by decide +kernel
theorem bkSty_suits_4 : zBk mSty_suits 4 [(1, 2, 0, 0, 0), (4, 5, 0, 0, 0), (1, 1, 0, 0, 0), (4, 3, 0, 0, 0)] = some 8 := by decide +kernel
theorem bkSty_suits_15 : zBk mSty_suits 15 [(0, 0, 0, 0, 0), (2, 4, 0, 0, 0), (1, 4, 0, 0, 0)] = some 20 := by decide +kernel
theorem bkSty_suits_40 : zBk mSty_suits 40 [(0, 0, 0, 0, 0)] = some 41 := by decide +kernel
theorem bkSty_suits_11 : zBk mSty_suits 11 [(0, 0, 0, 0, 1), (22, 16, 0, 0, 0), (2, 4, 0, 0, 0), (1, 4, 0, 0, 0)] = some 20 := by decide +kernel
theorem bkSty_suits_23 : zBk mSty_suits 23 [(1, 3, 0, 0, 0), (0, 0, 0, 0, -1)] = some 25 := by decide +kernel
theorem bkSty_suits_36 : zBk mSty_suits 36 [(0, 0, 0, 0, 1), (22, 41, 0, 0, 0)] = some 41 := by decide +kernel
theorem bkSty_suits_28 : zBk mSty_suits 28 [(1, 0, 0, 0, 0)] = some 29 := by decide +kernel
theorem bkSty_suits_32 : zBk mSty_suits 32 [(1, 3, 0, 0, 0)] = some 33 := by decide +kernel
theorem bdSty_suits_1 : decode mSty_suits.2.2.1 1 = .ok (.invokestatic 9, 3) := by decide +kernel
theorem bdSty_suits_8 : decode mSty_suits.2.2.1 8 = .ok (.ifCond .ne 7, 3) := by decide +kernel
theorem bdSty_suits_20 : decode mSty_suits.2.2.1 20 = .ok (.ifCond .eq 20, 3) := by decide +kernel
theorem bdSty_suits_25 : decode mSty_suits.2.2.1 25 = .ok (.if_icmp .eq 11, 3) := by decide +kernel
theorem bdSty_suits_29 : decode mSty_suits.2.2.1 29 = .ok (.invokestatic 15, 3) := by decide +kernel
theorem bdSty_suits_33 : decode mSty_suits.2.2.1 33 = .ok (.if_icmp .ne 7, 3) := by decide +kernel
theorem bdSty_suits_41 : decode mSty_suits.2.2.1 41 = .ok (.ireturn, 1) := by decide +kernel
theorem cSty_suits {sg : zSig} {s m f c : Int32}  : zG mSty_suits 411 (fun rr h' => rr = some (.int (fSu s m f c)) ∧ h' = zN sg) 0 [(0, .int s), (1, .int m), (2, .int f), (3, .int c)] [] (zN sg) := by
  refine zG_run bkSty_suits_0 (lv' := [(0, .int s), (1, .int m), (2, .int f), (3, .int c)]) (st' := [.int s]) (h' := zN sg) (Ps := []) rfl trivial ?_
  refine zG_calls (As := [.int s]) (rest := []) (N2 := 411) bdSty_suits_1 okSty_flagsOf lk12_9 (And.intro (by decide) (by decide)) rfl rfl (Nat.le_of_ble_eq_true rfl) (Nat.le_of_ble_eq_true rfl) (Nat.le_refl 411) (Nat.le_refl 411) cSty_flagsOf ?_
  rintro rr h' ⟨rfl, rfl⟩ -
  refine zb_ifne (tgt := 15) bkSty_suits_4 bdSty_suits_8 (by decide) (lv' := [(0, .int s), (1, .int m), (2, .int f), (3, .int c)]) (st' := []) (h' := zN sg) (x := ((fFl s) ^^^ f) &&& m) (Ps := []) rfl trivial (fun c1 => ?_) (fun c1 => ?_)
  · skip
    refine zb_ifeq (tgt := 40) bkSty_suits_15 bdSty_suits_20 (by decide) (lv' := [(4, .int 0), (0, .int s), (1, .int m), (2, .int f), (3, .int c)]) (st' := []) (h' := zN sg) (x := 0) (Ps := []) rfl trivial (fun c2 => ?_) (fun c2 => ?_)
    · skip
      refine zb_zret bkSty_suits_40 bdSty_suits_41 rfl (x := 0) (h' := zN sg) (Ps := []) rfl trivial rfl (Or.inl rfl) ?_
      exact ⟨by grind [fSu], rfl⟩
    · exact absurd c2 (by decide)
  · skip
    refine zb_ifeq (tgt := 40) bkSty_suits_11 bdSty_suits_20 (by decide) (lv' := [(4, .int 1), (0, .int s), (1, .int m), (2, .int f), (3, .int c)]) (st' := []) (h' := zN sg) (x := 1) (Ps := []) rfl trivial (fun c3 => ?_) (fun c3 => ?_)
    · exact absurd c3 (by decide)
    · skip
      refine zb_iceq (tgt := 36) bkSty_suits_23 bdSty_suits_25 (by decide) (lv' := [(4, .int 1), (0, .int s), (1, .int m), (2, .int f), (3, .int c)]) (st' := []) (h' := zN sg) (x := c) (y := (-1)) (Ps := []) rfl trivial (fun c4 => ?_) (fun c4 => ?_)
      · skip
        refine zb_zret bkSty_suits_36 bdSty_suits_41 rfl (x := 1) (h' := zN sg) (Ps := []) rfl trivial rfl (Or.inr rfl) ?_
        exact ⟨by grind [fSu], rfl⟩
      · skip
        refine zG_run bkSty_suits_28 (lv' := [(4, .int 1), (0, .int s), (1, .int m), (2, .int f), (3, .int c)]) (st' := [.int s]) (h' := zN sg) (Ps := []) rfl trivial ?_
        refine zG_calls (As := [.int s]) (rest := []) (N2 := 411) bdSty_suits_29 okSty_colorOf lk12_15 (And.intro (by decide) (by decide)) rfl rfl (Nat.le_of_ble_eq_true rfl) (Nat.le_of_ble_eq_true rfl) (Nat.le_refl 411) (Nat.le_refl 411) cSty_colorOf ?_
        rintro rr h' ⟨rfl, rfl⟩ -
        refine zb_icne (tgt := 40) bkSty_suits_32 bdSty_suits_33 (by decide) (lv' := [(4, .int 1), (0, .int s), (1, .int m), (2, .int f), (3, .int c)]) (st' := []) (h' := zN sg) (x := fCo s) (y := c) (Ps := []) rfl trivial (fun c5 => ?_) (fun c5 => ?_)
        · skip
          refine zb_zret bkSty_suits_40 bdSty_suits_41 rfl (x := 0) (h' := zN sg) (Ps := []) rfl trivial rfl (Or.inl rfl) ?_
          exact ⟨by grind [fSu], rfl⟩
        · skip
          refine zb_zret bkSty_suits_36 bdSty_suits_41 rfl (x := 1) (h' := zN sg) (Ps := []) rfl trivial rfl (Or.inr rfl) ?_
          exact ⟨by grind [fSu], rfl⟩
theorem bkPla_afterComing_0 : zBk mPla_afterComing 0 [(1, 0, 0, 0, 0), (1, 2, 0, 0, 0)] = some 2 := by decide +kernel
theorem bkPla_afterComing_15 : zBk mPla_afterComing 15 [(1, 0, 0, 0, 0), (1, 3, 0, 0, 0), (4, 0, 0, 0, 0), (22, 22, 0, 0, 0)] = some 22 := by decide +kernel
theorem bkPla_afterComing_5 : zBk mPla_afterComing 5 [(1, 0, 0, 0, 0), (1, 2, 0, 0, 0)] = some 7 := by decide +kernel
theorem bkPla_afterComing_21 : zBk mPla_afterComing 21 [(1, 0, 0, 0, 0)] = some 22 := by decide +kernel
theorem bkPla_afterComing_10 : zBk mPla_afterComing 10 [(1, 1, 0, 0, 0), (0, 0, 0, 0, 1)] = some 12 := by decide +kernel
theorem bdPla_afterComing_2 : decode mPla_afterComing.2.2.1 2 = .ok (.if_icmp .gt 13, 3) := by decide +kernel
theorem bdPla_afterComing_7 : decode mPla_afterComing.2.2.1 7 = .ok (.if_icmp .ne 14, 3) := by decide +kernel
theorem bdPla_afterComing_12 : decode mPla_afterComing.2.2.1 12 = .ok (.if_icmp .ne 9, 3) := by decide +kernel
theorem bdPla_afterComing_22 : decode mPla_afterComing.2.2.1 22 = .ok (.ireturn, 1) := by decide +kernel
theorem cPla_afterComing {sg : zSig} {x l p m : Int32}  : zG mPla_afterComing 411 (fun rr h' => rr = some (.int (pOn x l p m)) ∧ h' = zN sg) 0 [(0, .int x), (1, .int l), (2, .int p), (3, .int m)] [] (zN sg) := by
  refine zb_icgt (tgt := 15) bkPla_afterComing_0 bdPla_afterComing_2 (by decide) (lv' := [(0, .int x), (1, .int l), (2, .int p), (3, .int m)]) (st' := []) (h' := zN sg) (x := x) (y := p) (Ps := []) rfl trivial (fun c1 => ?_) (fun c1 => ?_)
  · skip
    refine zb_iret bkPla_afterComing_15 bdPla_afterComing_22 rfl (x := x + m) (h' := zN sg) (Ps := []) rfl trivial rfl ?_
    exact ⟨by grind [pOn], rfl⟩
  · skip
    refine zb_icne (tgt := 21) bkPla_afterComing_5 bdPla_afterComing_7 (by decide) (lv' := [(0, .int x), (1, .int l), (2, .int p), (3, .int m)]) (st' := []) (h' := zN sg) (x := x) (y := p) (Ps := []) rfl trivial (fun c2 => ?_) (fun c2 => ?_)
    · skip
      refine zb_iret bkPla_afterComing_21 bdPla_afterComing_22 rfl (x := x) (h' := zN sg) (Ps := []) rfl trivial rfl ?_
      exact ⟨by grind [pOn], rfl⟩
    · skip
      refine zb_icne (tgt := 21) bkPla_afterComing_10 bdPla_afterComing_12 (by decide) (lv' := [(0, .int x), (1, .int l), (2, .int p), (3, .int m)]) (st' := []) (h' := zN sg) (x := l) (y := 1) (Ps := []) rfl trivial (fun c3 => ?_) (fun c3 => ?_)
      · skip
        refine zb_iret bkPla_afterComing_21 bdPla_afterComing_22 rfl (x := x) (h' := zN sg) (Ps := []) rfl trivial rfl ?_
        exact ⟨by grind [pOn], rfl⟩
      · skip
        refine zb_iret bkPla_afterComing_15 bdPla_afterComing_22 rfl (x := x + m) (h' := zN sg) (Ps := []) rfl trivial rfl ?_
        exact ⟨by grind [pOn], rfl⟩
theorem bkPla_afterGoing_0 : zBk mPla_afterGoing 0 [(1, 0, 0, 0, 0), (1, 2, 0, 0, 0)] = some 2 := by decide +kernel
theorem bkPla_afterGoing_11 : zBk mPla_afterGoing 11 [(1, 0, 0, 0, 0), (1, 1, 0, 0, 0)] = some 13 := by decide +kernel
theorem bkPla_afterGoing_16 : zBk mPla_afterGoing 16 [] = some 16 := by decide +kernel
theorem bkPla_afterGoing_5 : zBk mPla_afterGoing 5 [(1, 0, 0, 0, 0), (1, 2, 0, 0, 0), (1, 1, 0, 0, 0), (4, 1, 0, 0, 0), (4, 1, 0, 0, 0)] = some 10 := by decide +kernel
theorem bdPla_afterGoing_2 : decode mPla_afterGoing.2.2.1 2 = .ok (.if_icmp .lt 9, 3) := by decide +kernel
theorem bdPla_afterGoing_10 : decode mPla_afterGoing.2.2.1 10 = .ok (.ireturn, 1) := by decide +kernel
theorem bdPla_afterGoing_13 : decode mPla_afterGoing.2.2.1 13 = .ok (.invokestatic 7, 3) := by decide +kernel
theorem bdPla_afterGoing_16 : decode mPla_afterGoing.2.2.1 16 = .ok (.ireturn, 1) := by decide +kernel
theorem cPla_afterGoing {sg : zSig} {x p q : Int32}  : zG mPla_afterGoing 411 (fun rr h' => rr = some (.int (pBk x p q)) ∧ h' = zN sg) 0 [(0, .int x), (1, .int p), (2, .int q)] [] (zN sg) := by
  refine zb_iclt (tgt := 11) bkPla_afterGoing_0 bdPla_afterGoing_2 (by decide) (lv' := [(0, .int x), (1, .int p), (2, .int q)]) (st' := []) (h' := zN sg) (x := x) (y := q) (Ps := []) rfl trivial (fun c1 => ?_) (fun c1 => ?_)
  · skip
    refine zG_run bkPla_afterGoing_11 (lv' := [(0, .int x), (1, .int p), (2, .int q)]) (st' := [.int p, .int x]) (h' := zN sg) (Ps := []) rfl trivial ?_
    refine zG_calls (As := [.int x, .int p]) (rest := []) (N2 := 411) bdPla_afterGoing_13 okMa_min lk11_7 (And.intro (by decide) (by decide)) rfl rfl (Nat.le_of_ble_eq_true rfl) (Nat.le_of_ble_eq_true rfl) (Nat.le_refl 411) (Nat.le_refl 411) cMa_min ?_
    rintro rr h' ⟨rfl, rfl⟩ -
    refine zb_iret bkPla_afterGoing_16 bdPla_afterGoing_16 rfl (x := fMin x p) (h' := zN sg) (Ps := []) rfl trivial rfl ?_
    exact ⟨by grind [pBk, fMin], rfl⟩
  · skip
    refine zb_iret bkPla_afterGoing_5 bdPla_afterGoing_10 rfl (x := x - (q - p)) (h' := zN sg) (Ps := []) rfl trivial rfl ?_
    exact ⟨by grind [pBk, fMin], rfl⟩
theorem bkPla_landing_0 : zBk mPla_landing 0 [(1, 2, 0, 0, 0), (1, 0, 0, 0, 0)] = some 2 := by decide +kernel
theorem bkPla_landing_13 : zBk mPla_landing 13 [(1, 2, 0, 0, 0)] = some 14 := by decide +kernel
theorem bkPla_landing_5 : zBk mPla_landing 5 [(1, 2, 0, 0, 0), (1, 1, 0, 0, 0), (1, 0, 0, 0, 0), (4, 1, 0, 0, 0), (4, 1, 0, 0, 0), (22, 14, 0, 0, 0)] = some 14 := by decide +kernel
theorem bdPla_landing_2 : decode mPla_landing.2.2.1 2 = .ok (.if_icmp .le 11, 3) := by decide +kernel
theorem bdPla_landing_14 : decode mPla_landing.2.2.1 14 = .ok (.ireturn, 1) := by decide +kernel
theorem cPla_landing {sg : zSig} {p q r : Int32}  : zG mPla_landing 411 (fun rr h' => rr = some (.int (pLd p q r)) ∧ h' = zN sg) 0 [(0, .int p), (1, .int q), (2, .int r)] [] (zN sg) := by
  refine zb_icle (tgt := 13) bkPla_landing_0 bdPla_landing_2 (by decide) (lv' := [(0, .int p), (1, .int q), (2, .int r)]) (st' := []) (h' := zN sg) (x := r) (y := p) (Ps := []) rfl trivial (fun c1 => ?_) (fun c1 => ?_)
  · skip
    refine zb_iret bkPla_landing_13 bdPla_landing_14 rfl (x := r) (h' := zN sg) (Ps := []) rfl trivial rfl ?_
    exact ⟨by grind [pLd], rfl⟩
  · skip
    refine zb_iret bkPla_landing_5 bdPla_landing_14 rfl (x := r - (q - p)) (h' := zN sg) (Ps := []) rfl trivial rfl ?_
    exact ⟨by grind [pLd], rfl⟩
theorem bkPla_leftByMove_0 : zBk mPla_leftByMove 0 [(1, 0, 0, 0, 0), (1, 2, 0, 0, 0), (1, 3, 0, 0, 0)] = some 3 := by decide +kernel
theorem bkPla_leftByMove_6 : zBk mPla_leftByMove 6 [(1, 1, 0, 0, 0), (1, 2, 0, 0, 0), (1, 3, 0, 0, 0), (1, 4, 0, 0, 0)] = some 11 := by decide +kernel
theorem bkPla_leftByMove_14 : zBk mPla_leftByMove 14 [(1, 3, 0, 0, 0), (1, 2, 0, 0, 0), (4, 1, 0, 0, 0)] = some 17 := by decide +kernel
theorem bkPla_leftByMove_20 : zBk mPla_leftByMove 20 [] = some 20 := by decide +kernel
theorem bdPla_leftByMove_3 : decode mPla_leftByMove.2.2.1 3 = .ok (.invokestatic 13, 3) := by decide +kernel
theorem bdPla_leftByMove_11 : decode mPla_leftByMove.2.2.1 11 = .ok (.invokestatic 19, 3) := by decide +kernel
theorem bdPla_leftByMove_17 : decode mPla_leftByMove.2.2.1 17 = .ok (.invokestatic 22, 3) := by decide +kernel
theorem bdPla_leftByMove_20 : decode mPla_leftByMove.2.2.1 20 = .ok (.ireturn, 1) := by decide +kernel
theorem cPla_leftByMove {sg : zSig} {x l p q r : Int32}  : zG mPla_leftByMove 411 (fun rr h' => rr = some (.int (pLb x l p q r)) ∧ h' = zN sg) 0 [(0, .int x), (1, .int l), (2, .int p), (3, .int q), (4, .int r)] [] (zN sg) := by
  refine zG_run bkPla_leftByMove_0 (lv' := [(0, .int x), (1, .int l), (2, .int p), (3, .int q), (4, .int r)]) (st' := [.int q, .int p, .int x]) (h' := zN sg) (Ps := []) rfl trivial ?_
  refine zG_calls (As := [.int x, .int p, .int q]) (rest := []) (N2 := 411) bdPla_leftByMove_3 okPla_afterGoing lk11_13 (And.intro (by decide) (by decide)) rfl rfl (Nat.le_of_ble_eq_true rfl) (Nat.le_of_ble_eq_true rfl) (Nat.le_refl 411) (Nat.le_refl 411) cPla_afterGoing ?_
  rintro rr h' ⟨rfl, rfl⟩ -
  refine zG_run bkPla_leftByMove_6 (lv' := [(0, .int x), (1, .int l), (2, .int p), (3, .int q), (4, .int r)]) (st' := [.int r, .int q, .int p, .int l, .int (pBk x p q)]) (h' := zN sg) (Ps := []) rfl trivial ?_
  refine zG_calls (As := [.int p, .int q, .int r]) (rest := [.int l, .int (pBk x p q)]) (N2 := 411) bdPla_leftByMove_11 okPla_landing lk11_19 (And.intro (by decide) (by decide)) rfl rfl (Nat.le_of_ble_eq_true rfl) (Nat.le_of_ble_eq_true rfl) (Nat.le_refl 411) (Nat.le_refl 411) cPla_landing ?_
  rintro rr h' ⟨rfl, rfl⟩ -
  refine zG_run bkPla_leftByMove_14 (lv' := [(0, .int x), (1, .int l), (2, .int p), (3, .int q), (4, .int r)]) (st' := [.int (q - p), .int (pLd p q r), .int l, .int (pBk x p q)]) (h' := zN sg) (Ps := []) rfl trivial ?_
  refine zG_calls (As := [.int (pBk x p q), .int l, .int (pLd p q r), .int (q - p)]) (rest := []) (N2 := 411) bdPla_leftByMove_17 okPla_afterComing lk11_22 (And.intro (by decide) (by decide)) rfl rfl (Nat.le_of_ble_eq_true rfl) (Nat.le_of_ble_eq_true rfl) (Nat.le_refl 411) (Nat.le_refl 411) cPla_afterComing ?_
  rintro rr h' ⟨rfl, rfl⟩ -
  refine zb_iret bkPla_leftByMove_20 bdPla_leftByMove_20 rfl (x := pOn (pBk x p q) l (pLd p q r) (q - p)) (h' := zN sg) (Ps := []) rfl trivial rfl ?_
  exact ⟨by grind [pLb], rfl⟩
theorem bkPla_afterMove_0 : zBk mPla_afterMove 0 [(1, 2, 0, 0, 0), (1, 0, 0, 0, 0)] = some 2 := by decide +kernel
theorem bkPla_afterMove_22 : zBk mPla_afterMove 22 [(1, 0, 0, 0, 0), (1, 1, 0, 0, 0), (1, 2, 0, 0, 0), (1, 3, 0, 0, 0), (1, 4, 0, 0, 0)] = some 28 := by decide +kernel
theorem bkPla_afterMove_31 : zBk mPla_afterMove 31 [] = some 31 := by decide +kernel
theorem bkPla_afterMove_5 : zBk mPla_afterMove 5 [(1, 0, 0, 0, 0), (1, 3, 0, 0, 0)] = some 7 := by decide +kernel
theorem bkPla_afterMove_10 : zBk mPla_afterMove 10 [(1, 0, 0, 0, 0), (1, 2, 0, 0, 0), (1, 3, 0, 0, 0), (1, 4, 0, 0, 0)] = some 15 := by decide +kernel
theorem bkPla_afterMove_18 : zBk mPla_afterMove 18 [(4, 0, 0, 0, 0), (1, 2, 0, 0, 0), (4, 1, 0, 0, 0)] = some 21 := by decide +kernel
theorem bdPla_afterMove_2 : decode mPla_afterMove.2.2.1 2 = .ok (.if_icmp .ge 20, 3) := by decide +kernel
theorem bdPla_afterMove_7 : decode mPla_afterMove.2.2.1 7 = .ok (.if_icmp .ge 15, 3) := by decide +kernel
theorem bdPla_afterMove_15 : decode mPla_afterMove.2.2.1 15 = .ok (.invokestatic 19, 3) := by decide +kernel
theorem bdPla_afterMove_21 : decode mPla_afterMove.2.2.1 21 = .ok (.ireturn, 1) := by decide +kernel
theorem bdPla_afterMove_28 : decode mPla_afterMove.2.2.1 28 = .ok (.invokestatic 26, 3) := by decide +kernel
theorem bdPla_afterMove_31 : decode mPla_afterMove.2.2.1 31 = .ok (.ireturn, 1) := by decide +kernel
theorem cPla_afterMove {sg : zSig} {x l p q r : Int32}  : zG mPla_afterMove 411 (fun rr h' => rr = some (.int (pMv x l p q r)) ∧ h' = zN sg) 0 [(0, .int x), (1, .int l), (2, .int p), (3, .int q), (4, .int r)] [] (zN sg) := by
  refine zb_icge (tgt := 22) bkPla_afterMove_0 bdPla_afterMove_2 (by decide) (lv' := [(0, .int x), (1, .int l), (2, .int p), (3, .int q), (4, .int r)]) (st' := []) (h' := zN sg) (x := p) (y := x) (Ps := []) rfl trivial (fun c1 => ?_) (fun c1 => ?_)
  · skip
    refine zG_run bkPla_afterMove_22 (lv' := [(0, .int x), (1, .int l), (2, .int p), (3, .int q), (4, .int r)]) (st' := [.int r, .int q, .int p, .int l, .int x]) (h' := zN sg) (Ps := []) rfl trivial ?_
    refine zG_calls (As := [.int x, .int l, .int p, .int q, .int r]) (rest := []) (N2 := 411) bdPla_afterMove_28 okPla_leftByMove lk11_26 (And.intro (by decide) (by decide)) rfl rfl (Nat.le_of_ble_eq_true rfl) (Nat.le_of_ble_eq_true rfl) (Nat.le_refl 411) (Nat.le_refl 411) cPla_leftByMove ?_
    rintro rr h' ⟨rfl, rfl⟩ -
    refine zb_iret bkPla_afterMove_31 bdPla_afterMove_31 rfl (x := pLb x l p q r) (h' := zN sg) (Ps := []) rfl trivial rfl ?_
    exact ⟨by grind [pMv], rfl⟩
  · skip
    refine zb_icge (tgt := 22) bkPla_afterMove_5 bdPla_afterMove_7 (by decide) (lv' := [(0, .int x), (1, .int l), (2, .int p), (3, .int q), (4, .int r)]) (st' := []) (h' := zN sg) (x := x) (y := q) (Ps := []) rfl trivial (fun c2 => ?_) (fun c2 => ?_)
    · skip
      refine zG_run bkPla_afterMove_22 (lv' := [(0, .int x), (1, .int l), (2, .int p), (3, .int q), (4, .int r)]) (st' := [.int r, .int q, .int p, .int l, .int x]) (h' := zN sg) (Ps := []) rfl trivial ?_
      refine zG_calls (As := [.int x, .int l, .int p, .int q, .int r]) (rest := []) (N2 := 411) bdPla_afterMove_28 okPla_leftByMove lk11_26 (And.intro (by decide) (by decide)) rfl rfl (Nat.le_of_ble_eq_true rfl) (Nat.le_of_ble_eq_true rfl) (Nat.le_refl 411) (Nat.le_refl 411) cPla_leftByMove ?_
      rintro rr h' ⟨rfl, rfl⟩ -
      refine zb_iret bkPla_afterMove_31 bdPla_afterMove_31 rfl (x := pLb x l p q r) (h' := zN sg) (Ps := []) rfl trivial rfl ?_
      exact ⟨by grind [pMv], rfl⟩
    · skip
      refine zG_run bkPla_afterMove_10 (lv' := [(0, .int x), (1, .int l), (2, .int p), (3, .int q), (4, .int r)]) (st' := [.int r, .int q, .int p, .int x]) (h' := zN sg) (Ps := []) rfl trivial ?_
      refine zG_calls (As := [.int p, .int q, .int r]) (rest := [.int x]) (N2 := 411) bdPla_afterMove_15 okPla_landing lk11_19 (And.intro (by decide) (by decide)) rfl rfl (Nat.le_of_ble_eq_true rfl) (Nat.le_of_ble_eq_true rfl) (Nat.le_refl 411) (Nat.le_refl 411) cPla_landing ?_
      rintro rr h' ⟨rfl, rfl⟩ -
      refine zb_iret bkPla_afterMove_18 bdPla_afterMove_21 rfl (x := (x + (pLd p q r)) - p) (h' := zN sg) (Ps := []) rfl trivial rfl ?_
      exact ⟨by grind [pMv], rfl⟩
theorem bkPla_afterSwap_0 : zBk mPla_afterSwap 0 [(1, 0, 0, 0, 0), (1, 1, 0, 0, 0), (1, 2, 0, 0, 0), (0, 0, 0, 0, 1), (4, 0, 0, 0, 0), (1, 4, 0, 0, 0)] = some 7 := by decide +kernel
theorem bkPla_afterSwap_10 : zBk mPla_afterSwap 10 [(2, 5, 0, 0, 0), (1, 5, 0, 0, 0), (1, 2, 0, 0, 0), (1, 2, 0, 0, 0), (0, 0, 0, 0, 1), (4, 0, 0, 0, 0)] = some 18 := by decide +kernel
theorem bkPla_afterSwap_21 : zBk mPla_afterSwap 21 [(2, 6, 0, 0, 0), (1, 6, 0, 0, 0), (1, 2, 0, 0, 0), (1, 4, 0, 0, 0), (4, 0, 0, 0, 0), (1, 3, 0, 0, 0), (0, 0, 0, 0, 1), (4, 1, 0, 0, 0), (1, 4, 0, 0, 0), (4, 0, 0, 0, 0)] = some 35 := by decide +kernel
theorem bkPla_afterSwap_38 : zBk mPla_afterSwap 38 [] = some 38 := by decide +kernel
theorem bdPla_afterSwap_7 : decode mPla_afterSwap.2.2.1 7 = .ok (.invokestatic 22, 3) := by decide +kernel
theorem bdPla_afterSwap_18 : decode mPla_afterSwap.2.2.1 18 = .ok (.invokestatic 13, 3) := by decide +kernel
theorem bdPla_afterSwap_35 : decode mPla_afterSwap.2.2.1 35 = .ok (.invokestatic 13, 3) := by decide +kernel
theorem bdPla_afterSwap_38 : decode mPla_afterSwap.2.2.1 38 = .ok (.ireturn, 1) := by decide +kernel
theorem cPla_afterSwap {sg : zSig} {x l f t c : Int32}  : zG mPla_afterSwap 411 (fun rr h' => rr = some (.int (pSw x l f t c)) ∧ h' = zN sg) 0 [(0, .int x), (1, .int l), (2, .int f), (3, .int t), (4, .int c)] [] (zN sg) := by
  refine zG_run bkPla_afterSwap_0 (lv' := [(0, .int x), (1, .int l), (2, .int f), (3, .int t), (4, .int c)]) (st' := [.int c, .int (f + 1), .int l, .int x]) (h' := zN sg) (Ps := []) rfl trivial ?_
  refine zG_calls (As := [.int x, .int l, .int (f + 1), .int c]) (rest := []) (N2 := 411) bdPla_afterSwap_7 okPla_afterComing lk11_22 (And.intro (by decide) (by decide)) rfl rfl (Nat.le_of_ble_eq_true rfl) (Nat.le_of_ble_eq_true rfl) (Nat.le_refl 411) (Nat.le_refl 411) cPla_afterComing ?_
  rintro rr h' ⟨rfl, rfl⟩ -
  refine zG_run bkPla_afterSwap_10 (lv' := [(5, .int (pOn x l (f + 1) c)), (0, .int x), (1, .int l), (2, .int f), (3, .int t), (4, .int c)]) (st' := [.int (f + 1), .int f, .int (pOn x l (f + 1) c)]) (h' := zN sg) (Ps := []) rfl trivial ?_
  refine zG_calls (As := [.int (pOn x l (f + 1) c), .int f, .int (f + 1)]) (rest := []) (N2 := 411) bdPla_afterSwap_18 okPla_afterGoing lk11_13 (And.intro (by decide) (by decide)) rfl rfl (Nat.le_of_ble_eq_true rfl) (Nat.le_of_ble_eq_true rfl) (Nat.le_refl 411) (Nat.le_refl 411) cPla_afterGoing ?_
  rintro rr h' ⟨rfl, rfl⟩ -
  refine zG_run bkPla_afterSwap_21 (lv' := [(6, .int (pBk (pOn x l (f + 1) c) f (f + 1))), (5, .int (pOn x l (f + 1) c)), (0, .int x), (1, .int l), (2, .int f), (3, .int t), (4, .int c)]) (st' := [.int ((t - 1) + c), .int (f + c), .int (pBk (pOn x l (f + 1) c) f (f + 1))]) (h' := zN sg) (Ps := []) rfl trivial ?_
  refine zG_calls (As := [.int (pBk (pOn x l (f + 1) c) f (f + 1)), .int (f + c), .int ((t - 1) + c)]) (rest := []) (N2 := 411) bdPla_afterSwap_35 okPla_afterGoing lk11_13 (And.intro (by decide) (by decide)) rfl rfl (Nat.le_of_ble_eq_true rfl) (Nat.le_of_ble_eq_true rfl) (Nat.le_refl 411) (Nat.le_refl 411) cPla_afterGoing ?_
  rintro rr h' ⟨rfl, rfl⟩ -
  refine zb_iret bkPla_afterSwap_38 bdPla_afterSwap_38 rfl (x := pBk (pBk (pOn x l (f + 1) c) f (f + 1)) (f + c) ((t - 1) + c)) (h' := zN sg) (Ps := []) rfl trivial rfl ?_
  exact ⟨by grind [pSw], rfl⟩
theorem bkShe_hasLetter_0 : zBk mShe_hasLetter 0 [(1, 1, 0, 0, 0)] = some 1 := by decide +kernel
theorem bkShe_hasLetter_16 : zBk mShe_hasLetter 16 [(0, 0, 0, 0, 0)] = some 17 := by decide +kernel
theorem bkShe_hasLetter_4 : zBk mShe_hasLetter 4 [(1, 1, 0, 0, 0), (1, 0, 1, 0, 0), (5, 5, 2, 0, 2)] = some 9 := by decide +kernel
theorem bkShe_hasLetter_12 : zBk mShe_hasLetter 12 [(0, 0, 0, 0, 1), (22, 17, 0, 0, 0)] = some 17 := by decide +kernel
theorem bdShe_hasLetter_1 : decode mShe_hasLetter.2.2.1 1 = .ok (.ifCond .lt 15, 3) := by decide +kernel
theorem bdShe_hasLetter_9 : decode mShe_hasLetter.2.2.1 9 = .ok (.if_icmp .ge 7, 3) := by decide +kernel
theorem bdShe_hasLetter_17 : decode mShe_hasLetter.2.2.1 17 = .ok (.ireturn, 1) := by decide +kernel
theorem cShe_hasLetter {sg : zSig} {i : Int32}  : zG mShe_hasLetter 411 (fun rr h' => rr = some (.int (if 0 ≤ i ∧ i < sg 1 2 then 1 else 0)) ∧ h' = zN sg) 0 [(0, .ref 1), (1, .int i)] [] (zN sg) := by
  refine zb_iflt (tgt := 16) bkShe_hasLetter_0 bdShe_hasLetter_1 (by decide) (lv' := [(0, .ref 1), (1, .int i)]) (st' := []) (h' := zN sg) (x := i) (Ps := []) rfl trivial (fun c1 => ?_) (fun c1 => ?_)
  · skip
    refine zb_zret bkShe_hasLetter_16 bdShe_hasLetter_17 rfl (x := 0) (h' := zN sg) (Ps := []) rfl trivial rfl (Or.inl rfl) ?_
    exact ⟨by grind, rfl⟩
  · skip
    refine zb_icge (tgt := 16) bkShe_hasLetter_4 bdShe_hasLetter_9 (by decide) (lv' := [(0, .ref 1), (1, .int i)]) (st' := []) (h' := zN sg) (x := i) (y := sg 1 2) (Ps := [zOb (zN sg) 1 5]) rfl (zA zob_1 trivial) (fun c2 => ?_) (fun c2 => ?_)
    · skip
      refine zb_zret bkShe_hasLetter_16 bdShe_hasLetter_17 rfl (x := 0) (h' := zN sg) (Ps := []) rfl trivial rfl (Or.inl rfl) ?_
      exact ⟨by grind, rfl⟩
    · skip
      refine zb_zret bkShe_hasLetter_12 bdShe_hasLetter_17 rfl (x := 1) (h' := zN sg) (Ps := []) rfl trivial rfl (Or.inr rfl) ?_
      exact ⟨by grind, rfl⟩
theorem bkShe_isRange_0 : zBk mShe_isRange 0 [(1, 1, 0, 0, 0)] = some 1 := by decide +kernel
theorem bkShe_isRange_21 : zBk mShe_isRange 21 [(0, 0, 0, 0, 0)] = some 22 := by decide +kernel
theorem bkShe_isRange_4 : zBk mShe_isRange 4 [(1, 1, 0, 0, 0), (1, 2, 0, 0, 0)] = some 6 := by decide +kernel
theorem bkShe_isRange_9 : zBk mShe_isRange 9 [(1, 2, 0, 0, 0), (1, 0, 1, 0, 0), (5, 5, 2, 0, 2)] = some 14 := by decide +kernel
theorem bkShe_isRange_17 : zBk mShe_isRange 17 [(0, 0, 0, 0, 1), (22, 22, 0, 0, 0)] = some 22 := by decide +kernel
theorem bdShe_isRange_1 : decode mShe_isRange.2.2.1 1 = .ok (.ifCond .lt 20, 3) := by decide +kernel
theorem bdShe_isRange_6 : decode mShe_isRange.2.2.1 6 = .ok (.if_icmp .ge 15, 3) := by decide +kernel
theorem bdShe_isRange_14 : decode mShe_isRange.2.2.1 14 = .ok (.if_icmp .gt 7, 3) := by decide +kernel
theorem bdShe_isRange_22 : decode mShe_isRange.2.2.1 22 = .ok (.ireturn, 1) := by decide +kernel
theorem cShe_isRange {sg : zSig} {f t : Int32}  : zG mShe_isRange 411 (fun rr h' => rr = some (.int (if 0 ≤ f ∧ f < t ∧ t ≤ sg 1 2 then 1 else 0)) ∧ h' = zN sg) 0 [(0, .ref 1), (1, .int f), (2, .int t)] [] (zN sg) := by
  refine zb_iflt (tgt := 21) bkShe_isRange_0 bdShe_isRange_1 (by decide) (lv' := [(0, .ref 1), (1, .int f), (2, .int t)]) (st' := []) (h' := zN sg) (x := f) (Ps := []) rfl trivial (fun c1 => ?_) (fun c1 => ?_)
  · skip
    refine zb_zret bkShe_isRange_21 bdShe_isRange_22 rfl (x := 0) (h' := zN sg) (Ps := []) rfl trivial rfl (Or.inl rfl) ?_
    exact ⟨by grind, rfl⟩
  · skip
    refine zb_icge (tgt := 21) bkShe_isRange_4 bdShe_isRange_6 (by decide) (lv' := [(0, .ref 1), (1, .int f), (2, .int t)]) (st' := []) (h' := zN sg) (x := f) (y := t) (Ps := []) rfl trivial (fun c2 => ?_) (fun c2 => ?_)
    · skip
      refine zb_zret bkShe_isRange_21 bdShe_isRange_22 rfl (x := 0) (h' := zN sg) (Ps := []) rfl trivial rfl (Or.inl rfl) ?_
      exact ⟨by grind, rfl⟩
    · skip
      refine zb_icgt (tgt := 21) bkShe_isRange_9 bdShe_isRange_14 (by decide) (lv' := [(0, .ref 1), (1, .int f), (2, .int t)]) (st' := []) (h' := zN sg) (x := t) (y := sg 1 2) (Ps := [zOb (zN sg) 1 5]) rfl (zA zob_1 trivial) (fun c3 => ?_) (fun c3 => ?_)
      · skip
        refine zb_zret bkShe_isRange_21 bdShe_isRange_22 rfl (x := 0) (h' := zN sg) (Ps := []) rfl trivial rfl (Or.inl rfl) ?_
        exact ⟨by grind, rfl⟩
      · skip
        refine zb_zret bkShe_isRange_17 bdShe_isRange_22 rfl (x := 1) (h' := zN sg) (Ps := []) rfl trivial rfl (Or.inr rfl) ?_
        exact ⟨by grind, rfl⟩
theorem bkShe_hasPlace_0 : zBk mShe_hasPlace 0 [(1, 1, 0, 0, 0)] = some 1 := by decide +kernel
theorem bkShe_hasPlace_16 : zBk mShe_hasPlace 16 [(0, 0, 0, 0, 0)] = some 17 := by decide +kernel
theorem bkShe_hasPlace_4 : zBk mShe_hasPlace 4 [(1, 1, 0, 0, 0), (1, 0, 1, 0, 0), (5, 5, 2, 0, 2)] = some 9 := by decide +kernel
theorem bkShe_hasPlace_12 : zBk mShe_hasPlace 12 [(0, 0, 0, 0, 1), (22, 17, 0, 0, 0)] = some 17 := by decide +kernel
theorem bdShe_hasPlace_1 : decode mShe_hasPlace.2.2.1 1 = .ok (.ifCond .lt 15, 3) := by decide +kernel
theorem bdShe_hasPlace_9 : decode mShe_hasPlace.2.2.1 9 = .ok (.if_icmp .gt 7, 3) := by decide +kernel
theorem bdShe_hasPlace_17 : decode mShe_hasPlace.2.2.1 17 = .ok (.ireturn, 1) := by decide +kernel
theorem cShe_hasPlace {sg : zSig} {a : Nat} {i : Int32} (ha : zOb (zN sg) a 5)  : zG mShe_hasPlace 411 (fun rr h' => rr = some (.int (if 0 ≤ i ∧ i ≤ sg a 2 then 1 else 0)) ∧ h' = zN sg) 0 [(0, .ref a), (1, .int i)] [] (zN sg) := by
  refine zb_iflt (tgt := 16) bkShe_hasPlace_0 bdShe_hasPlace_1 (by decide) (lv' := [(0, .ref a), (1, .int i)]) (st' := []) (h' := zN sg) (x := i) (Ps := []) rfl trivial (fun c1 => ?_) (fun c1 => ?_)
  · skip
    refine zb_zret bkShe_hasPlace_16 bdShe_hasPlace_17 rfl (x := 0) (h' := zN sg) (Ps := []) rfl trivial rfl (Or.inl rfl) ?_
    exact ⟨by grind, rfl⟩
  · skip
    refine zb_icgt (tgt := 16) bkShe_hasPlace_4 bdShe_hasPlace_9 (by decide) (lv' := [(0, .ref a), (1, .int i)]) (st' := []) (h' := zN sg) (x := i) (y := sg a 2) (Ps := [zOb (zN sg) a 5]) rfl (zA ha trivial) (fun c2 => ?_) (fun c2 => ?_)
    · skip
      refine zb_zret bkShe_hasPlace_16 bdShe_hasPlace_17 rfl (x := 0) (h' := zN sg) (Ps := []) rfl trivial rfl (Or.inl rfl) ?_
      exact ⟨by grind, rfl⟩
    · skip
      refine zb_zret bkShe_hasPlace_12 bdShe_hasPlace_17 rfl (x := 1) (h' := zN sg) (Ps := []) rfl trivial rfl (Or.inr rfl) ?_
      exact ⟨by grind, rfl⟩
theorem bkSpa_liesOver_0 : zBk mSpa_liesOver 0 [(1, 0, 1, 0, 0), (5, 6, 0, 0, 0)] = some 4 := by decide +kernel
theorem bkSpa_liesOver_27 : zBk mSpa_liesOver 27 [(0, 0, 0, 0, 0)] = some 28 := by decide +kernel
theorem bkSpa_liesOver_7 : zBk mSpa_liesOver 7 [(1, 0, 1, 0, 0), (5, 6, 1, 0, 1), (1, 1, 0, 0, 0)] = some 12 := by decide +kernel
theorem bkSpa_liesOver_15 : zBk mSpa_liesOver 15 [(1, 1, 0, 0, 0), (1, 0, 1, 0, 0), (5, 6, 2, 0, 2)] = some 20 := by decide +kernel
theorem bkSpa_liesOver_23 : zBk mSpa_liesOver 23 [(0, 0, 0, 0, 1), (22, 28, 0, 0, 0)] = some 28 := by decide +kernel
theorem bdSpa_liesOver_4 : decode mSpa_liesOver.2.2.1 4 = .ok (.ifCond .eq 23, 3) := by decide +kernel
theorem bdSpa_liesOver_12 : decode mSpa_liesOver.2.2.1 12 = .ok (.if_icmp .gt 15, 3) := by decide +kernel
theorem bdSpa_liesOver_20 : decode mSpa_liesOver.2.2.1 20 = .ok (.if_icmp .ge 7, 3) := by decide +kernel
theorem bdSpa_liesOver_28 : decode mSpa_liesOver.2.2.1 28 = .ok (.ireturn, 1) := by decide +kernel
theorem cSpa_liesOver {sg : zSig} {a : Nat} {i : Int32} (ha : zOb (zN sg) a 6)  : zG mSpa_liesOver 411 (fun rr h' => rr = some (.int (if sg a 0 ≠ 0 ∧ sg a 1 ≤ i ∧ i < sg a 2 then 1 else 0)) ∧ h' = zN sg) 0 [(0, .ref a), (1, .int i)] [] (zN sg) := by
  refine zb_ifeq (tgt := 27) bkSpa_liesOver_0 bdSpa_liesOver_4 (by decide) (lv' := [(0, .ref a), (1, .int i)]) (st' := []) (h' := zN sg) (x := sg a 0) (Ps := [zOb (zN sg) a 6]) rfl (zA ha trivial) (fun c1 => ?_) (fun c1 => ?_)
  · skip
    refine zb_zret bkSpa_liesOver_27 bdSpa_liesOver_28 rfl (x := 0) (h' := zN sg) (Ps := []) rfl trivial rfl (Or.inl rfl) ?_
    exact ⟨by grind, rfl⟩
  · skip
    refine zb_icgt (tgt := 27) bkSpa_liesOver_7 bdSpa_liesOver_12 (by decide) (lv' := [(0, .ref a), (1, .int i)]) (st' := []) (h' := zN sg) (x := sg a 1) (y := i) (Ps := [zOb (zN sg) a 6]) rfl (zA ha trivial) (fun c2 => ?_) (fun c2 => ?_)
    · skip
      refine zb_zret bkSpa_liesOver_27 bdSpa_liesOver_28 rfl (x := 0) (h' := zN sg) (Ps := []) rfl trivial rfl (Or.inl rfl) ?_
      exact ⟨by grind, rfl⟩
    · skip
      refine zb_icge (tgt := 27) bkSpa_liesOver_15 bdSpa_liesOver_20 (by decide) (lv' := [(0, .ref a), (1, .int i)]) (st' := []) (h' := zN sg) (x := i) (y := sg a 2) (Ps := [zOb (zN sg) a 6]) rfl (zA ha trivial) (fun c3 => ?_) (fun c3 => ?_)
      · skip
        refine zb_zret bkSpa_liesOver_27 bdSpa_liesOver_28 rfl (x := 0) (h' := zN sg) (Ps := []) rfl trivial rfl (Or.inl rfl) ?_
        exact ⟨by grind, rfl⟩
      · skip
        refine zb_zret bkSpa_liesOver_23 bdSpa_liesOver_28 rfl (x := 1) (h' := zN sg) (Ps := []) rfl trivial rfl (Or.inr rfl) ?_
        exact ⟨by grind, rfl⟩
theorem bkSpa_speaksOf_0 : zBk mSpa_speaksOf 0 [(1, 1, 0, 0, 0)] = some 1 := by decide +kernel
theorem bkSpa_speaksOf_18 : zBk mSpa_speaksOf 18 [(1, 1, 0, 0, 0), (0, 0, 0, 0, 1)] = some 20 := by decide +kernel
theorem bkSpa_speaksOf_36 : zBk mSpa_speaksOf 36 [(1, 1, 0, 0, 0), (0, 0, 0, 0, 2)] = some 38 := by decide +kernel
theorem bkSpa_speaksOf_69 : zBk mSpa_speaksOf 69 [(0, 0, 0, 0, 0)] = some 70 := by decide +kernel
theorem bkSpa_speaksOf_41 : zBk mSpa_speaksOf 41 [(1, 1, 0, 0, 0), (0, 0, 0, 0, 5)] = some 43 := by decide +kernel
theorem bkSpa_speaksOf_46 : zBk mSpa_speaksOf 46 [(1, 0, 1, 0, 0), (5, 6, 4, 0, 4), (1, 0, 1, 0, 0), (5, 6, 5, 0, 5), (4, 4, 0, 0, 0), (1, 1, 0, 0, 0), (0, 0, 0, 0, 2), (4, 1, 0, 0, 0), (4, 7, 0, 0, 0), (0, 0, 0, 0, 1), (4, 3, 0, 0, 0), (0, 0, 0, 0, 1)] = some 62 := by decide +kernel
theorem bkSpa_speaksOf_65 : zBk mSpa_speaksOf 65 [(0, 0, 0, 0, 1), (22, 70, 0, 0, 0)] = some 70 := by decide +kernel
theorem bkSpa_speaksOf_23 : zBk mSpa_speaksOf 23 [(1, 0, 1, 0, 0), (5, 6, 7, 0, 7)] = some 27 := by decide +kernel
theorem bkSpa_speaksOf_34 : zBk mSpa_speaksOf 34 [(0, 0, 0, 0, 0)] = some 35 := by decide +kernel
theorem bkSpa_speaksOf_30 : zBk mSpa_speaksOf 30 [(0, 0, 0, 0, 1), (22, 35, 0, 0, 0)] = some 35 := by decide +kernel
theorem bkSpa_speaksOf_4 : zBk mSpa_speaksOf 4 [(1, 0, 1, 0, 0), (5, 6, 6, 0, 6), (0, 0, 0, 0, -1)] = some 9 := by decide +kernel
theorem bkSpa_speaksOf_16 : zBk mSpa_speaksOf 16 [(0, 0, 0, 0, 0)] = some 17 := by decide +kernel
theorem bkSpa_speaksOf_12 : zBk mSpa_speaksOf 12 [(0, 0, 0, 0, 1), (22, 17, 0, 0, 0)] = some 17 := by decide +kernel
theorem bdSpa_speaksOf_1 : decode mSpa_speaksOf.2.2.1 1 = .ok (.ifCond .ne 17, 3) := by decide +kernel
theorem bdSpa_speaksOf_9 : decode mSpa_speaksOf.2.2.1 9 = .ok (.if_icmp .eq 7, 3) := by decide +kernel
theorem bdSpa_speaksOf_17 : decode mSpa_speaksOf.2.2.1 17 = .ok (.ireturn, 1) := by decide +kernel
theorem bdSpa_speaksOf_20 : decode mSpa_speaksOf.2.2.1 20 = .ok (.if_icmp .ne 16, 3) := by decide +kernel
theorem bdSpa_speaksOf_27 : decode mSpa_speaksOf.2.2.1 27 = .ok (.ifCond .eq 7, 3) := by decide +kernel
theorem bdSpa_speaksOf_35 : decode mSpa_speaksOf.2.2.1 35 = .ok (.ireturn, 1) := by decide +kernel
theorem bdSpa_speaksOf_38 : decode mSpa_speaksOf.2.2.1 38 = .ok (.if_icmp .lt 31, 3) := by decide +kernel
theorem bdSpa_speaksOf_43 : decode mSpa_speaksOf.2.2.1 43 = .ok (.if_icmp .gt 26, 3) := by decide +kernel
theorem bdSpa_speaksOf_62 : decode mSpa_speaksOf.2.2.1 62 = .ok (.if_icmp .ne 7, 3) := by decide +kernel
theorem bdSpa_speaksOf_70 : decode mSpa_speaksOf.2.2.1 70 = .ok (.ireturn, 1) := by decide +kernel
theorem cSpa_speaksOf {sg : zSig} {a : Nat} {w : Int32} (ha : zOb (zN sg) a 6)  : zG mSpa_speaksOf 411 (fun rr h' => rr = some (.int (if w = 0 then (if sg a 6 = -1 then 0 else 1) else if w = 1 then (if sg a 7 = 0 then 0 else 1) else if 2 ≤ w ∧ w ≤ 5 ∧ ((sg a 4 ||| sg a 5) >>> ((w - 2) &&& 31)) &&& 1 = 1 then 1 else 0)) ∧ h' = zN sg) 0 [(0, .ref a), (1, .int w)] [] (zN sg) := by
  refine zb_ifne (tgt := 18) bkSpa_speaksOf_0 bdSpa_speaksOf_1 (by decide) (lv' := [(0, .ref a), (1, .int w)]) (st' := []) (h' := zN sg) (x := w) (Ps := []) rfl trivial (fun c1 => ?_) (fun c1 => ?_)
  · skip
    refine zb_icne (tgt := 36) bkSpa_speaksOf_18 bdSpa_speaksOf_20 (by decide) (lv' := [(0, .ref a), (1, .int w)]) (st' := []) (h' := zN sg) (x := w) (y := 1) (Ps := []) rfl trivial (fun c2 => ?_) (fun c2 => ?_)
    · skip
      refine zb_iclt (tgt := 69) bkSpa_speaksOf_36 bdSpa_speaksOf_38 (by decide) (lv' := [(0, .ref a), (1, .int w)]) (st' := []) (h' := zN sg) (x := w) (y := 2) (Ps := []) rfl trivial (fun c3 => ?_) (fun c3 => ?_)
      · skip
        refine zb_zret bkSpa_speaksOf_69 bdSpa_speaksOf_70 rfl (x := 0) (h' := zN sg) (Ps := []) rfl trivial rfl (Or.inl rfl) ?_
        exact ⟨by grind, rfl⟩
      · skip
        refine zb_icgt (tgt := 69) bkSpa_speaksOf_41 bdSpa_speaksOf_43 (by decide) (lv' := [(0, .ref a), (1, .int w)]) (st' := []) (h' := zN sg) (x := w) (y := 5) (Ps := []) rfl trivial (fun c4 => ?_) (fun c4 => ?_)
        · skip
          refine zb_zret bkSpa_speaksOf_69 bdSpa_speaksOf_70 rfl (x := 0) (h' := zN sg) (Ps := []) rfl trivial rfl (Or.inl rfl) ?_
          exact ⟨by grind, rfl⟩
        · skip
          refine zb_icne (tgt := 69) bkSpa_speaksOf_46 bdSpa_speaksOf_62 (by decide) (lv' := [(0, .ref a), (1, .int w)]) (st' := []) (h' := zN sg) (x := (((sg a 4) ||| (sg a 5)) >>> ((w - 2) &&& 31)) &&& 1) (y := 1) (Ps := [zOb (zN sg) a 6, zOb (zN sg) a 6]) rfl (zA ha (zA ha trivial)) (fun c5 => ?_) (fun c5 => ?_)
          · skip
            refine zb_zret bkSpa_speaksOf_69 bdSpa_speaksOf_70 rfl (x := 0) (h' := zN sg) (Ps := []) rfl trivial rfl (Or.inl rfl) ?_
            exact ⟨by grind, rfl⟩
          · skip
            refine zb_zret bkSpa_speaksOf_65 bdSpa_speaksOf_70 rfl (x := 1) (h' := zN sg) (Ps := []) rfl trivial rfl (Or.inr rfl) ?_
            exact ⟨by grind, rfl⟩
    · skip
      refine zb_ifeq (tgt := 34) bkSpa_speaksOf_23 bdSpa_speaksOf_27 (by decide) (lv' := [(0, .ref a), (1, .int w)]) (st' := []) (h' := zN sg) (x := sg a 7) (Ps := [zOb (zN sg) a 6]) rfl (zA ha trivial) (fun c6 => ?_) (fun c6 => ?_)
      · skip
        refine zb_zret bkSpa_speaksOf_34 bdSpa_speaksOf_35 rfl (x := 0) (h' := zN sg) (Ps := []) rfl trivial rfl (Or.inl rfl) ?_
        exact ⟨by grind, rfl⟩
      · skip
        refine zb_zret bkSpa_speaksOf_30 bdSpa_speaksOf_35 rfl (x := 1) (h' := zN sg) (Ps := []) rfl trivial rfl (Or.inr rfl) ?_
        exact ⟨by grind, rfl⟩
  · skip
    refine zb_iceq (tgt := 16) bkSpa_speaksOf_4 bdSpa_speaksOf_9 (by decide) (lv' := [(0, .ref a), (1, .int w)]) (st' := []) (h' := zN sg) (x := sg a 6) (y := (-1)) (Ps := [zOb (zN sg) a 6]) rfl (zA ha trivial) (fun c7 => ?_) (fun c7 => ?_)
    · skip
      refine zb_zret bkSpa_speaksOf_16 bdSpa_speaksOf_17 rfl (x := 0) (h' := zN sg) (Ps := []) rfl trivial rfl (Or.inl rfl) ?_
      exact ⟨by grind, rfl⟩
    · skip
      refine zb_zret bkSpa_speaksOf_12 bdSpa_speaksOf_17 rfl (x := 1) (h' := zN sg) (Ps := []) rfl trivial rfl (Or.inr rfl) ?_
      exact ⟨by grind, rfl⟩
theorem bkSpa_covers_0 : zBk mSpa_covers 0 [(1, 0, 1, 0, 0), (5, 6, 1, 0, 1), (1, 1, 1, 0, 0), (5, 6, 1, 0, 1)] = some 8 := by decide +kernel
theorem bkSpa_covers_26 : zBk mSpa_covers 26 [(0, 0, 0, 0, 0)] = some 27 := by decide +kernel
theorem bkSpa_covers_11 : zBk mSpa_covers 11 [(1, 1, 1, 0, 0), (5, 6, 2, 0, 2), (1, 0, 1, 0, 0), (5, 6, 2, 0, 2)] = some 19 := by decide +kernel
theorem bkSpa_covers_22 : zBk mSpa_covers 22 [(0, 0, 0, 0, 1), (22, 27, 0, 0, 0)] = some 27 := by decide +kernel
theorem bdSpa_covers_8 : decode mSpa_covers.2.2.1 8 = .ok (.if_icmp .gt 18, 3) := by decide +kernel
theorem bdSpa_covers_19 : decode mSpa_covers.2.2.1 19 = .ok (.if_icmp .gt 7, 3) := by decide +kernel
theorem bdSpa_covers_27 : decode mSpa_covers.2.2.1 27 = .ok (.ireturn, 1) := by decide +kernel
theorem cSpa_covers {sg : zSig} {a b : Nat} (ha : zOb (zN sg) a 6) (hb : zOb (zN sg) b 6)  : zG mSpa_covers 411 (fun rr h' => rr = some (.int (if sg a 1 ≤ sg b 1 ∧ sg b 2 ≤ sg a 2 then 1 else 0)) ∧ h' = zN sg) 0 [(0, .ref a), (1, .ref b)] [] (zN sg) := by
  refine zb_icgt (tgt := 26) bkSpa_covers_0 bdSpa_covers_8 (by decide) (lv' := [(0, .ref a), (1, .ref b)]) (st' := []) (h' := zN sg) (x := sg a 1) (y := sg b 1) (Ps := [zOb (zN sg) a 6, zOb (zN sg) b 6]) rfl (zA ha (zA hb trivial)) (fun c1 => ?_) (fun c1 => ?_)
  · skip
    refine zb_zret bkSpa_covers_26 bdSpa_covers_27 rfl (x := 0) (h' := zN sg) (Ps := []) rfl trivial rfl (Or.inl rfl) ?_
    exact ⟨by grind, rfl⟩
  · skip
    refine zb_icgt (tgt := 26) bkSpa_covers_11 bdSpa_covers_19 (by decide) (lv' := [(0, .ref a), (1, .ref b)]) (st' := []) (h' := zN sg) (x := sg b 2) (y := sg a 2) (Ps := [zOb (zN sg) b 6, zOb (zN sg) a 6]) rfl (zA hb (zA ha trivial)) (fun c2 => ?_) (fun c2 => ?_)
    · skip
      refine zb_zret bkSpa_covers_26 bdSpa_covers_27 rfl (x := 0) (h' := zN sg) (Ps := []) rfl trivial rfl (Or.inl rfl) ?_
      exact ⟨by grind, rfl⟩
    · skip
      refine zb_zret bkSpa_covers_22 bdSpa_covers_27 rfl (x := 1) (h' := zN sg) (Ps := []) rfl trivial rfl (Or.inr rfl) ?_
      exact ⟨by grind, rfl⟩
theorem bkSpa_crosses_0 : zBk mSpa_crosses 0 [(1, 0, 1, 0, 0), (5, 6, 1, 0, 1), (1, 1, 1, 0, 0), (5, 6, 2, 0, 2)] = some 8 := by decide +kernel
theorem bkSpa_crosses_26 : zBk mSpa_crosses 26 [(0, 0, 0, 0, 0), (2, 2, 0, 0, 0), (1, 2, 0, 0, 0)] = some 29 := by decide +kernel
theorem bkSpa_crosses_52 : zBk mSpa_crosses 52 [(0, 0, 0, 0, 0)] = some 53 := by decide +kernel
theorem bkSpa_crosses_11 : zBk mSpa_crosses 11 [(1, 1, 1, 0, 0), (5, 6, 1, 0, 1), (1, 0, 1, 0, 0), (5, 6, 2, 0, 2)] = some 19 := by decide +kernel
theorem bkSpa_crosses_22 : zBk mSpa_crosses 22 [(0, 0, 0, 0, 1), (22, 27, 0, 0, 0), (2, 2, 0, 0, 0), (1, 2, 0, 0, 0)] = some 29 := by decide +kernel
theorem bkSpa_crosses_32 : zBk mSpa_crosses 32 [(1, 0, 1, 0, 0), (1, 1, 1, 0, 0)] = some 34 := by decide +kernel
theorem bkSpa_crosses_37 : zBk mSpa_crosses 37 [] = some 37 := by decide +kernel
theorem bkSpa_crosses_40 : zBk mSpa_crosses 40 [(1, 1, 1, 0, 0), (1, 0, 1, 0, 0)] = some 42 := by decide +kernel
theorem bkSpa_crosses_45 : zBk mSpa_crosses 45 [] = some 45 := by decide +kernel
theorem bkSpa_crosses_48 : zBk mSpa_crosses 48 [(0, 0, 0, 0, 1), (22, 53, 0, 0, 0)] = some 53 := by decide +kernel
theorem bdSpa_crosses_8 : decode mSpa_crosses.2.2.1 8 = .ok (.if_icmp .ge 18, 3) := by decide +kernel
theorem bdSpa_crosses_19 : decode mSpa_crosses.2.2.1 19 = .ok (.if_icmp .ge 7, 3) := by decide +kernel
theorem bdSpa_crosses_29 : decode mSpa_crosses.2.2.1 29 = .ok (.ifCond .eq 23, 3) := by decide +kernel
theorem bdSpa_crosses_34 : decode mSpa_crosses.2.2.1 34 = .ok (.invokevirtual 40, 3) := by decide +kernel
theorem bdSpa_crosses_37 : decode mSpa_crosses.2.2.1 37 = .ok (.ifCond .ne 15, 3) := by decide +kernel
theorem bdSpa_crosses_42 : decode mSpa_crosses.2.2.1 42 = .ok (.invokevirtual 40, 3) := by decide +kernel
theorem bdSpa_crosses_45 : decode mSpa_crosses.2.2.1 45 = .ok (.ifCond .ne 7, 3) := by decide +kernel
theorem bdSpa_crosses_53 : decode mSpa_crosses.2.2.1 53 = .ok (.ireturn, 1) := by decide +kernel
theorem cSpa_crosses {sg : zSig} {a b : Nat} (ha : zOb (zN sg) a 6) (hb : zOb (zN sg) b 6)  : zG mSpa_crosses 411 (fun rr h' => rr = some (.int (if (sg a 1 < sg b 2 ∧ sg b 1 < sg a 2) ∧ ¬ (sg a 1 ≤ sg b 1 ∧ sg b 2 ≤ sg a 2) ∧ ¬ (sg b 1 ≤ sg a 1 ∧ sg a 2 ≤ sg b 2) then 1 else 0)) ∧ h' = zN sg) 0 [(0, .ref a), (1, .ref b)] [] (zN sg) := by
  refine zb_icge (tgt := 26) bkSpa_crosses_0 bdSpa_crosses_8 (by decide) (lv' := [(0, .ref a), (1, .ref b)]) (st' := []) (h' := zN sg) (x := sg a 1) (y := sg b 2) (Ps := [zOb (zN sg) a 6, zOb (zN sg) b 6]) rfl (zA ha (zA hb trivial)) (fun c1 => ?_) (fun c1 => ?_)
  · skip
    refine zb_ifeq (tgt := 52) bkSpa_crosses_26 bdSpa_crosses_29 (by decide) (lv' := [(2, .int 0), (0, .ref a), (1, .ref b)]) (st' := []) (h' := zN sg) (x := 0) (Ps := []) rfl trivial (fun c2 => ?_) (fun c2 => ?_)
    · skip
      refine zb_zret bkSpa_crosses_52 bdSpa_crosses_53 rfl (x := 0) (h' := zN sg) (Ps := []) rfl trivial rfl (Or.inl rfl) ?_
      exact ⟨by grind, rfl⟩
    · exact absurd c2 (by decide)
  · skip
    refine zb_icge (tgt := 26) bkSpa_crosses_11 bdSpa_crosses_19 (by decide) (lv' := [(0, .ref a), (1, .ref b)]) (st' := []) (h' := zN sg) (x := sg b 1) (y := sg a 2) (Ps := [zOb (zN sg) b 6, zOb (zN sg) a 6]) rfl (zA hb (zA ha trivial)) (fun c3 => ?_) (fun c3 => ?_)
    · skip
      refine zb_ifeq (tgt := 52) bkSpa_crosses_26 bdSpa_crosses_29 (by decide) (lv' := [(2, .int 0), (0, .ref a), (1, .ref b)]) (st' := []) (h' := zN sg) (x := 0) (Ps := []) rfl trivial (fun c4 => ?_) (fun c4 => ?_)
      · skip
        refine zb_zret bkSpa_crosses_52 bdSpa_crosses_53 rfl (x := 0) (h' := zN sg) (Ps := []) rfl trivial rfl (Or.inl rfl) ?_
        exact ⟨by grind, rfl⟩
      · exact absurd c4 (by decide)
    · skip
      refine zb_ifeq (tgt := 52) bkSpa_crosses_22 bdSpa_crosses_29 (by decide) (lv' := [(2, .int 1), (0, .ref a), (1, .ref b)]) (st' := []) (h' := zN sg) (x := 1) (Ps := []) rfl trivial (fun c5 => ?_) (fun c5 => ?_)
      · exact absurd c5 (by decide)
      · skip
        refine zG_run bkSpa_crosses_32 (lv' := [(2, .int 1), (0, .ref a), (1, .ref b)]) (st' := [.ref b, .ref a]) (h' := zN sg) (Ps := []) rfl trivial ?_
        refine zG_callv (a := a) (c := 6) (As := [.ref b]) (rest := []) (N2 := 411) bdSpa_crosses_34 okSpa_covers lk6_40 (And.intro (by decide) (by decide)) (by decide) rfl rfl rfl (Nat.le_of_ble_eq_true rfl) (Nat.le_of_ble_eq_true rfl) (Nat.le_refl 411) (Nat.le_refl 411) ha (cSpa_covers ha hb) ?_
        rintro rr h' ⟨rfl, rfl⟩ -
        refine zb_ifne (tgt := 52) bkSpa_crosses_37 bdSpa_crosses_37 (by decide) (lv' := [(2, .int 1), (0, .ref a), (1, .ref b)]) (st' := []) (h' := zN sg) (x := if sg a 1 ≤ sg b 1 ∧ sg b 2 ≤ sg a 2 then 1 else 0) (Ps := []) rfl trivial (fun c6 => ?_) (fun c6 => ?_)
        · skip
          refine zb_zret bkSpa_crosses_52 bdSpa_crosses_53 rfl (x := 0) (h' := zN sg) (Ps := []) rfl trivial rfl (Or.inl rfl) ?_
          exact ⟨by grind, rfl⟩
        · skip
          refine zG_run bkSpa_crosses_40 (lv' := [(2, .int 1), (0, .ref a), (1, .ref b)]) (st' := [.ref a, .ref b]) (h' := zN sg) (Ps := []) rfl trivial ?_
          refine zG_callv (a := b) (c := 6) (As := [.ref a]) (rest := []) (N2 := 411) bdSpa_crosses_42 okSpa_covers lk6_40 (And.intro (by decide) (by decide)) (by decide) rfl rfl rfl (Nat.le_of_ble_eq_true rfl) (Nat.le_of_ble_eq_true rfl) (Nat.le_refl 411) (Nat.le_refl 411) hb (cSpa_covers hb ha) ?_
          rintro rr h' ⟨rfl, rfl⟩ -
          refine zb_ifne (tgt := 52) bkSpa_crosses_45 bdSpa_crosses_45 (by decide) (lv' := [(2, .int 1), (0, .ref a), (1, .ref b)]) (st' := []) (h' := zN sg) (x := if sg b 1 ≤ sg a 1 ∧ sg a 2 ≤ sg b 2 then 1 else 0) (Ps := []) rfl trivial (fun c7 => ?_) (fun c7 => ?_)
          · skip
            refine zb_zret bkSpa_crosses_52 bdSpa_crosses_53 rfl (x := 0) (h' := zN sg) (Ps := []) rfl trivial rfl (Or.inl rfl) ?_
            exact ⟨by grind, rfl⟩
          · skip
            refine zb_zret bkSpa_crosses_48 bdSpa_crosses_53 rfl (x := 1) (h' := zN sg) (Ps := []) rfl trivial rfl (Or.inr rfl) ?_
            exact ⟨by grind, rfl⟩
def hSpB (sg : zSig) (a b : Nat) : zSig := zup (zup (zup (zup (zup (zup (zup (zup (zup sg a 0 (sg b 0)) a 1 (sg b 1)) a 2 (sg b 2)) a 3 (sg b 3)) a 4 (sg b 4)) a 5 (sg b 5)) a 6 (sg b 6)) a 7 (sg b 7)) a 8 (sg b 8)
def hSpC (sg : zSig) (a : Nat) (p m : Int32) : zSig := zup (zup sg a 1 (pOn (sg a 1) (sg a 8 &&& 1) p m)) a 2 (pOn (sg a 2) (sg a 8 >>> (1 &&& 31)) p m)
def hSpG (sg : zSig) (a : Nat) (p q : Int32) : zSig := if pBk (sg a 2) p q ≤ pBk (sg a 1) p q then zup (zup (zup sg a 1 (pBk (sg a 1) p q)) a 2 (pBk (sg a 2) p q)) a 0 0 else zup (zup sg a 1 (pBk (sg a 1) p q)) a 2 (pBk (sg a 2) p q)
def hSpM (sg : zSig) (a : Nat) (p q r : Int32) : zSig := if p ≤ sg a 1 ∧ sg a 2 ≤ q then zup (zup sg a 1 (sg a 1 + (pLd p q r - p))) a 2 (sg a 2 + (pLd p q r - p)) else zup (zup sg a 1 (pLb (sg a 1) (sg a 8 &&& 1) p q r)) a 2 (pLb (sg a 2) (sg a 8 >>> (1 &&& 31)) p q r)
def hAnB (sg : zSig) (a b : Nat) : zSig := zup (zup (zup (zup sg a 0 (sg b 0)) a 1 (sg b 1)) a 2 (sg b 2)) a 3 (sg b 3)
def hAnG (sg : zSig) (a : Nat) (p q : Int32) : zSig := if p < sg a 1 ∧ sg a 1 < q then zup (zup sg a 3 (sg a 3 + 1)) a 1 (pBk (sg a 1) p q) else zup sg a 1 (pBk (sg a 1) p q)
def hAcB (sg : zSig) (a : Nat) (k x y z : Int32) : zSig := zup (zup (zup (zup sg a 0 k) a 1 x) a 2 y) a 3 z
theorem bkSpa_become_0 : zBk mSpa_become 0 [(1, 0, 1, 0, 0), (1, 1, 1, 0, 0), (5, 6, 0, 0, 0), (6, 6, 0, 1, 0), (1, 0, 1, 0, 0), (1, 1, 1, 0, 0), (5, 6, 1, 0, 1), (6, 6, 1, 0, 1), (1, 0, 1, 0, 0), (1, 1, 1, 0, 0), (5, 6, 2, 0, 2), (6, 6, 2, 0, 2), (1, 0, 1, 0, 0), (1, 1, 1, 0, 0), (5, 6, 3, 0, 3), (6, 6, 3, 0, 3), (1, 0, 1, 0, 0), (1, 1, 1, 0, 0), (5, 6, 4, 0, 4), (6, 6, 4, 0, 4), (1, 0, 1, 0, 0), (1, 1, 1, 0, 0), (5, 6, 5, 0, 5), (6, 6, 5, 0, 5), (1, 0, 1, 0, 0), (1, 1, 1, 0, 0), (5, 6, 6, 0, 6), (6, 6, 6, 0, 6), (1, 0, 1, 0, 0), (1, 1, 1, 0, 0), (5, 6, 7, 0, 7), (6, 6, 7, 0, 7), (1, 0, 1, 0, 0), (1, 1, 1, 0, 0), (5, 6, 8, 0, 8), (6, 6, 8, 0, 8)] = some 72 := by decide +kernel
theorem bdSpa_become_72 : decode mSpa_become.2.2.1 72 = .ok (.return_, 1) := by decide +kernel
theorem cSpa_become {sg : zSig} {a b : Nat} (ha : zOb (zN sg) a 6) (hb : zOb (zN sg) b 6) (hne : b ≠ a) (hz : sg b 0 = 0 ∨ sg b 0 = 1)  : zG mSpa_become 411 (fun rr h' => rr = none ∧ h' = zN (hSpB sg a b)) 0 [(0, .ref a), (1, .ref b)] [] (zN sg) := by
  refine zb_vret bkSpa_become_0 bdSpa_become_72 rfl (h' := zN (zup (zup (zup (zup (zup (zup (zup (zup (zup sg a 0 (sg b 0)) a 1 ((zup sg a 0 (sg b 0)) b 1)) a 2 ((zup (zup sg a 0 (sg b 0)) a 1 ((zup sg a 0 (sg b 0)) b 1)) b 2)) a 3 ((zup (zup (zup sg a 0 (sg b 0)) a 1 ((zup sg a 0 (sg b 0)) b 1)) a 2 ((zup (zup sg a 0 (sg b 0)) a 1 ((zup sg a 0 (sg b 0)) b 1)) b 2)) b 3)) a 4 ((zup (zup (zup (zup sg a 0 (sg b 0)) a 1 ((zup sg a 0 (sg b 0)) b 1)) a 2 ((zup (zup sg a 0 (sg b 0)) a 1 ((zup sg a 0 (sg b 0)) b 1)) b 2)) a 3 ((zup (zup (zup sg a 0 (sg b 0)) a 1 ((zup sg a 0 (sg b 0)) b 1)) a 2 ((zup (zup sg a 0 (sg b 0)) a 1 ((zup sg a 0 (sg b 0)) b 1)) b 2)) b 3)) b 4)) a 5 ((zup (zup (zup (zup (zup sg a 0 (sg b 0)) a 1 ((zup sg a 0 (sg b 0)) b 1)) a 2 ((zup (zup sg a 0 (sg b 0)) a 1 ((zup sg a 0 (sg b 0)) b 1)) b 2)) a 3 ((zup (zup (zup sg a 0 (sg b 0)) a 1 ((zup sg a 0 (sg b 0)) b 1)) a 2 ((zup (zup sg a 0 (sg b 0)) a 1 ((zup sg a 0 (sg b 0)) b 1)) b 2)) b 3)) a 4 ((zup (zup (zup (zup sg a 0 (sg b 0)) a 1 ((zup sg a 0 (sg b 0)) b 1)) a 2 ((zup (zup sg a 0 (sg b 0)) a 1 ((zup sg a 0 (sg b 0)) b 1)) b 2)) a 3 ((zup (zup (zup sg a 0 (sg b 0)) a 1 ((zup sg a 0 (sg b 0)) b 1)) a 2 ((zup (zup sg a 0 (sg b 0)) a 1 ((zup sg a 0 (sg b 0)) b 1)) b 2)) b 3)) b 4)) b 5)) a 6 ((zup (zup (zup (zup (zup (zup sg a 0 (sg b 0)) a 1 ((zup sg a 0 (sg b 0)) b 1)) a 2 ((zup (zup sg a 0 (sg b 0)) a 1 ((zup sg a 0 (sg b 0)) b 1)) b 2)) a 3 ((zup (zup (zup sg a 0 (sg b 0)) a 1 ((zup sg a 0 (sg b 0)) b 1)) a 2 ((zup (zup sg a 0 (sg b 0)) a 1 ((zup sg a 0 (sg b 0)) b 1)) b 2)) b 3)) a 4 ((zup (zup (zup (zup sg a 0 (sg b 0)) a 1 ((zup sg a 0 (sg b 0)) b 1)) a 2 ((zup (zup sg a 0 (sg b 0)) a 1 ((zup sg a 0 (sg b 0)) b 1)) b 2)) a 3 ((zup (zup (zup sg a 0 (sg b 0)) a 1 ((zup sg a 0 (sg b 0)) b 1)) a 2 ((zup (zup sg a 0 (sg b 0)) a 1 ((zup sg a 0 (sg b 0)) b 1)) b 2)) b 3)) b 4)) a 5 ((zup (zup (zup (zup (zup sg a 0 (sg b 0)) a 1 ((zup sg a 0 (sg b 0)) b 1)) a 2 ((zup (zup sg a 0 (sg b 0)) a 1 ((zup sg a 0 (sg b 0)) b 1)) b 2)) a 3 ((zup (zup (zup sg a 0 (sg b 0)) a 1 ((zup sg a 0 (sg b 0)) b 1)) a 2 ((zup (zup sg a 0 (sg b 0)) a 1 ((zup sg a 0 (sg b 0)) b 1)) b 2)) b 3)) a 4 ((zup (zup (zup (zup sg a 0 (sg b 0)) a 1 ((zup sg a 0 (sg b 0)) b 1)) a 2 ((zup (zup sg a 0 (sg b 0)) a 1 ((zup sg a 0 (sg b 0)) b 1)) b 2)) a 3 ((zup (zup (zup sg a 0 (sg b 0)) a 1 ((zup sg a 0 (sg b 0)) b 1)) a 2 ((zup (zup sg a 0 (sg b 0)) a 1 ((zup sg a 0 (sg b 0)) b 1)) b 2)) b 3)) b 4)) b 5)) b 6)) a 7 ((zup (zup (zup (zup (zup (zup (zup sg a 0 (sg b 0)) a 1 ((zup sg a 0 (sg b 0)) b 1)) a 2 ((zup (zup sg a 0 (sg b 0)) a 1 ((zup sg a 0 (sg b 0)) b 1)) b 2)) a 3 ((zup (zup (zup sg a 0 (sg b 0)) a 1 ((zup sg a 0 (sg b 0)) b 1)) a 2 ((zup (zup sg a 0 (sg b 0)) a 1 ((zup sg a 0 (sg b 0)) b 1)) b 2)) b 3)) a 4 ((zup (zup (zup (zup sg a 0 (sg b 0)) a 1 ((zup sg a 0 (sg b 0)) b 1)) a 2 ((zup (zup sg a 0 (sg b 0)) a 1 ((zup sg a 0 (sg b 0)) b 1)) b 2)) a 3 ((zup (zup (zup sg a 0 (sg b 0)) a 1 ((zup sg a 0 (sg b 0)) b 1)) a 2 ((zup (zup sg a 0 (sg b 0)) a 1 ((zup sg a 0 (sg b 0)) b 1)) b 2)) b 3)) b 4)) a 5 ((zup (zup (zup (zup (zup sg a 0 (sg b 0)) a 1 ((zup sg a 0 (sg b 0)) b 1)) a 2 ((zup (zup sg a 0 (sg b 0)) a 1 ((zup sg a 0 (sg b 0)) b 1)) b 2)) a 3 ((zup (zup (zup sg a 0 (sg b 0)) a 1 ((zup sg a 0 (sg b 0)) b 1)) a 2 ((zup (zup sg a 0 (sg b 0)) a 1 ((zup sg a 0 (sg b 0)) b 1)) b 2)) b 3)) a 4 ((zup (zup (zup (zup sg a 0 (sg b 0)) a 1 ((zup sg a 0 (sg b 0)) b 1)) a 2 ((zup (zup sg a 0 (sg b 0)) a 1 ((zup sg a 0 (sg b 0)) b 1)) b 2)) a 3 ((zup (zup (zup sg a 0 (sg b 0)) a 1 ((zup sg a 0 (sg b 0)) b 1)) a 2 ((zup (zup sg a 0 (sg b 0)) a 1 ((zup sg a 0 (sg b 0)) b 1)) b 2)) b 3)) b 4)) b 5)) a 6 ((zup (zup (zup (zup (zup (zup sg a 0 (sg b 0)) a 1 ((zup sg a 0 (sg b 0)) b 1)) a 2 ((zup (zup sg a 0 (sg b 0)) a 1 ((zup sg a 0 (sg b 0)) b 1)) b 2)) a 3 ((zup (zup (zup sg a 0 (sg b 0)) a 1 ((zup sg a 0 (sg b 0)) b 1)) a 2 ((zup (zup sg a 0 (sg b 0)) a 1 ((zup sg a 0 (sg b 0)) b 1)) b 2)) b 3)) a 4 ((zup (zup (zup (zup sg a 0 (sg b 0)) a 1 ((zup sg a 0 (sg b 0)) b 1)) a 2 ((zup (zup sg a 0 (sg b 0)) a 1 ((zup sg a 0 (sg b 0)) b 1)) b 2)) a 3 ((zup (zup (zup sg a 0 (sg b 0)) a 1 ((zup sg a 0 (sg b 0)) b 1)) a 2 ((zup (zup sg a 0 (sg b 0)) a 1 ((zup sg a 0 (sg b 0)) b 1)) b 2)) b 3)) b 4)) a 5 ((zup (zup (zup (zup (zup sg a 0 (sg b 0)) a 1 ((zup sg a 0 (sg b 0)) b 1)) a 2 ((zup (zup sg a 0 (sg b 0)) a 1 ((zup sg a 0 (sg b 0)) b 1)) b 2)) a 3 ((zup (zup (zup sg a 0 (sg b 0)) a 1 ((zup sg a 0 (sg b 0)) b 1)) a 2 ((zup (zup sg a 0 (sg b 0)) a 1 ((zup sg a 0 (sg b 0)) b 1)) b 2)) b 3)) a 4 ((zup (zup (zup (zup sg a 0 (sg b 0)) a 1 ((zup sg a 0 (sg b 0)) b 1)) a 2 ((zup (zup sg a 0 (sg b 0)) a 1 ((zup sg a 0 (sg b 0)) b 1)) b 2)) a 3 ((zup (zup (zup sg a 0 (sg b 0)) a 1 ((zup sg a 0 (sg b 0)) b 1)) a 2 ((zup (zup sg a 0 (sg b 0)) a 1 ((zup sg a 0 (sg b 0)) b 1)) b 2)) b 3)) b 4)) b 5)) b 6)) b 7)) a 8 ((zup (zup (zup (zup (zup (zup (zup (zup sg a 0 (sg b 0)) a 1 ((zup sg a 0 (sg b 0)) b 1)) a 2 ((zup (zup sg a 0 (sg b 0)) a 1 ((zup sg a 0 (sg b 0)) b 1)) b 2)) a 3 ((zup (zup (zup sg a 0 (sg b 0)) a 1 ((zup sg a 0 (sg b 0)) b 1)) a 2 ((zup (zup sg a 0 (sg b 0)) a 1 ((zup sg a 0 (sg b 0)) b 1)) b 2)) b 3)) a 4 ((zup (zup (zup (zup sg a 0 (sg b 0)) a 1 ((zup sg a 0 (sg b 0)) b 1)) a 2 ((zup (zup sg a 0 (sg b 0)) a 1 ((zup sg a 0 (sg b 0)) b 1)) b 2)) a 3 ((zup (zup (zup sg a 0 (sg b 0)) a 1 ((zup sg a 0 (sg b 0)) b 1)) a 2 ((zup (zup sg a 0 (sg b 0)) a 1 ((zup sg a 0 (sg b 0)) b 1)) b 2)) b 3)) b 4)) a 5 ((zup (zup (zup (zup (zup sg a 0 (sg b 0)) a 1 ((zup sg a 0 (sg b 0)) b 1)) a 2 ((zup (zup sg a 0 (sg b 0)) a 1 ((zup sg a 0 (sg b 0)) b 1)) b 2)) a 3 ((zup (zup (zup sg a 0 (sg b 0)) a 1 ((zup sg a 0 (sg b 0)) b 1)) a 2 ((zup (zup sg a 0 (sg b 0)) a 1 ((zup sg a 0 (sg b 0)) b 1)) b 2)) b 3)) a 4 ((zup (zup (zup (zup sg a 0 (sg b 0)) a 1 ((zup sg a 0 (sg b 0)) b 1)) a 2 ((zup (zup sg a 0 (sg b 0)) a 1 ((zup sg a 0 (sg b 0)) b 1)) b 2)) a 3 ((zup (zup (zup sg a 0 (sg b 0)) a 1 ((zup sg a 0 (sg b 0)) b 1)) a 2 ((zup (zup sg a 0 (sg b 0)) a 1 ((zup sg a 0 (sg b 0)) b 1)) b 2)) b 3)) b 4)) b 5)) a 6 ((zup (zup (zup (zup (zup (zup sg a 0 (sg b 0)) a 1 ((zup sg a 0 (sg b 0)) b 1)) a 2 ((zup (zup sg a 0 (sg b 0)) a 1 ((zup sg a 0 (sg b 0)) b 1)) b 2)) a 3 ((zup (zup (zup sg a 0 (sg b 0)) a 1 ((zup sg a 0 (sg b 0)) b 1)) a 2 ((zup (zup sg a 0 (sg b 0)) a 1 ((zup sg a 0 (sg b 0)) b 1)) b 2)) b 3)) a 4 ((zup (zup (zup (zup sg a 0 (sg b 0)) a 1 ((zup sg a 0 (sg b 0)) b 1)) a 2 ((zup (zup sg a 0 (sg b 0)) a 1 ((zup sg a 0 (sg b 0)) b 1)) b 2)) a 3 ((zup (zup (zup sg a 0 (sg b 0)) a 1 ((zup sg a 0 (sg b 0)) b 1)) a 2 ((zup (zup sg a 0 (sg b 0)) a 1 ((zup sg a 0 (sg b 0)) b 1)) b 2)) b 3)) b 4)) a 5 ((zup (zup (zup (zup (zup sg a 0 (sg b 0)) a 1 ((zup sg a 0 (sg b 0)) b 1)) a 2 ((zup (zup sg a 0 (sg b 0)) a 1 ((zup sg a 0 (sg b 0)) b 1)) b 2)) a 3 ((zup (zup (zup sg a 0 (sg b 0)) a 1 ((zup sg a 0 (sg b 0)) b 1)) a 2 ((zup (zup sg a 0 (sg b 0)) a 1 ((zup sg a 0 (sg b 0)) b 1)) b 2)) b 3)) a 4 ((zup (zup (zup (zup sg a 0 (sg b 0)) a 1 ((zup sg a 0 (sg b 0)) b 1)) a 2 ((zup (zup sg a 0 (sg b 0)) a 1 ((zup sg a 0 (sg b 0)) b 1)) b 2)) a 3 ((zup (zup (zup sg a 0 (sg b 0)) a 1 ((zup sg a 0 (sg b 0)) b 1)) a 2 ((zup (zup sg a 0 (sg b 0)) a 1 ((zup sg a 0 (sg b 0)) b 1)) b 2)) b 3)) b 4)) b 5)) b 6)) a 7 ((zup (zup (zup (zup (zup (zup (zup sg a 0 (sg b 0)) a 1 ((zup sg a 0 (sg b 0)) b 1)) a 2 ((zup (zup sg a 0 (sg b 0)) a 1 ((zup sg a 0 (sg b 0)) b 1)) b 2)) a 3 ((zup (zup (zup sg a 0 (sg b 0)) a 1 ((zup sg a 0 (sg b 0)) b 1)) a 2 ((zup (zup sg a 0 (sg b 0)) a 1 ((zup sg a 0 (sg b 0)) b 1)) b 2)) b 3)) a 4 ((zup (zup (zup (zup sg a 0 (sg b 0)) a 1 ((zup sg a 0 (sg b 0)) b 1)) a 2 ((zup (zup sg a 0 (sg b 0)) a 1 ((zup sg a 0 (sg b 0)) b 1)) b 2)) a 3 ((zup (zup (zup sg a 0 (sg b 0)) a 1 ((zup sg a 0 (sg b 0)) b 1)) a 2 ((zup (zup sg a 0 (sg b 0)) a 1 ((zup sg a 0 (sg b 0)) b 1)) b 2)) b 3)) b 4)) a 5 ((zup (zup (zup (zup (zup sg a 0 (sg b 0)) a 1 ((zup sg a 0 (sg b 0)) b 1)) a 2 ((zup (zup sg a 0 (sg b 0)) a 1 ((zup sg a 0 (sg b 0)) b 1)) b 2)) a 3 ((zup (zup (zup sg a 0 (sg b 0)) a 1 ((zup sg a 0 (sg b 0)) b 1)) a 2 ((zup (zup sg a 0 (sg b 0)) a 1 ((zup sg a 0 (sg b 0)) b 1)) b 2)) b 3)) a 4 ((zup (zup (zup (zup sg a 0 (sg b 0)) a 1 ((zup sg a 0 (sg b 0)) b 1)) a 2 ((zup (zup sg a 0 (sg b 0)) a 1 ((zup sg a 0 (sg b 0)) b 1)) b 2)) a 3 ((zup (zup (zup sg a 0 (sg b 0)) a 1 ((zup sg a 0 (sg b 0)) b 1)) a 2 ((zup (zup sg a 0 (sg b 0)) a 1 ((zup sg a 0 (sg b 0)) b 1)) b 2)) b 3)) b 4)) b 5)) a 6 ((zup (zup (zup (zup (zup (zup sg a 0 (sg b 0)) a 1 ((zup sg a 0 (sg b 0)) b 1)) a 2 ((zup (zup sg a 0 (sg b 0)) a 1 ((zup sg a 0 (sg b 0)) b 1)) b 2)) a 3 ((zup (zup (zup sg a 0 (sg b 0)) a 1 ((zup sg a 0 (sg b 0)) b 1)) a 2 ((zup (zup sg a 0 (sg b 0)) a 1 ((zup sg a 0 (sg b 0)) b 1)) b 2)) b 3)) a 4 ((zup (zup (zup (zup sg a 0 (sg b 0)) a 1 ((zup sg a 0 (sg b 0)) b 1)) a 2 ((zup (zup sg a 0 (sg b 0)) a 1 ((zup sg a 0 (sg b 0)) b 1)) b 2)) a 3 ((zup (zup (zup sg a 0 (sg b 0)) a 1 ((zup sg a 0 (sg b 0)) b 1)) a 2 ((zup (zup sg a 0 (sg b 0)) a 1 ((zup sg a 0 (sg b 0)) b 1)) b 2)) b 3)) b 4)) a 5 ((zup (zup (zup (zup (zup sg a 0 (sg b 0)) a 1 ((zup sg a 0 (sg b 0)) b 1)) a 2 ((zup (zup sg a 0 (sg b 0)) a 1 ((zup sg a 0 (sg b 0)) b 1)) b 2)) a 3 ((zup (zup (zup sg a 0 (sg b 0)) a 1 ((zup sg a 0 (sg b 0)) b 1)) a 2 ((zup (zup sg a 0 (sg b 0)) a 1 ((zup sg a 0 (sg b 0)) b 1)) b 2)) b 3)) a 4 ((zup (zup (zup (zup sg a 0 (sg b 0)) a 1 ((zup sg a 0 (sg b 0)) b 1)) a 2 ((zup (zup sg a 0 (sg b 0)) a 1 ((zup sg a 0 (sg b 0)) b 1)) b 2)) a 3 ((zup (zup (zup sg a 0 (sg b 0)) a 1 ((zup sg a 0 (sg b 0)) b 1)) a 2 ((zup (zup sg a 0 (sg b 0)) a 1 ((zup sg a 0 (sg b 0)) b 1)) b 2)) b 3)) b 4)) b 5)) b 6)) b 7)) b 8))) (Ps := [zOb (zN sg) b 6, zOb (zN sg) a 6, (sg b 0) = 0 ∨ (sg b 0) = 1, zOb (zN (zup sg a 0 (sg b 0))) b 6, zOb (zN (zup sg a 0 (sg b 0))) a 6, zOb (zN (zup (zup sg a 0 (sg b 0)) a 1 ((zup sg a 0 (sg b 0)) b 1))) b 6, zOb (zN (zup (zup sg a 0 (sg b 0)) a 1 ((zup sg a 0 (sg b 0)) b 1))) a 6, zOb (zN (zup (zup (zup sg a 0 (sg b 0)) a 1 ((zup sg a 0 (sg b 0)) b 1)) a 2 ((zup (zup sg a 0 (sg b 0)) a 1 ((zup sg a 0 (sg b 0)) b 1)) b 2))) b 6, zOb (zN (zup (zup (zup sg a 0 (sg b 0)) a 1 ((zup sg a 0 (sg b 0)) b 1)) a 2 ((zup (zup sg a 0 (sg b 0)) a 1 ((zup sg a 0 (sg b 0)) b 1)) b 2))) a 6, zOb (zN (zup (zup (zup (zup sg a 0 (sg b 0)) a 1 ((zup sg a 0 (sg b 0)) b 1)) a 2 ((zup (zup sg a 0 (sg b 0)) a 1 ((zup sg a 0 (sg b 0)) b 1)) b 2)) a 3 ((zup (zup (zup sg a 0 (sg b 0)) a 1 ((zup sg a 0 (sg b 0)) b 1)) a 2 ((zup (zup sg a 0 (sg b 0)) a 1 ((zup sg a 0 (sg b 0)) b 1)) b 2)) b 3))) b 6, zOb (zN (zup (zup (zup (zup sg a 0 (sg b 0)) a 1 ((zup sg a 0 (sg b 0)) b 1)) a 2 ((zup (zup sg a 0 (sg b 0)) a 1 ((zup sg a 0 (sg b 0)) b 1)) b 2)) a 3 ((zup (zup (zup sg a 0 (sg b 0)) a 1 ((zup sg a 0 (sg b 0)) b 1)) a 2 ((zup (zup sg a 0 (sg b 0)) a 1 ((zup sg a 0 (sg b 0)) b 1)) b 2)) b 3))) a 6, zOb (zN (zup (zup (zup (zup (zup sg a 0 (sg b 0)) a 1 ((zup sg a 0 (sg b 0)) b 1)) a 2 ((zup (zup sg a 0 (sg b 0)) a 1 ((zup sg a 0 (sg b 0)) b 1)) b 2)) a 3 ((zup (zup (zup sg a 0 (sg b 0)) a 1 ((zup sg a 0 (sg b 0)) b 1)) a 2 ((zup (zup sg a 0 (sg b 0)) a 1 ((zup sg a 0 (sg b 0)) b 1)) b 2)) b 3)) a 4 ((zup (zup (zup (zup sg a 0 (sg b 0)) a 1 ((zup sg a 0 (sg b 0)) b 1)) a 2 ((zup (zup sg a 0 (sg b 0)) a 1 ((zup sg a 0 (sg b 0)) b 1)) b 2)) a 3 ((zup (zup (zup sg a 0 (sg b 0)) a 1 ((zup sg a 0 (sg b 0)) b 1)) a 2 ((zup (zup sg a 0 (sg b 0)) a 1 ((zup sg a 0 (sg b 0)) b 1)) b 2)) b 3)) b 4))) b 6, zOb (zN (zup (zup (zup (zup (zup sg a 0 (sg b 0)) a 1 ((zup sg a 0 (sg b 0)) b 1)) a 2 ((zup (zup sg a 0 (sg b 0)) a 1 ((zup sg a 0 (sg b 0)) b 1)) b 2)) a 3 ((zup (zup (zup sg a 0 (sg b 0)) a 1 ((zup sg a 0 (sg b 0)) b 1)) a 2 ((zup (zup sg a 0 (sg b 0)) a 1 ((zup sg a 0 (sg b 0)) b 1)) b 2)) b 3)) a 4 ((zup (zup (zup (zup sg a 0 (sg b 0)) a 1 ((zup sg a 0 (sg b 0)) b 1)) a 2 ((zup (zup sg a 0 (sg b 0)) a 1 ((zup sg a 0 (sg b 0)) b 1)) b 2)) a 3 ((zup (zup (zup sg a 0 (sg b 0)) a 1 ((zup sg a 0 (sg b 0)) b 1)) a 2 ((zup (zup sg a 0 (sg b 0)) a 1 ((zup sg a 0 (sg b 0)) b 1)) b 2)) b 3)) b 4))) a 6, zOb (zN (zup (zup (zup (zup (zup (zup sg a 0 (sg b 0)) a 1 ((zup sg a 0 (sg b 0)) b 1)) a 2 ((zup (zup sg a 0 (sg b 0)) a 1 ((zup sg a 0 (sg b 0)) b 1)) b 2)) a 3 ((zup (zup (zup sg a 0 (sg b 0)) a 1 ((zup sg a 0 (sg b 0)) b 1)) a 2 ((zup (zup sg a 0 (sg b 0)) a 1 ((zup sg a 0 (sg b 0)) b 1)) b 2)) b 3)) a 4 ((zup (zup (zup (zup sg a 0 (sg b 0)) a 1 ((zup sg a 0 (sg b 0)) b 1)) a 2 ((zup (zup sg a 0 (sg b 0)) a 1 ((zup sg a 0 (sg b 0)) b 1)) b 2)) a 3 ((zup (zup (zup sg a 0 (sg b 0)) a 1 ((zup sg a 0 (sg b 0)) b 1)) a 2 ((zup (zup sg a 0 (sg b 0)) a 1 ((zup sg a 0 (sg b 0)) b 1)) b 2)) b 3)) b 4)) a 5 ((zup (zup (zup (zup (zup sg a 0 (sg b 0)) a 1 ((zup sg a 0 (sg b 0)) b 1)) a 2 ((zup (zup sg a 0 (sg b 0)) a 1 ((zup sg a 0 (sg b 0)) b 1)) b 2)) a 3 ((zup (zup (zup sg a 0 (sg b 0)) a 1 ((zup sg a 0 (sg b 0)) b 1)) a 2 ((zup (zup sg a 0 (sg b 0)) a 1 ((zup sg a 0 (sg b 0)) b 1)) b 2)) b 3)) a 4 ((zup (zup (zup (zup sg a 0 (sg b 0)) a 1 ((zup sg a 0 (sg b 0)) b 1)) a 2 ((zup (zup sg a 0 (sg b 0)) a 1 ((zup sg a 0 (sg b 0)) b 1)) b 2)) a 3 ((zup (zup (zup sg a 0 (sg b 0)) a 1 ((zup sg a 0 (sg b 0)) b 1)) a 2 ((zup (zup sg a 0 (sg b 0)) a 1 ((zup sg a 0 (sg b 0)) b 1)) b 2)) b 3)) b 4)) b 5))) b 6, zOb (zN (zup (zup (zup (zup (zup (zup sg a 0 (sg b 0)) a 1 ((zup sg a 0 (sg b 0)) b 1)) a 2 ((zup (zup sg a 0 (sg b 0)) a 1 ((zup sg a 0 (sg b 0)) b 1)) b 2)) a 3 ((zup (zup (zup sg a 0 (sg b 0)) a 1 ((zup sg a 0 (sg b 0)) b 1)) a 2 ((zup (zup sg a 0 (sg b 0)) a 1 ((zup sg a 0 (sg b 0)) b 1)) b 2)) b 3)) a 4 ((zup (zup (zup (zup sg a 0 (sg b 0)) a 1 ((zup sg a 0 (sg b 0)) b 1)) a 2 ((zup (zup sg a 0 (sg b 0)) a 1 ((zup sg a 0 (sg b 0)) b 1)) b 2)) a 3 ((zup (zup (zup sg a 0 (sg b 0)) a 1 ((zup sg a 0 (sg b 0)) b 1)) a 2 ((zup (zup sg a 0 (sg b 0)) a 1 ((zup sg a 0 (sg b 0)) b 1)) b 2)) b 3)) b 4)) a 5 ((zup (zup (zup (zup (zup sg a 0 (sg b 0)) a 1 ((zup sg a 0 (sg b 0)) b 1)) a 2 ((zup (zup sg a 0 (sg b 0)) a 1 ((zup sg a 0 (sg b 0)) b 1)) b 2)) a 3 ((zup (zup (zup sg a 0 (sg b 0)) a 1 ((zup sg a 0 (sg b 0)) b 1)) a 2 ((zup (zup sg a 0 (sg b 0)) a 1 ((zup sg a 0 (sg b 0)) b 1)) b 2)) b 3)) a 4 ((zup (zup (zup (zup sg a 0 (sg b 0)) a 1 ((zup sg a 0 (sg b 0)) b 1)) a 2 ((zup (zup sg a 0 (sg b 0)) a 1 ((zup sg a 0 (sg b 0)) b 1)) b 2)) a 3 ((zup (zup (zup sg a 0 (sg b 0)) a 1 ((zup sg a 0 (sg b 0)) b 1)) a 2 ((zup (zup sg a 0 (sg b 0)) a 1 ((zup sg a 0 (sg b 0)) b 1)) b 2)) b 3)) b 4)) b 5))) a 6, zOb (zN (zup (zup (zup (zup (zup (zup (zup sg a 0 (sg b 0)) a 1 ((zup sg a 0 (sg b 0)) b 1)) a 2 ((zup (zup sg a 0 (sg b 0)) a 1 ((zup sg a 0 (sg b 0)) b 1)) b 2)) a 3 ((zup (zup (zup sg a 0 (sg b 0)) a 1 ((zup sg a 0 (sg b 0)) b 1)) a 2 ((zup (zup sg a 0 (sg b 0)) a 1 ((zup sg a 0 (sg b 0)) b 1)) b 2)) b 3)) a 4 ((zup (zup (zup (zup sg a 0 (sg b 0)) a 1 ((zup sg a 0 (sg b 0)) b 1)) a 2 ((zup (zup sg a 0 (sg b 0)) a 1 ((zup sg a 0 (sg b 0)) b 1)) b 2)) a 3 ((zup (zup (zup sg a 0 (sg b 0)) a 1 ((zup sg a 0 (sg b 0)) b 1)) a 2 ((zup (zup sg a 0 (sg b 0)) a 1 ((zup sg a 0 (sg b 0)) b 1)) b 2)) b 3)) b 4)) a 5 ((zup (zup (zup (zup (zup sg a 0 (sg b 0)) a 1 ((zup sg a 0 (sg b 0)) b 1)) a 2 ((zup (zup sg a 0 (sg b 0)) a 1 ((zup sg a 0 (sg b 0)) b 1)) b 2)) a 3 ((zup (zup (zup sg a 0 (sg b 0)) a 1 ((zup sg a 0 (sg b 0)) b 1)) a 2 ((zup (zup sg a 0 (sg b 0)) a 1 ((zup sg a 0 (sg b 0)) b 1)) b 2)) b 3)) a 4 ((zup (zup (zup (zup sg a 0 (sg b 0)) a 1 ((zup sg a 0 (sg b 0)) b 1)) a 2 ((zup (zup sg a 0 (sg b 0)) a 1 ((zup sg a 0 (sg b 0)) b 1)) b 2)) a 3 ((zup (zup (zup sg a 0 (sg b 0)) a 1 ((zup sg a 0 (sg b 0)) b 1)) a 2 ((zup (zup sg a 0 (sg b 0)) a 1 ((zup sg a 0 (sg b 0)) b 1)) b 2)) b 3)) b 4)) b 5)) a 6 ((zup (zup (zup (zup (zup (zup sg a 0 (sg b 0)) a 1 ((zup sg a 0 (sg b 0)) b 1)) a 2 ((zup (zup sg a 0 (sg b 0)) a 1 ((zup sg a 0 (sg b 0)) b 1)) b 2)) a 3 ((zup (zup (zup sg a 0 (sg b 0)) a 1 ((zup sg a 0 (sg b 0)) b 1)) a 2 ((zup (zup sg a 0 (sg b 0)) a 1 ((zup sg a 0 (sg b 0)) b 1)) b 2)) b 3)) a 4 ((zup (zup (zup (zup sg a 0 (sg b 0)) a 1 ((zup sg a 0 (sg b 0)) b 1)) a 2 ((zup (zup sg a 0 (sg b 0)) a 1 ((zup sg a 0 (sg b 0)) b 1)) b 2)) a 3 ((zup (zup (zup sg a 0 (sg b 0)) a 1 ((zup sg a 0 (sg b 0)) b 1)) a 2 ((zup (zup sg a 0 (sg b 0)) a 1 ((zup sg a 0 (sg b 0)) b 1)) b 2)) b 3)) b 4)) a 5 ((zup (zup (zup (zup (zup sg a 0 (sg b 0)) a 1 ((zup sg a 0 (sg b 0)) b 1)) a 2 ((zup (zup sg a 0 (sg b 0)) a 1 ((zup sg a 0 (sg b 0)) b 1)) b 2)) a 3 ((zup (zup (zup sg a 0 (sg b 0)) a 1 ((zup sg a 0 (sg b 0)) b 1)) a 2 ((zup (zup sg a 0 (sg b 0)) a 1 ((zup sg a 0 (sg b 0)) b 1)) b 2)) b 3)) a 4 ((zup (zup (zup (zup sg a 0 (sg b 0)) a 1 ((zup sg a 0 (sg b 0)) b 1)) a 2 ((zup (zup sg a 0 (sg b 0)) a 1 ((zup sg a 0 (sg b 0)) b 1)) b 2)) a 3 ((zup (zup (zup sg a 0 (sg b 0)) a 1 ((zup sg a 0 (sg b 0)) b 1)) a 2 ((zup (zup sg a 0 (sg b 0)) a 1 ((zup sg a 0 (sg b 0)) b 1)) b 2)) b 3)) b 4)) b 5)) b 6))) b 6, zOb (zN (zup (zup (zup (zup (zup (zup (zup sg a 0 (sg b 0)) a 1 ((zup sg a 0 (sg b 0)) b 1)) a 2 ((zup (zup sg a 0 (sg b 0)) a 1 ((zup sg a 0 (sg b 0)) b 1)) b 2)) a 3 ((zup (zup (zup sg a 0 (sg b 0)) a 1 ((zup sg a 0 (sg b 0)) b 1)) a 2 ((zup (zup sg a 0 (sg b 0)) a 1 ((zup sg a 0 (sg b 0)) b 1)) b 2)) b 3)) a 4 ((zup (zup (zup (zup sg a 0 (sg b 0)) a 1 ((zup sg a 0 (sg b 0)) b 1)) a 2 ((zup (zup sg a 0 (sg b 0)) a 1 ((zup sg a 0 (sg b 0)) b 1)) b 2)) a 3 ((zup (zup (zup sg a 0 (sg b 0)) a 1 ((zup sg a 0 (sg b 0)) b 1)) a 2 ((zup (zup sg a 0 (sg b 0)) a 1 ((zup sg a 0 (sg b 0)) b 1)) b 2)) b 3)) b 4)) a 5 ((zup (zup (zup (zup (zup sg a 0 (sg b 0)) a 1 ((zup sg a 0 (sg b 0)) b 1)) a 2 ((zup (zup sg a 0 (sg b 0)) a 1 ((zup sg a 0 (sg b 0)) b 1)) b 2)) a 3 ((zup (zup (zup sg a 0 (sg b 0)) a 1 ((zup sg a 0 (sg b 0)) b 1)) a 2 ((zup (zup sg a 0 (sg b 0)) a 1 ((zup sg a 0 (sg b 0)) b 1)) b 2)) b 3)) a 4 ((zup (zup (zup (zup sg a 0 (sg b 0)) a 1 ((zup sg a 0 (sg b 0)) b 1)) a 2 ((zup (zup sg a 0 (sg b 0)) a 1 ((zup sg a 0 (sg b 0)) b 1)) b 2)) a 3 ((zup (zup (zup sg a 0 (sg b 0)) a 1 ((zup sg a 0 (sg b 0)) b 1)) a 2 ((zup (zup sg a 0 (sg b 0)) a 1 ((zup sg a 0 (sg b 0)) b 1)) b 2)) b 3)) b 4)) b 5)) a 6 ((zup (zup (zup (zup (zup (zup sg a 0 (sg b 0)) a 1 ((zup sg a 0 (sg b 0)) b 1)) a 2 ((zup (zup sg a 0 (sg b 0)) a 1 ((zup sg a 0 (sg b 0)) b 1)) b 2)) a 3 ((zup (zup (zup sg a 0 (sg b 0)) a 1 ((zup sg a 0 (sg b 0)) b 1)) a 2 ((zup (zup sg a 0 (sg b 0)) a 1 ((zup sg a 0 (sg b 0)) b 1)) b 2)) b 3)) a 4 ((zup (zup (zup (zup sg a 0 (sg b 0)) a 1 ((zup sg a 0 (sg b 0)) b 1)) a 2 ((zup (zup sg a 0 (sg b 0)) a 1 ((zup sg a 0 (sg b 0)) b 1)) b 2)) a 3 ((zup (zup (zup sg a 0 (sg b 0)) a 1 ((zup sg a 0 (sg b 0)) b 1)) a 2 ((zup (zup sg a 0 (sg b 0)) a 1 ((zup sg a 0 (sg b 0)) b 1)) b 2)) b 3)) b 4)) a 5 ((zup (zup (zup (zup (zup sg a 0 (sg b 0)) a 1 ((zup sg a 0 (sg b 0)) b 1)) a 2 ((zup (zup sg a 0 (sg b 0)) a 1 ((zup sg a 0 (sg b 0)) b 1)) b 2)) a 3 ((zup (zup (zup sg a 0 (sg b 0)) a 1 ((zup sg a 0 (sg b 0)) b 1)) a 2 ((zup (zup sg a 0 (sg b 0)) a 1 ((zup sg a 0 (sg b 0)) b 1)) b 2)) b 3)) a 4 ((zup (zup (zup (zup sg a 0 (sg b 0)) a 1 ((zup sg a 0 (sg b 0)) b 1)) a 2 ((zup (zup sg a 0 (sg b 0)) a 1 ((zup sg a 0 (sg b 0)) b 1)) b 2)) a 3 ((zup (zup (zup sg a 0 (sg b 0)) a 1 ((zup sg a 0 (sg b 0)) b 1)) a 2 ((zup (zup sg a 0 (sg b 0)) a 1 ((zup sg a 0 (sg b 0)) b 1)) b 2)) b 3)) b 4)) b 5)) b 6))) a 6, zOb (zN (zup (zup (zup (zup (zup (zup (zup (zup sg a 0 (sg b 0)) a 1 ((zup sg a 0 (sg b 0)) b 1)) a 2 ((zup (zup sg a 0 (sg b 0)) a 1 ((zup sg a 0 (sg b 0)) b 1)) b 2)) a 3 ((zup (zup (zup sg a 0 (sg b 0)) a 1 ((zup sg a 0 (sg b 0)) b 1)) a 2 ((zup (zup sg a 0 (sg b 0)) a 1 ((zup sg a 0 (sg b 0)) b 1)) b 2)) b 3)) a 4 ((zup (zup (zup (zup sg a 0 (sg b 0)) a 1 ((zup sg a 0 (sg b 0)) b 1)) a 2 ((zup (zup sg a 0 (sg b 0)) a 1 ((zup sg a 0 (sg b 0)) b 1)) b 2)) a 3 ((zup (zup (zup sg a 0 (sg b 0)) a 1 ((zup sg a 0 (sg b 0)) b 1)) a 2 ((zup (zup sg a 0 (sg b 0)) a 1 ((zup sg a 0 (sg b 0)) b 1)) b 2)) b 3)) b 4)) a 5 ((zup (zup (zup (zup (zup sg a 0 (sg b 0)) a 1 ((zup sg a 0 (sg b 0)) b 1)) a 2 ((zup (zup sg a 0 (sg b 0)) a 1 ((zup sg a 0 (sg b 0)) b 1)) b 2)) a 3 ((zup (zup (zup sg a 0 (sg b 0)) a 1 ((zup sg a 0 (sg b 0)) b 1)) a 2 ((zup (zup sg a 0 (sg b 0)) a 1 ((zup sg a 0 (sg b 0)) b 1)) b 2)) b 3)) a 4 ((zup (zup (zup (zup sg a 0 (sg b 0)) a 1 ((zup sg a 0 (sg b 0)) b 1)) a 2 ((zup (zup sg a 0 (sg b 0)) a 1 ((zup sg a 0 (sg b 0)) b 1)) b 2)) a 3 ((zup (zup (zup sg a 0 (sg b 0)) a 1 ((zup sg a 0 (sg b 0)) b 1)) a 2 ((zup (zup sg a 0 (sg b 0)) a 1 ((zup sg a 0 (sg b 0)) b 1)) b 2)) b 3)) b 4)) b 5)) a 6 ((zup (zup (zup (zup (zup (zup sg a 0 (sg b 0)) a 1 ((zup sg a 0 (sg b 0)) b 1)) a 2 ((zup (zup sg a 0 (sg b 0)) a 1 ((zup sg a 0 (sg b 0)) b 1)) b 2)) a 3 ((zup (zup (zup sg a 0 (sg b 0)) a 1 ((zup sg a 0 (sg b 0)) b 1)) a 2 ((zup (zup sg a 0 (sg b 0)) a 1 ((zup sg a 0 (sg b 0)) b 1)) b 2)) b 3)) a 4 ((zup (zup (zup (zup sg a 0 (sg b 0)) a 1 ((zup sg a 0 (sg b 0)) b 1)) a 2 ((zup (zup sg a 0 (sg b 0)) a 1 ((zup sg a 0 (sg b 0)) b 1)) b 2)) a 3 ((zup (zup (zup sg a 0 (sg b 0)) a 1 ((zup sg a 0 (sg b 0)) b 1)) a 2 ((zup (zup sg a 0 (sg b 0)) a 1 ((zup sg a 0 (sg b 0)) b 1)) b 2)) b 3)) b 4)) a 5 ((zup (zup (zup (zup (zup sg a 0 (sg b 0)) a 1 ((zup sg a 0 (sg b 0)) b 1)) a 2 ((zup (zup sg a 0 (sg b 0)) a 1 ((zup sg a 0 (sg b 0)) b 1)) b 2)) a 3 ((zup (zup (zup sg a 0 (sg b 0)) a 1 ((zup sg a 0 (sg b 0)) b 1)) a 2 ((zup (zup sg a 0 (sg b 0)) a 1 ((zup sg a 0 (sg b 0)) b 1)) b 2)) b 3)) a 4 ((zup (zup (zup (zup sg a 0 (sg b 0)) a 1 ((zup sg a 0 (sg b 0)) b 1)) a 2 ((zup (zup sg a 0 (sg b 0)) a 1 ((zup sg a 0 (sg b 0)) b 1)) b 2)) a 3 ((zup (zup (zup sg a 0 (sg b 0)) a 1 ((zup sg a 0 (sg b 0)) b 1)) a 2 ((zup (zup sg a 0 (sg b 0)) a 1 ((zup sg a 0 (sg b 0)) b 1)) b 2)) b 3)) b 4)) b 5)) b 6)) a 7 ((zup (zup (zup (zup (zup (zup (zup sg a 0 (sg b 0)) a 1 ((zup sg a 0 (sg b 0)) b 1)) a 2 ((zup (zup sg a 0 (sg b 0)) a 1 ((zup sg a 0 (sg b 0)) b 1)) b 2)) a 3 ((zup (zup (zup sg a 0 (sg b 0)) a 1 ((zup sg a 0 (sg b 0)) b 1)) a 2 ((zup (zup sg a 0 (sg b 0)) a 1 ((zup sg a 0 (sg b 0)) b 1)) b 2)) b 3)) a 4 ((zup (zup (zup (zup sg a 0 (sg b 0)) a 1 ((zup sg a 0 (sg b 0)) b 1)) a 2 ((zup (zup sg a 0 (sg b 0)) a 1 ((zup sg a 0 (sg b 0)) b 1)) b 2)) a 3 ((zup (zup (zup sg a 0 (sg b 0)) a 1 ((zup sg a 0 (sg b 0)) b 1)) a 2 ((zup (zup sg a 0 (sg b 0)) a 1 ((zup sg a 0 (sg b 0)) b 1)) b 2)) b 3)) b 4)) a 5 ((zup (zup (zup (zup (zup sg a 0 (sg b 0)) a 1 ((zup sg a 0 (sg b 0)) b 1)) a 2 ((zup (zup sg a 0 (sg b 0)) a 1 ((zup sg a 0 (sg b 0)) b 1)) b 2)) a 3 ((zup (zup (zup sg a 0 (sg b 0)) a 1 ((zup sg a 0 (sg b 0)) b 1)) a 2 ((zup (zup sg a 0 (sg b 0)) a 1 ((zup sg a 0 (sg b 0)) b 1)) b 2)) b 3)) a 4 ((zup (zup (zup (zup sg a 0 (sg b 0)) a 1 ((zup sg a 0 (sg b 0)) b 1)) a 2 ((zup (zup sg a 0 (sg b 0)) a 1 ((zup sg a 0 (sg b 0)) b 1)) b 2)) a 3 ((zup (zup (zup sg a 0 (sg b 0)) a 1 ((zup sg a 0 (sg b 0)) b 1)) a 2 ((zup (zup sg a 0 (sg b 0)) a 1 ((zup sg a 0 (sg b 0)) b 1)) b 2)) b 3)) b 4)) b 5)) a 6 ((zup (zup (zup (zup (zup (zup sg a 0 (sg b 0)) a 1 ((zup sg a 0 (sg b 0)) b 1)) a 2 ((zup (zup sg a 0 (sg b 0)) a 1 ((zup sg a 0 (sg b 0)) b 1)) b 2)) a 3 ((zup (zup (zup sg a 0 (sg b 0)) a 1 ((zup sg a 0 (sg b 0)) b 1)) a 2 ((zup (zup sg a 0 (sg b 0)) a 1 ((zup sg a 0 (sg b 0)) b 1)) b 2)) b 3)) a 4 ((zup (zup (zup (zup sg a 0 (sg b 0)) a 1 ((zup sg a 0 (sg b 0)) b 1)) a 2 ((zup (zup sg a 0 (sg b 0)) a 1 ((zup sg a 0 (sg b 0)) b 1)) b 2)) a 3 ((zup (zup (zup sg a 0 (sg b 0)) a 1 ((zup sg a 0 (sg b 0)) b 1)) a 2 ((zup (zup sg a 0 (sg b 0)) a 1 ((zup sg a 0 (sg b 0)) b 1)) b 2)) b 3)) b 4)) a 5 ((zup (zup (zup (zup (zup sg a 0 (sg b 0)) a 1 ((zup sg a 0 (sg b 0)) b 1)) a 2 ((zup (zup sg a 0 (sg b 0)) a 1 ((zup sg a 0 (sg b 0)) b 1)) b 2)) a 3 ((zup (zup (zup sg a 0 (sg b 0)) a 1 ((zup sg a 0 (sg b 0)) b 1)) a 2 ((zup (zup sg a 0 (sg b 0)) a 1 ((zup sg a 0 (sg b 0)) b 1)) b 2)) b 3)) a 4 ((zup (zup (zup (zup sg a 0 (sg b 0)) a 1 ((zup sg a 0 (sg b 0)) b 1)) a 2 ((zup (zup sg a 0 (sg b 0)) a 1 ((zup sg a 0 (sg b 0)) b 1)) b 2)) a 3 ((zup (zup (zup sg a 0 (sg b 0)) a 1 ((zup sg a 0 (sg b 0)) b 1)) a 2 ((zup (zup sg a 0 (sg b 0)) a 1 ((zup sg a 0 (sg b 0)) b 1)) b 2)) b 3)) b 4)) b 5)) b 6)) b 7))) b 6, zOb (zN (zup (zup (zup (zup (zup (zup (zup (zup sg a 0 (sg b 0)) a 1 ((zup sg a 0 (sg b 0)) b 1)) a 2 ((zup (zup sg a 0 (sg b 0)) a 1 ((zup sg a 0 (sg b 0)) b 1)) b 2)) a 3 ((zup (zup (zup sg a 0 (sg b 0)) a 1 ((zup sg a 0 (sg b 0)) b 1)) a 2 ((zup (zup sg a 0 (sg b 0)) a 1 ((zup sg a 0 (sg b 0)) b 1)) b 2)) b 3)) a 4 ((zup (zup (zup (zup sg a 0 (sg b 0)) a 1 ((zup sg a 0 (sg b 0)) b 1)) a 2 ((zup (zup sg a 0 (sg b 0)) a 1 ((zup sg a 0 (sg b 0)) b 1)) b 2)) a 3 ((zup (zup (zup sg a 0 (sg b 0)) a 1 ((zup sg a 0 (sg b 0)) b 1)) a 2 ((zup (zup sg a 0 (sg b 0)) a 1 ((zup sg a 0 (sg b 0)) b 1)) b 2)) b 3)) b 4)) a 5 ((zup (zup (zup (zup (zup sg a 0 (sg b 0)) a 1 ((zup sg a 0 (sg b 0)) b 1)) a 2 ((zup (zup sg a 0 (sg b 0)) a 1 ((zup sg a 0 (sg b 0)) b 1)) b 2)) a 3 ((zup (zup (zup sg a 0 (sg b 0)) a 1 ((zup sg a 0 (sg b 0)) b 1)) a 2 ((zup (zup sg a 0 (sg b 0)) a 1 ((zup sg a 0 (sg b 0)) b 1)) b 2)) b 3)) a 4 ((zup (zup (zup (zup sg a 0 (sg b 0)) a 1 ((zup sg a 0 (sg b 0)) b 1)) a 2 ((zup (zup sg a 0 (sg b 0)) a 1 ((zup sg a 0 (sg b 0)) b 1)) b 2)) a 3 ((zup (zup (zup sg a 0 (sg b 0)) a 1 ((zup sg a 0 (sg b 0)) b 1)) a 2 ((zup (zup sg a 0 (sg b 0)) a 1 ((zup sg a 0 (sg b 0)) b 1)) b 2)) b 3)) b 4)) b 5)) a 6 ((zup (zup (zup (zup (zup (zup sg a 0 (sg b 0)) a 1 ((zup sg a 0 (sg b 0)) b 1)) a 2 ((zup (zup sg a 0 (sg b 0)) a 1 ((zup sg a 0 (sg b 0)) b 1)) b 2)) a 3 ((zup (zup (zup sg a 0 (sg b 0)) a 1 ((zup sg a 0 (sg b 0)) b 1)) a 2 ((zup (zup sg a 0 (sg b 0)) a 1 ((zup sg a 0 (sg b 0)) b 1)) b 2)) b 3)) a 4 ((zup (zup (zup (zup sg a 0 (sg b 0)) a 1 ((zup sg a 0 (sg b 0)) b 1)) a 2 ((zup (zup sg a 0 (sg b 0)) a 1 ((zup sg a 0 (sg b 0)) b 1)) b 2)) a 3 ((zup (zup (zup sg a 0 (sg b 0)) a 1 ((zup sg a 0 (sg b 0)) b 1)) a 2 ((zup (zup sg a 0 (sg b 0)) a 1 ((zup sg a 0 (sg b 0)) b 1)) b 2)) b 3)) b 4)) a 5 ((zup (zup (zup (zup (zup sg a 0 (sg b 0)) a 1 ((zup sg a 0 (sg b 0)) b 1)) a 2 ((zup (zup sg a 0 (sg b 0)) a 1 ((zup sg a 0 (sg b 0)) b 1)) b 2)) a 3 ((zup (zup (zup sg a 0 (sg b 0)) a 1 ((zup sg a 0 (sg b 0)) b 1)) a 2 ((zup (zup sg a 0 (sg b 0)) a 1 ((zup sg a 0 (sg b 0)) b 1)) b 2)) b 3)) a 4 ((zup (zup (zup (zup sg a 0 (sg b 0)) a 1 ((zup sg a 0 (sg b 0)) b 1)) a 2 ((zup (zup sg a 0 (sg b 0)) a 1 ((zup sg a 0 (sg b 0)) b 1)) b 2)) a 3 ((zup (zup (zup sg a 0 (sg b 0)) a 1 ((zup sg a 0 (sg b 0)) b 1)) a 2 ((zup (zup sg a 0 (sg b 0)) a 1 ((zup sg a 0 (sg b 0)) b 1)) b 2)) b 3)) b 4)) b 5)) b 6)) a 7 ((zup (zup (zup (zup (zup (zup (zup sg a 0 (sg b 0)) a 1 ((zup sg a 0 (sg b 0)) b 1)) a 2 ((zup (zup sg a 0 (sg b 0)) a 1 ((zup sg a 0 (sg b 0)) b 1)) b 2)) a 3 ((zup (zup (zup sg a 0 (sg b 0)) a 1 ((zup sg a 0 (sg b 0)) b 1)) a 2 ((zup (zup sg a 0 (sg b 0)) a 1 ((zup sg a 0 (sg b 0)) b 1)) b 2)) b 3)) a 4 ((zup (zup (zup (zup sg a 0 (sg b 0)) a 1 ((zup sg a 0 (sg b 0)) b 1)) a 2 ((zup (zup sg a 0 (sg b 0)) a 1 ((zup sg a 0 (sg b 0)) b 1)) b 2)) a 3 ((zup (zup (zup sg a 0 (sg b 0)) a 1 ((zup sg a 0 (sg b 0)) b 1)) a 2 ((zup (zup sg a 0 (sg b 0)) a 1 ((zup sg a 0 (sg b 0)) b 1)) b 2)) b 3)) b 4)) a 5 ((zup (zup (zup (zup (zup sg a 0 (sg b 0)) a 1 ((zup sg a 0 (sg b 0)) b 1)) a 2 ((zup (zup sg a 0 (sg b 0)) a 1 ((zup sg a 0 (sg b 0)) b 1)) b 2)) a 3 ((zup (zup (zup sg a 0 (sg b 0)) a 1 ((zup sg a 0 (sg b 0)) b 1)) a 2 ((zup (zup sg a 0 (sg b 0)) a 1 ((zup sg a 0 (sg b 0)) b 1)) b 2)) b 3)) a 4 ((zup (zup (zup (zup sg a 0 (sg b 0)) a 1 ((zup sg a 0 (sg b 0)) b 1)) a 2 ((zup (zup sg a 0 (sg b 0)) a 1 ((zup sg a 0 (sg b 0)) b 1)) b 2)) a 3 ((zup (zup (zup sg a 0 (sg b 0)) a 1 ((zup sg a 0 (sg b 0)) b 1)) a 2 ((zup (zup sg a 0 (sg b 0)) a 1 ((zup sg a 0 (sg b 0)) b 1)) b 2)) b 3)) b 4)) b 5)) a 6 ((zup (zup (zup (zup (zup (zup sg a 0 (sg b 0)) a 1 ((zup sg a 0 (sg b 0)) b 1)) a 2 ((zup (zup sg a 0 (sg b 0)) a 1 ((zup sg a 0 (sg b 0)) b 1)) b 2)) a 3 ((zup (zup (zup sg a 0 (sg b 0)) a 1 ((zup sg a 0 (sg b 0)) b 1)) a 2 ((zup (zup sg a 0 (sg b 0)) a 1 ((zup sg a 0 (sg b 0)) b 1)) b 2)) b 3)) a 4 ((zup (zup (zup (zup sg a 0 (sg b 0)) a 1 ((zup sg a 0 (sg b 0)) b 1)) a 2 ((zup (zup sg a 0 (sg b 0)) a 1 ((zup sg a 0 (sg b 0)) b 1)) b 2)) a 3 ((zup (zup (zup sg a 0 (sg b 0)) a 1 ((zup sg a 0 (sg b 0)) b 1)) a 2 ((zup (zup sg a 0 (sg b 0)) a 1 ((zup sg a 0 (sg b 0)) b 1)) b 2)) b 3)) b 4)) a 5 ((zup (zup (zup (zup (zup sg a 0 (sg b 0)) a 1 ((zup sg a 0 (sg b 0)) b 1)) a 2 ((zup (zup sg a 0 (sg b 0)) a 1 ((zup sg a 0 (sg b 0)) b 1)) b 2)) a 3 ((zup (zup (zup sg a 0 (sg b 0)) a 1 ((zup sg a 0 (sg b 0)) b 1)) a 2 ((zup (zup sg a 0 (sg b 0)) a 1 ((zup sg a 0 (sg b 0)) b 1)) b 2)) b 3)) a 4 ((zup (zup (zup (zup sg a 0 (sg b 0)) a 1 ((zup sg a 0 (sg b 0)) b 1)) a 2 ((zup (zup sg a 0 (sg b 0)) a 1 ((zup sg a 0 (sg b 0)) b 1)) b 2)) a 3 ((zup (zup (zup sg a 0 (sg b 0)) a 1 ((zup sg a 0 (sg b 0)) b 1)) a 2 ((zup (zup sg a 0 (sg b 0)) a 1 ((zup sg a 0 (sg b 0)) b 1)) b 2)) b 3)) b 4)) b 5)) b 6)) b 7))) a 6]) rfl (zA hb (zA ha (zA hz (zA hb (zA ha (zA hb (zA ha (zA hb (zA ha (zA hb (zA ha (zA hb (zA ha (zA hb (zA ha (zA hb (zA ha (zA hb (zA ha trivial))))))))))))))))))) rfl ?_
  exact ⟨rfl, by simp [hSpB, zup_e, hne]⟩
theorem bkAnc_become_0 : zBk mAnc_become 0 [(1, 0, 1, 0, 0), (1, 1, 1, 0, 0), (5, 1, 0, 0, 0), (6, 1, 0, 1, 0), (1, 0, 1, 0, 0), (1, 1, 1, 0, 0), (5, 1, 1, 0, 1), (6, 1, 1, 0, 1), (1, 0, 1, 0, 0), (1, 1, 1, 0, 0), (5, 1, 2, 0, 2), (6, 1, 2, 0, 2), (1, 0, 1, 0, 0), (1, 1, 1, 0, 0), (5, 1, 3, 0, 3), (6, 1, 3, 0, 3)] = some 32 := by decide +kernel
theorem bdAnc_become_32 : decode mAnc_become.2.2.1 32 = .ok (.return_, 1) := by decide +kernel
theorem cAnc_become {sg : zSig} {a b : Nat} (ha : zOb (zN sg) a 1) (hb : zOb (zN sg) b 1) (hne : b ≠ a) (hz : sg b 0 = 0 ∨ sg b 0 = 1)  : zG mAnc_become 411 (fun rr h' => rr = none ∧ h' = zN (hAnB sg a b)) 0 [(0, .ref a), (1, .ref b)] [] (zN sg) := by
  refine zb_vret bkAnc_become_0 bdAnc_become_32 rfl (h' := zN (zup (zup (zup (zup sg a 0 (sg b 0)) a 1 ((zup sg a 0 (sg b 0)) b 1)) a 2 ((zup (zup sg a 0 (sg b 0)) a 1 ((zup sg a 0 (sg b 0)) b 1)) b 2)) a 3 ((zup (zup (zup sg a 0 (sg b 0)) a 1 ((zup sg a 0 (sg b 0)) b 1)) a 2 ((zup (zup sg a 0 (sg b 0)) a 1 ((zup sg a 0 (sg b 0)) b 1)) b 2)) b 3))) (Ps := [zOb (zN sg) b 1, zOb (zN sg) a 1, (sg b 0) = 0 ∨ (sg b 0) = 1, zOb (zN (zup sg a 0 (sg b 0))) b 1, zOb (zN (zup sg a 0 (sg b 0))) a 1, zOb (zN (zup (zup sg a 0 (sg b 0)) a 1 ((zup sg a 0 (sg b 0)) b 1))) b 1, zOb (zN (zup (zup sg a 0 (sg b 0)) a 1 ((zup sg a 0 (sg b 0)) b 1))) a 1, zOb (zN (zup (zup (zup sg a 0 (sg b 0)) a 1 ((zup sg a 0 (sg b 0)) b 1)) a 2 ((zup (zup sg a 0 (sg b 0)) a 1 ((zup sg a 0 (sg b 0)) b 1)) b 2))) b 1, zOb (zN (zup (zup (zup sg a 0 (sg b 0)) a 1 ((zup sg a 0 (sg b 0)) b 1)) a 2 ((zup (zup sg a 0 (sg b 0)) a 1 ((zup sg a 0 (sg b 0)) b 1)) b 2))) a 1]) rfl (zA hb (zA ha (zA hz (zA hb (zA ha (zA hb (zA ha (zA hb (zA ha trivial))))))))) rfl ?_
  exact ⟨rfl, by simp [hAnB, zup_e, hne]⟩
theorem bkAct_become_0 : zBk mAct_become 0 [(1, 0, 1, 0, 0), (1, 1, 0, 0, 0), (6, 0, 0, 0, 0), (1, 0, 1, 0, 0), (1, 2, 0, 0, 0), (6, 0, 1, 0, 1), (1, 0, 1, 0, 0), (1, 3, 0, 0, 0), (6, 0, 2, 0, 2), (1, 0, 1, 0, 0), (1, 4, 0, 0, 0), (6, 0, 3, 0, 3)] = some 21 := by decide +kernel
theorem bdAct_become_21 : decode mAct_become.2.2.1 21 = .ok (.return_, 1) := by decide +kernel
theorem cAct_become {sg : zSig} {a : Nat} {k x y z : Int32} (ha : zOb (zN sg) a 0)  : zG mAct_become 411 (fun rr h' => rr = none ∧ h' = zN (hAcB sg a k x y z)) 0 [(0, .ref a), (1, .int k), (2, .int x), (3, .int y), (4, .int z)] [] (zN sg) := by
  refine zb_vret bkAct_become_0 bdAct_become_21 rfl (h' := zN (zup (zup (zup (zup sg a 0 k) a 1 x) a 2 y) a 3 z)) (Ps := [zOb (zN sg) a 0, zOb (zN (zup sg a 0 k)) a 0, zOb (zN (zup (zup sg a 0 k) a 1 x)) a 0, zOb (zN (zup (zup (zup sg a 0 k) a 1 x) a 2 y)) a 0]) rfl (zA ha (zA ha (zA ha (zA ha trivial)))) rfl ?_
  exact ⟨rfl, rfl⟩
theorem bkSpa_lettersCome_0 : zBk mSpa_lettersCome 0 [(1, 0, 1, 0, 0), (1, 0, 1, 0, 0), (5, 6, 1, 0, 1), (1, 0, 1, 0, 0), (5, 6, 8, 0, 8), (0, 0, 0, 0, 1), (4, 3, 0, 0, 0), (1, 1, 0, 0, 0), (1, 2, 0, 0, 0)] = some 13 := by decide +kernel
theorem bkSpa_lettersCome_16 : zBk mSpa_lettersCome 16 [(6, 6, 1, 0, 1), (1, 0, 1, 0, 0), (1, 0, 1, 0, 0), (5, 6, 2, 0, 2), (1, 0, 1, 0, 0), (5, 6, 8, 0, 8), (0, 0, 0, 0, 1), (4, 7, 0, 0, 0), (1, 1, 0, 0, 0), (1, 2, 0, 0, 0)] = some 32 := by decide +kernel
theorem bkSpa_lettersCome_35 : zBk mSpa_lettersCome 35 [(6, 6, 2, 0, 2)] = some 38 := by decide +kernel
theorem bdSpa_lettersCome_13 : decode mSpa_lettersCome.2.2.1 13 = .ok (.invokestatic 44, 3) := by decide +kernel
theorem bdSpa_lettersCome_32 : decode mSpa_lettersCome.2.2.1 32 = .ok (.invokestatic 44, 3) := by decide +kernel
theorem bdSpa_lettersCome_38 : decode mSpa_lettersCome.2.2.1 38 = .ok (.return_, 1) := by decide +kernel
theorem cSpa_lettersCome {sg : zSig} {a : Nat} {p m : Int32} (ha : zOb (zN sg) a 6)  : zG mSpa_lettersCome 411 (fun rr h' => rr = none ∧ h' = zN (hSpC sg a p m)) 0 [(0, .ref a), (1, .int p), (2, .int m)] [] (zN sg) := by
  refine zG_run bkSpa_lettersCome_0 (lv' := [(0, .ref a), (1, .int p), (2, .int m)]) (st' := [.int m, .int p, .int ((sg a 8) &&& 1), .int (sg a 1), .ref a]) (h' := zN sg) (Ps := [zOb (zN sg) a 6, zOb (zN sg) a 6]) rfl (zA ha (zA ha trivial)) ?_
  refine zG_calls (As := [.int (sg a 1), .int ((sg a 8) &&& 1), .int p, .int m]) (rest := [.ref a]) (N2 := 411) bdSpa_lettersCome_13 okPla_afterComing lk6_44 (And.intro (by decide) (by decide)) rfl rfl (Nat.le_of_ble_eq_true rfl) (Nat.le_of_ble_eq_true rfl) (Nat.le_refl 411) (Nat.le_refl 411) cPla_afterComing ?_
  rintro rr h' ⟨rfl, rfl⟩ -
  refine zG_run bkSpa_lettersCome_16 (lv' := [(0, .ref a), (1, .int p), (2, .int m)]) (st' := [.int m, .int p, .int (((zup sg a 1 (pOn (sg a 1) ((sg a 8) &&& 1) p m)) a 8) >>> (1 &&& 31)), .int ((zup sg a 1 (pOn (sg a 1) ((sg a 8) &&& 1) p m)) a 2), .ref a]) (h' := zN (zup sg a 1 (pOn (sg a 1) ((sg a 8) &&& 1) p m))) (Ps := [zOb (zN sg) a 6, zOb (zN (zup sg a 1 (pOn (sg a 1) ((sg a 8) &&& 1) p m))) a 6, zOb (zN (zup sg a 1 (pOn (sg a 1) ((sg a 8) &&& 1) p m))) a 6]) rfl (zA ha (zA ha (zA ha trivial))) ?_
  refine zG_calls (As := [.int ((zup sg a 1 (pOn (sg a 1) ((sg a 8) &&& 1) p m)) a 2), .int (((zup sg a 1 (pOn (sg a 1) ((sg a 8) &&& 1) p m)) a 8) >>> (1 &&& 31)), .int p, .int m]) (rest := [.ref a]) (N2 := 411) bdSpa_lettersCome_32 okPla_afterComing lk6_44 (And.intro (by decide) (by decide)) rfl rfl (Nat.le_of_ble_eq_true rfl) (Nat.le_of_ble_eq_true rfl) (Nat.le_refl 411) (Nat.le_refl 411) cPla_afterComing ?_
  rintro rr h' ⟨rfl, rfl⟩ -
  refine zb_vret bkSpa_lettersCome_35 bdSpa_lettersCome_38 rfl (h' := zN (zup (zup sg a 1 (pOn (sg a 1) ((sg a 8) &&& 1) p m)) a 2 (pOn ((zup sg a 1 (pOn (sg a 1) ((sg a 8) &&& 1) p m)) a 2) (((zup sg a 1 (pOn (sg a 1) ((sg a 8) &&& 1) p m)) a 8) >>> (1 &&& 31)) p m))) (Ps := [zOb (zN (zup sg a 1 (pOn (sg a 1) ((sg a 8) &&& 1) p m))) a 6]) rfl (zA ha trivial) rfl ?_
  exact ⟨rfl, by simp [hSpC, zup_e]⟩
theorem bkSpa_lettersGo_0 : zBk mSpa_lettersGo 0 [(1, 0, 1, 0, 0), (1, 0, 1, 0, 0), (5, 6, 1, 0, 1), (1, 1, 0, 0, 0), (1, 2, 0, 0, 0)] = some 7 := by decide +kernel
theorem bkSpa_lettersGo_10 : zBk mSpa_lettersGo 10 [(6, 6, 1, 0, 1), (1, 0, 1, 0, 0), (1, 0, 1, 0, 0), (5, 6, 2, 0, 2), (1, 1, 0, 0, 0), (1, 2, 0, 0, 0)] = some 20 := by decide +kernel
theorem bkSpa_lettersGo_23 : zBk mSpa_lettersGo 23 [(6, 6, 2, 0, 2), (1, 0, 1, 0, 0), (5, 6, 1, 0, 1), (1, 0, 1, 0, 0), (5, 6, 2, 0, 2)] = some 34 := by decide +kernel
theorem bkSpa_lettersGo_42 : zBk mSpa_lettersGo 42 [] = some 42 := by decide +kernel
theorem bkSpa_lettersGo_37 : zBk mSpa_lettersGo 37 [(1, 0, 1, 0, 0), (0, 0, 0, 0, 0), (6, 6, 0, 1, 0)] = some 42 := by decide +kernel
theorem bdSpa_lettersGo_7 : decode mSpa_lettersGo.2.2.1 7 = .ok (.invokestatic 50, 3) := by decide +kernel
theorem bdSpa_lettersGo_20 : decode mSpa_lettersGo.2.2.1 20 = .ok (.invokestatic 50, 3) := by decide +kernel
theorem bdSpa_lettersGo_34 : decode mSpa_lettersGo.2.2.1 34 = .ok (.if_icmp .lt 8, 3) := by decide +kernel
theorem bdSpa_lettersGo_42 : decode mSpa_lettersGo.2.2.1 42 = .ok (.return_, 1) := by decide +kernel
theorem cSpa_lettersGo {sg : zSig} {a : Nat} {p q : Int32} (ha : zOb (zN sg) a 6)  : zG mSpa_lettersGo 411 (fun rr h' => rr = none ∧ h' = zN (hSpG sg a p q)) 0 [(0, .ref a), (1, .int p), (2, .int q)] [] (zN sg) := by
  refine zG_run bkSpa_lettersGo_0 (lv' := [(0, .ref a), (1, .int p), (2, .int q)]) (st' := [.int q, .int p, .int (sg a 1), .ref a]) (h' := zN sg) (Ps := [zOb (zN sg) a 6]) rfl (zA ha trivial) ?_
  refine zG_calls (As := [.int (sg a 1), .int p, .int q]) (rest := [.ref a]) (N2 := 411) bdSpa_lettersGo_7 okPla_afterGoing lk6_50 (And.intro (by decide) (by decide)) rfl rfl (Nat.le_of_ble_eq_true rfl) (Nat.le_of_ble_eq_true rfl) (Nat.le_refl 411) (Nat.le_refl 411) cPla_afterGoing ?_
  rintro rr h' ⟨rfl, rfl⟩ -
  refine zG_run bkSpa_lettersGo_10 (lv' := [(0, .ref a), (1, .int p), (2, .int q)]) (st' := [.int q, .int p, .int ((zup sg a 1 (pBk (sg a 1) p q)) a 2), .ref a]) (h' := zN (zup sg a 1 (pBk (sg a 1) p q))) (Ps := [zOb (zN sg) a 6, zOb (zN (zup sg a 1 (pBk (sg a 1) p q))) a 6]) rfl (zA ha (zA ha trivial)) ?_
  refine zG_calls (As := [.int ((zup sg a 1 (pBk (sg a 1) p q)) a 2), .int p, .int q]) (rest := [.ref a]) (N2 := 411) bdSpa_lettersGo_20 okPla_afterGoing lk6_50 (And.intro (by decide) (by decide)) rfl rfl (Nat.le_of_ble_eq_true rfl) (Nat.le_of_ble_eq_true rfl) (Nat.le_refl 411) (Nat.le_refl 411) cPla_afterGoing ?_
  rintro rr h' ⟨rfl, rfl⟩ -
  refine zb_iclt (tgt := 42) bkSpa_lettersGo_23 bdSpa_lettersGo_34 (by decide) (lv' := [(0, .ref a), (1, .int p), (2, .int q)]) (st' := []) (h' := zN (zup (zup sg a 1 (pBk (sg a 1) p q)) a 2 (pBk ((zup sg a 1 (pBk (sg a 1) p q)) a 2) p q))) (x := (zup (zup sg a 1 (pBk (sg a 1) p q)) a 2 (pBk ((zup sg a 1 (pBk (sg a 1) p q)) a 2) p q)) a 1) (y := (zup (zup sg a 1 (pBk (sg a 1) p q)) a 2 (pBk ((zup sg a 1 (pBk (sg a 1) p q)) a 2) p q)) a 2) (Ps := [zOb (zN (zup sg a 1 (pBk (sg a 1) p q))) a 6, zOb (zN (zup (zup sg a 1 (pBk (sg a 1) p q)) a 2 (pBk ((zup sg a 1 (pBk (sg a 1) p q)) a 2) p q))) a 6, zOb (zN (zup (zup sg a 1 (pBk (sg a 1) p q)) a 2 (pBk ((zup sg a 1 (pBk (sg a 1) p q)) a 2) p q))) a 6]) rfl (zA ha (zA ha (zA ha trivial))) (fun c1 => ?_) (fun c1 => ?_)
  · skip
    refine zb_vret bkSpa_lettersGo_42 bdSpa_lettersGo_42 rfl (h' := zN (zup (zup sg a 1 (pBk (sg a 1) p q)) a 2 (pBk ((zup sg a 1 (pBk (sg a 1) p q)) a 2) p q))) (Ps := []) rfl trivial rfl ?_
    simp [zup_e] at c1; exact ⟨rfl, by unfold hSpG; split <;> first | (exfalso; grind) | simp [zup_e]⟩
  · skip
    refine zb_vret bkSpa_lettersGo_37 bdSpa_lettersGo_42 rfl (h' := zN (zup (zup (zup sg a 1 (pBk (sg a 1) p q)) a 2 (pBk ((zup sg a 1 (pBk (sg a 1) p q)) a 2) p q)) a 0 0)) (Ps := [zOb (zN (zup (zup sg a 1 (pBk (sg a 1) p q)) a 2 (pBk ((zup sg a 1 (pBk (sg a 1) p q)) a 2) p q))) a 6, 0 = 0 ∨ 0 = 1]) rfl (zA ha (zA (Or.inl rfl) trivial)) rfl ?_
    simp [zup_e] at c1; exact ⟨rfl, by unfold hSpG; split <;> first | (exfalso; grind) | simp [zup_e]⟩
theorem bkSpa_lettersMove_0 : zBk mSpa_lettersMove 0 [(1, 1, 0, 0, 0), (1, 0, 1, 0, 0), (5, 6, 1, 0, 1)] = some 5 := by decide +kernel
theorem bkSpa_lettersMove_50 : zBk mSpa_lettersMove 50 [(1, 0, 1, 0, 0), (1, 0, 1, 0, 0), (5, 6, 1, 0, 1), (1, 0, 1, 0, 0), (5, 6, 8, 0, 8), (0, 0, 0, 0, 1), (4, 3, 0, 0, 0), (1, 1, 0, 0, 0), (1, 2, 0, 0, 0), (1, 3, 0, 0, 0)] = some 64 := by decide +kernel
theorem bkSpa_lettersMove_67 : zBk mSpa_lettersMove 67 [(6, 6, 1, 0, 1), (1, 0, 1, 0, 0), (1, 0, 1, 0, 0), (5, 6, 2, 0, 2), (1, 0, 1, 0, 0), (5, 6, 8, 0, 8), (0, 0, 0, 0, 1), (4, 7, 0, 0, 0), (1, 1, 0, 0, 0), (1, 2, 0, 0, 0), (1, 3, 0, 0, 0)] = some 84 := by decide +kernel
theorem bkSpa_lettersMove_87 : zBk mSpa_lettersMove 87 [(6, 6, 2, 0, 2), (0, 0, 0, 0, 0)] = some 91 := by decide +kernel
theorem bkSpa_lettersMove_8 : zBk mSpa_lettersMove 8 [(1, 0, 1, 0, 0), (5, 6, 2, 0, 2), (1, 2, 0, 0, 0)] = some 13 := by decide +kernel
theorem bkSpa_lettersMove_16 : zBk mSpa_lettersMove 16 [(1, 1, 0, 0, 0), (1, 2, 0, 0, 0), (1, 3, 0, 0, 0)] = some 19 := by decide +kernel
theorem bkSpa_lettersMove_22 : zBk mSpa_lettersMove 22 [(1, 1, 0, 0, 0), (4, 1, 0, 0, 0), (2, 4, 0, 0, 0), (1, 0, 1, 0, 0), (18, 0, 0, 0, 0), (5, 6, 1, 0, 1), (1, 4, 0, 0, 0), (4, 0, 0, 0, 0), (6, 6, 1, 0, 1), (1, 0, 1, 0, 0), (18, 0, 0, 0, 0), (5, 6, 2, 0, 2), (1, 4, 0, 0, 0), (4, 0, 0, 0, 0), (6, 6, 2, 0, 2), (0, 0, 0, 0, 1)] = some 49 := by decide +kernel
theorem bdSpa_lettersMove_5 : decode mSpa_lettersMove.2.2.1 5 = .ok (.if_icmp .gt 45, 3) := by decide +kernel
theorem bdSpa_lettersMove_13 : decode mSpa_lettersMove.2.2.1 13 = .ok (.if_icmp .gt 37, 3) := by decide +kernel
theorem bdSpa_lettersMove_19 : decode mSpa_lettersMove.2.2.1 19 = .ok (.invokestatic 54, 3) := by decide +kernel
theorem bdSpa_lettersMove_49 : decode mSpa_lettersMove.2.2.1 49 = .ok (.ireturn, 1) := by decide +kernel
theorem bdSpa_lettersMove_64 : decode mSpa_lettersMove.2.2.1 64 = .ok (.invokestatic 57, 3) := by decide +kernel
theorem bdSpa_lettersMove_84 : decode mSpa_lettersMove.2.2.1 84 = .ok (.invokestatic 57, 3) := by decide +kernel
theorem bdSpa_lettersMove_91 : decode mSpa_lettersMove.2.2.1 91 = .ok (.ireturn, 1) := by decide +kernel
theorem cSpa_lettersMove {sg : zSig} {a : Nat} {p q r : Int32} (ha : zOb (zN sg) a 6)  : zG mSpa_lettersMove 411 (fun rr h' => rr = some (.int (if p ≤ sg a 1 ∧ sg a 2 ≤ q then 1 else 0)) ∧ h' = zN (hSpM sg a p q r)) 0 [(0, .ref a), (1, .int p), (2, .int q), (3, .int r)] [] (zN sg) := by
  refine zb_icgt (tgt := 50) bkSpa_lettersMove_0 bdSpa_lettersMove_5 (by decide) (lv' := [(0, .ref a), (1, .int p), (2, .int q), (3, .int r)]) (st' := []) (h' := zN sg) (x := p) (y := sg a 1) (Ps := [zOb (zN sg) a 6]) rfl (zA ha trivial) (fun c1 => ?_) (fun c1 => ?_)
  · skip
    refine zG_run bkSpa_lettersMove_50 (lv' := [(0, .ref a), (1, .int p), (2, .int q), (3, .int r)]) (st' := [.int r, .int q, .int p, .int ((sg a 8) &&& 1), .int (sg a 1), .ref a]) (h' := zN sg) (Ps := [zOb (zN sg) a 6, zOb (zN sg) a 6]) rfl (zA ha (zA ha trivial)) ?_
    refine zG_calls (As := [.int (sg a 1), .int ((sg a 8) &&& 1), .int p, .int q, .int r]) (rest := [.ref a]) (N2 := 411) bdSpa_lettersMove_64 okPla_leftByMove lk6_57 (And.intro (by decide) (by decide)) rfl rfl (Nat.le_of_ble_eq_true rfl) (Nat.le_of_ble_eq_true rfl) (Nat.le_refl 411) (Nat.le_refl 411) cPla_leftByMove ?_
    rintro rr h' ⟨rfl, rfl⟩ -
    refine zG_run bkSpa_lettersMove_67 (lv' := [(0, .ref a), (1, .int p), (2, .int q), (3, .int r)]) (st' := [.int r, .int q, .int p, .int (((zup sg a 1 (pLb (sg a 1) ((sg a 8) &&& 1) p q r)) a 8) >>> (1 &&& 31)), .int ((zup sg a 1 (pLb (sg a 1) ((sg a 8) &&& 1) p q r)) a 2), .ref a]) (h' := zN (zup sg a 1 (pLb (sg a 1) ((sg a 8) &&& 1) p q r))) (Ps := [zOb (zN sg) a 6, zOb (zN (zup sg a 1 (pLb (sg a 1) ((sg a 8) &&& 1) p q r))) a 6, zOb (zN (zup sg a 1 (pLb (sg a 1) ((sg a 8) &&& 1) p q r))) a 6]) rfl (zA ha (zA ha (zA ha trivial))) ?_
    refine zG_calls (As := [.int ((zup sg a 1 (pLb (sg a 1) ((sg a 8) &&& 1) p q r)) a 2), .int (((zup sg a 1 (pLb (sg a 1) ((sg a 8) &&& 1) p q r)) a 8) >>> (1 &&& 31)), .int p, .int q, .int r]) (rest := [.ref a]) (N2 := 411) bdSpa_lettersMove_84 okPla_leftByMove lk6_57 (And.intro (by decide) (by decide)) rfl rfl (Nat.le_of_ble_eq_true rfl) (Nat.le_of_ble_eq_true rfl) (Nat.le_refl 411) (Nat.le_refl 411) cPla_leftByMove ?_
    rintro rr h' ⟨rfl, rfl⟩ -
    refine zb_zret bkSpa_lettersMove_87 bdSpa_lettersMove_91 rfl (x := 0) (h' := zN (zup (zup sg a 1 (pLb (sg a 1) ((sg a 8) &&& 1) p q r)) a 2 (pLb ((zup sg a 1 (pLb (sg a 1) ((sg a 8) &&& 1) p q r)) a 2) (((zup sg a 1 (pLb (sg a 1) ((sg a 8) &&& 1) p q r)) a 8) >>> (1 &&& 31)) p q r))) (Ps := [zOb (zN (zup sg a 1 (pLb (sg a 1) ((sg a 8) &&& 1) p q r))) a 6]) rfl (zA ha trivial) rfl (Or.inl rfl) ?_
    exact ⟨by grind, by unfold hSpM; split <;> first | (exfalso; grind) | simp [zup_e]⟩
  · skip
    refine zb_icgt (tgt := 50) bkSpa_lettersMove_8 bdSpa_lettersMove_13 (by decide) (lv' := [(0, .ref a), (1, .int p), (2, .int q), (3, .int r)]) (st' := []) (h' := zN sg) (x := sg a 2) (y := q) (Ps := [zOb (zN sg) a 6]) rfl (zA ha trivial) (fun c2 => ?_) (fun c2 => ?_)
    · skip
      refine zG_run bkSpa_lettersMove_50 (lv' := [(0, .ref a), (1, .int p), (2, .int q), (3, .int r)]) (st' := [.int r, .int q, .int p, .int ((sg a 8) &&& 1), .int (sg a 1), .ref a]) (h' := zN sg) (Ps := [zOb (zN sg) a 6, zOb (zN sg) a 6]) rfl (zA ha (zA ha trivial)) ?_
      refine zG_calls (As := [.int (sg a 1), .int ((sg a 8) &&& 1), .int p, .int q, .int r]) (rest := [.ref a]) (N2 := 411) bdSpa_lettersMove_64 okPla_leftByMove lk6_57 (And.intro (by decide) (by decide)) rfl rfl (Nat.le_of_ble_eq_true rfl) (Nat.le_of_ble_eq_true rfl) (Nat.le_refl 411) (Nat.le_refl 411) cPla_leftByMove ?_
      rintro rr h' ⟨rfl, rfl⟩ -
      refine zG_run bkSpa_lettersMove_67 (lv' := [(0, .ref a), (1, .int p), (2, .int q), (3, .int r)]) (st' := [.int r, .int q, .int p, .int (((zup sg a 1 (pLb (sg a 1) ((sg a 8) &&& 1) p q r)) a 8) >>> (1 &&& 31)), .int ((zup sg a 1 (pLb (sg a 1) ((sg a 8) &&& 1) p q r)) a 2), .ref a]) (h' := zN (zup sg a 1 (pLb (sg a 1) ((sg a 8) &&& 1) p q r))) (Ps := [zOb (zN sg) a 6, zOb (zN (zup sg a 1 (pLb (sg a 1) ((sg a 8) &&& 1) p q r))) a 6, zOb (zN (zup sg a 1 (pLb (sg a 1) ((sg a 8) &&& 1) p q r))) a 6]) rfl (zA ha (zA ha (zA ha trivial))) ?_
      refine zG_calls (As := [.int ((zup sg a 1 (pLb (sg a 1) ((sg a 8) &&& 1) p q r)) a 2), .int (((zup sg a 1 (pLb (sg a 1) ((sg a 8) &&& 1) p q r)) a 8) >>> (1 &&& 31)), .int p, .int q, .int r]) (rest := [.ref a]) (N2 := 411) bdSpa_lettersMove_84 okPla_leftByMove lk6_57 (And.intro (by decide) (by decide)) rfl rfl (Nat.le_of_ble_eq_true rfl) (Nat.le_of_ble_eq_true rfl) (Nat.le_refl 411) (Nat.le_refl 411) cPla_leftByMove ?_
      rintro rr h' ⟨rfl, rfl⟩ -
      refine zb_zret bkSpa_lettersMove_87 bdSpa_lettersMove_91 rfl (x := 0) (h' := zN (zup (zup sg a 1 (pLb (sg a 1) ((sg a 8) &&& 1) p q r)) a 2 (pLb ((zup sg a 1 (pLb (sg a 1) ((sg a 8) &&& 1) p q r)) a 2) (((zup sg a 1 (pLb (sg a 1) ((sg a 8) &&& 1) p q r)) a 8) >>> (1 &&& 31)) p q r))) (Ps := [zOb (zN (zup sg a 1 (pLb (sg a 1) ((sg a 8) &&& 1) p q r))) a 6]) rfl (zA ha trivial) rfl (Or.inl rfl) ?_
      exact ⟨by grind, by unfold hSpM; split <;> first | (exfalso; grind) | simp [zup_e]⟩
    · skip
      refine zG_run bkSpa_lettersMove_16 (lv' := [(0, .ref a), (1, .int p), (2, .int q), (3, .int r)]) (st' := [.int r, .int q, .int p]) (h' := zN sg) (Ps := []) rfl trivial ?_
      refine zG_calls (As := [.int p, .int q, .int r]) (rest := []) (N2 := 411) bdSpa_lettersMove_19 okPla_landing lk6_54 (And.intro (by decide) (by decide)) rfl rfl (Nat.le_of_ble_eq_true rfl) (Nat.le_of_ble_eq_true rfl) (Nat.le_refl 411) (Nat.le_refl 411) cPla_landing ?_
      rintro rr h' ⟨rfl, rfl⟩ -
      refine zb_zret bkSpa_lettersMove_22 bdSpa_lettersMove_49 rfl (x := 1) (h' := zN (zup (zup sg a 1 ((sg a 1) + ((pLd p q r) - p))) a 2 (((zup sg a 1 ((sg a 1) + ((pLd p q r) - p))) a 2) + ((pLd p q r) - p)))) (Ps := [zOb (zN sg) a 6, zOb (zN sg) a 6, zOb (zN (zup sg a 1 ((sg a 1) + ((pLd p q r) - p)))) a 6, zOb (zN (zup sg a 1 ((sg a 1) + ((pLd p q r) - p)))) a 6]) rfl (zA ha (zA ha (zA ha (zA ha trivial)))) rfl (Or.inr rfl) ?_
      exact ⟨by grind, by unfold hSpM; split <;> first | (exfalso; grind) | simp [zup_e]⟩
theorem bkAnc_lettersGo_0 : zBk mAnc_lettersGo 0 [(1, 1, 0, 0, 0), (1, 0, 1, 0, 0), (5, 1, 1, 0, 1)] = some 5 := by decide +kernel
theorem bkAnc_lettersGo_26 : zBk mAnc_lettersGo 26 [(1, 0, 1, 0, 0), (1, 0, 1, 0, 0), (5, 1, 1, 0, 1), (1, 1, 0, 0, 0), (1, 2, 0, 0, 0)] = some 33 := by decide +kernel
theorem bkAnc_lettersGo_36 : zBk mAnc_lettersGo 36 [(6, 1, 1, 0, 1)] = some 39 := by decide +kernel
theorem bkAnc_lettersGo_8 : zBk mAnc_lettersGo 8 [(1, 0, 1, 0, 0), (5, 1, 1, 0, 1), (1, 2, 0, 0, 0)] = some 13 := by decide +kernel
theorem bkAnc_lettersGo_16 : zBk mAnc_lettersGo 16 [(1, 0, 1, 0, 0), (18, 0, 0, 0, 0), (5, 1, 3, 0, 3), (0, 0, 0, 0, 1), (4, 0, 0, 0, 0), (6, 1, 3, 0, 3), (1, 0, 1, 0, 0), (1, 0, 1, 0, 0), (5, 1, 1, 0, 1), (1, 1, 0, 0, 0), (1, 2, 0, 0, 0)] = some 33 := by decide +kernel
theorem bdAnc_lettersGo_5 : decode mAnc_lettersGo.2.2.1 5 = .ok (.if_icmp .ge 21, 3) := by decide +kernel
theorem bdAnc_lettersGo_13 : decode mAnc_lettersGo.2.2.1 13 = .ok (.if_icmp .ge 13, 3) := by decide +kernel
theorem bdAnc_lettersGo_33 : decode mAnc_lettersGo.2.2.1 33 = .ok (.invokestatic 23, 3) := by decide +kernel
theorem bdAnc_lettersGo_39 : decode mAnc_lettersGo.2.2.1 39 = .ok (.return_, 1) := by decide +kernel
theorem cAnc_lettersGo {sg : zSig} {a : Nat} {p q : Int32} (ha : zOb (zN sg) a 1)  : zG mAnc_lettersGo 411 (fun rr h' => rr = none ∧ h' = zN (hAnG sg a p q)) 0 [(0, .ref a), (1, .int p), (2, .int q)] [] (zN sg) := by
  refine zb_icge (tgt := 26) bkAnc_lettersGo_0 bdAnc_lettersGo_5 (by decide) (lv' := [(0, .ref a), (1, .int p), (2, .int q)]) (st' := []) (h' := zN sg) (x := p) (y := sg a 1) (Ps := [zOb (zN sg) a 1]) rfl (zA ha trivial) (fun c1 => ?_) (fun c1 => ?_)
  · skip
    refine zG_run bkAnc_lettersGo_26 (lv' := [(0, .ref a), (1, .int p), (2, .int q)]) (st' := [.int q, .int p, .int (sg a 1), .ref a]) (h' := zN sg) (Ps := [zOb (zN sg) a 1]) rfl (zA ha trivial) ?_
    refine zG_calls (As := [.int (sg a 1), .int p, .int q]) (rest := [.ref a]) (N2 := 411) bdAnc_lettersGo_33 okPla_afterGoing lk1_23 (And.intro (by decide) (by decide)) rfl rfl (Nat.le_of_ble_eq_true rfl) (Nat.le_of_ble_eq_true rfl) (Nat.le_refl 411) (Nat.le_refl 411) cPla_afterGoing ?_
    rintro rr h' ⟨rfl, rfl⟩ -
    refine zb_vret bkAnc_lettersGo_36 bdAnc_lettersGo_39 rfl (h' := zN (zup sg a 1 (pBk (sg a 1) p q))) (Ps := [zOb (zN sg) a 1]) rfl (zA ha trivial) rfl ?_
    exact ⟨rfl, by unfold hAnG; split <;> first | (exfalso; grind) | simp [zup_e]⟩
  · skip
    refine zb_icge (tgt := 26) bkAnc_lettersGo_8 bdAnc_lettersGo_13 (by decide) (lv' := [(0, .ref a), (1, .int p), (2, .int q)]) (st' := []) (h' := zN sg) (x := sg a 1) (y := q) (Ps := [zOb (zN sg) a 1]) rfl (zA ha trivial) (fun c2 => ?_) (fun c2 => ?_)
    · skip
      refine zG_run bkAnc_lettersGo_26 (lv' := [(0, .ref a), (1, .int p), (2, .int q)]) (st' := [.int q, .int p, .int (sg a 1), .ref a]) (h' := zN sg) (Ps := [zOb (zN sg) a 1]) rfl (zA ha trivial) ?_
      refine zG_calls (As := [.int (sg a 1), .int p, .int q]) (rest := [.ref a]) (N2 := 411) bdAnc_lettersGo_33 okPla_afterGoing lk1_23 (And.intro (by decide) (by decide)) rfl rfl (Nat.le_of_ble_eq_true rfl) (Nat.le_of_ble_eq_true rfl) (Nat.le_refl 411) (Nat.le_refl 411) cPla_afterGoing ?_
      rintro rr h' ⟨rfl, rfl⟩ -
      refine zb_vret bkAnc_lettersGo_36 bdAnc_lettersGo_39 rfl (h' := zN (zup sg a 1 (pBk (sg a 1) p q))) (Ps := [zOb (zN sg) a 1]) rfl (zA ha trivial) rfl ?_
      exact ⟨rfl, by unfold hAnG; split <;> first | (exfalso; grind) | simp [zup_e]⟩
    · skip
      refine zG_run bkAnc_lettersGo_16 (lv' := [(0, .ref a), (1, .int p), (2, .int q)]) (st' := [.int q, .int p, .int ((zup sg a 3 ((sg a 3) + 1)) a 1), .ref a]) (h' := zN (zup sg a 3 ((sg a 3) + 1))) (Ps := [zOb (zN sg) a 1, zOb (zN sg) a 1, zOb (zN (zup sg a 3 ((sg a 3) + 1))) a 1]) rfl (zA ha (zA ha (zA ha trivial))) ?_
      refine zG_calls (As := [.int ((zup sg a 3 ((sg a 3) + 1)) a 1), .int p, .int q]) (rest := [.ref a]) (N2 := 411) bdAnc_lettersGo_33 okPla_afterGoing lk1_23 (And.intro (by decide) (by decide)) rfl rfl (Nat.le_of_ble_eq_true rfl) (Nat.le_of_ble_eq_true rfl) (Nat.le_refl 411) (Nat.le_refl 411) cPla_afterGoing ?_
      rintro rr h' ⟨rfl, rfl⟩ -
      refine zb_vret bkAnc_lettersGo_36 bdAnc_lettersGo_39 rfl (h' := zN (zup (zup sg a 3 ((sg a 3) + 1)) a 1 (pBk ((zup sg a 3 ((sg a 3) + 1)) a 1) p q))) (Ps := [zOb (zN (zup sg a 3 ((sg a 3) + 1))) a 1]) rfl (zA ha trivial) rfl ?_
      exact ⟨rfl, by unfold hAnG; split <;> first | (exfalso; grind) | simp [zup_e]⟩
