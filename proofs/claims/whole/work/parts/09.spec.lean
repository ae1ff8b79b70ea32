/-! the reference, method by method, as functions of its state (Ms) -/
theorem mI_pI (S : Ms) (f g : Nat) (v : Int32) : mI (pI S f v) g = if g = f then v else mI S g := Eq.trans rfl rfl
theorem mI_pT (S : Ms) (f j g : Nat) (v : Int32) : mI (pT S f j v) g = mI S g := Eq.trans rfl rfl
theorem mI_pJ (S : Ms) (f j g : Nat) (v : Int64) : mI (pJ S f j v) g = mI S g := Eq.trans rfl rfl
theorem mT_pI (S : Ms) (f g i : Nat) (v : Int32) : mT (pI S f v) g i = mT S g i := Eq.trans rfl rfl
theorem mT_pT (S : Ms) (f j g i : Nat) (v : Int32) : mT (pT S f j v) g i = if g = f ∧ i = j then v else mT S g i := Eq.trans rfl rfl
theorem mT_pJ (S : Ms) (f j g i : Nat) (v : Int64) : mT (pJ S f j v) g i = mT S g i := Eq.trans rfl rfl
theorem mJ_pI (S : Ms) (f g i : Nat) (v : Int32) : mJ (pI S f v) g i = mJ S g i := Eq.trans rfl rfl
theorem mJ_pT (S : Ms) (f j g i : Nat) (v : Int32) : mJ (pT S f j v) g i = mJ S g i := Eq.trans rfl rfl
theorem mJ_pJ (S : Ms) (f j g i : Nat) (v : Int64) : mJ (pJ S f j v) g i = if g = f ∧ i = j then v else mJ S g i := Eq.trans rfl rfl
def tn (v : Int32) : Nat := v.toInt.toNat
theorem tn_nI {n : Nat} (h : n < 2147483648) : tn (nI n) = n := by unfold tn; rw [nI_int h]; omega
theorem inN_tn {v : Int32} {n : Nat} (h : inN v n = true) : v = nI (tn v) ∧ tn v < n ∧ tn v < 2147483648 := by
  obtain ⟨j, rfl, h1, h2⟩ := inN_ex h
  rw [tn_nI h2]
  exact ⟨rfl, h1, h2⟩
theorem inx_v {v : Int32} {n : Nat} (h : inN v n = true) : inx v (tn v) n := by
  obtain ⟨h1, h2, h3⟩ := inN_tn h
  have h4 : (nI (tn v)).toNatClampNeg = tn v := nI_clamp h3
  have h5 : ¬ nI (tn v) < 0 := nI_pos h3
  rw [← h1] at h4 h5
  exact ⟨h4, h5, h2⟩
theorem inx_e {v : Int32} {j n : Nat} (e : v = nI j) (h : j < n) (hn : n ≤ 2147483648) : inx v j n := by rw [e]; exact inx_n h hn
def nA (S : Ms) : Nat := tn (mI S 453)
def nL (S : Ms) : Nat := tn (mI S 468)
def nR (S : Ms) : Nat := tn (mI S 476)
def okV (v : Int64) : Bool := inL v 0 1000000000000
/-- LOWEST of a name, as the first k asks tell it -/
def lowF (S : Ms) (n : Int32) : Nat → Int32
  | 0 => mT S 451 (tn n)
  | k + 1 => if mT S 454 k = n ∧ mT S 455 k = mT S 450 (tn n) ∧ mT S 463 k = 0 ∧ mT S 456 k < lowF S n k then mT S 456 k else lowF S n k
def lowS (S : Ms) (n : Int32) : Int32 := lowF S n (nA S)
def usedUp (S : Ms) (n : Int32) : Bool := decide (lowS S n + mI S 448 ≤ mT S 451 (tn n))
def sendF (S : Ms) (ask : Int32) (ans : Bool) (v : Int64) : Ms :=
  if mI S 485 ≠ 0 then S
  else if mI S 468 = 120 then pI (pI S 486 (mI S 486 + 1)) 483 (mI S 483 + 1)
  else pI (pT (pJ (pT (pT (pT (pI S 486 (mI S 486 + 1)) 469 (nL S) ask) 470 (nL S) (bi ans)) 471 (nL S) (if ans then -1 else lowS S (mT S 454 (tn ask)))) 472 (nL S) v) 473 (nL S) 0) 468 (mI S 468 + 1)
def newAskF (S : Ms) (n sv kind a b t amt far : Int32) : Ms :=
  pT (pT (pT (pT (pT (pT (pT (pT (pT (pT (pT (pT (pT (pI S 453 (mI S 453 + 1)) 454 (nA S) n) 455 (nA S) (mT S 450 (tn n))) 456 (nA S) (mT S 451 (tn n))) 451 (tn n) (mT S 451 (tn n) + 1)) 457 (nA S) sv) 458 (nA S) kind) 459 (nA S) a) 460 (nA S) b) 461 (nA S) t) 462 (nA S) amt) 463 (nA S) 0) 465 (nA S) far) 466 (nA S) (-1)
def fnd (S : Ms) (o num : Int32) : Option Nat := (List.range (nR S)).find? (fun k => decide (mT S 477 k = o ∧ mT S 478 k = num))
def oI : Option Nat → Int32
  | none => -1
  | some k => nI k
def putAt (S : Ms) (k : Nat) (o num st : Int32) (ans : Int64) (own : Int32) : Ms := pT (pJ (pT (pT (pT S 477 k o) 478 k num) 479 k st) 480 k ans) 481 k own
def putRecF (S : Ms) (o num st : Int32) (ans : Int64) (own : Int32) : Ms :=
  match fnd S o num with
  | some k => putAt S k o num st ans own
  | none => putAt (pI S 476 (mI S 476 + 1)) (nR S) o num st ans own
/-- record k is put at the place l -/
def recTo (S : Ms) (l k : Nat) : Ms := pT (pJ (pT (pT (pT S 477 l (mT S 477 k)) 478 l (mT S 478 k)) 479 l (mT S 479 k)) 480 l (mJ S 480 k)) 481 l (mT S 481 k)
def fgF (S : Ms) (o below : Int32) : Nat → Ms × Nat
  | 0 => (S, 0)
  | k + 1 => if mT (fgF S o below k).1 477 k ≠ o ∨ below ≤ mT (fgF S o below k).1 478 k then (recTo (fgF S o below k).1 (fgF S o below k).2 k, (fgF S o below k).2 + 1) else fgF S o below k
def forgetF (S : Ms) (o below : Int32) : Ms := pI (fgF S o below (nR S)).1 476 (nI (fgF S o below (nR S)).2)
def goneF (S : Ms) (o below : Int32) : Nat := nR S - (fgF S o below (nR S)).2
def doneF (S : Ms) (o ask : Int32) (v : Int64) : Ms := sendF (putRecF S o (mT S 456 (tn ask)) 1 v (-1)) ask true v
def cancelA (S : Ms) (o ask : Int32) : Int64 :=
  if mT S 462 (tn ask) = mT S 456 (tn ask) ∨ mT S 462 (tn ask) < mT S 475 (tn o) then 0 else
  match fnd S o (mT S 462 (tn ask)) with
  | some r => if mT S 479 r = 1 then 0 else if mT S 479 r = 2 then 2 else if mT S 475 (tn o) + mI S 448 ≤ mT S 462 (tn ask) then 3 else 1
  | none => if mT S 475 (tn o) + mI S 448 ≤ mT S 462 (tn ask) then 3 else 1
def cancelF (S : Ms) (o ask : Int32) : Ms :=
  doneF (if cancelA S o ask = 1 then putRecF S o (mT S 462 (tn ask)) 3 0 (-1) else S) o ask (cancelA S o ask)
def letF (S : Ms) (sv ask : Int32) (a : Int32) : Bool :=
  if mT S 458 (tn ask) = 1 then decide (5 < mT S 454 (tn ask)) || okV (mJ S 452 (tn a) + (mT S 462 (tn ask)).toInt64)
  else if mT S 458 (tn ask) = 2 then decide (a = 6 * sv + mT S 460 (tn ask)) || (okV (mJ S 452 (tn a) - (mT S 462 (tn ask)).toInt64) && okV (mJ S 452 (tn (6 * sv + mT S 460 (tn ask))) + (mT S 462 (tn ask)).toInt64))
  else okV (mJ S 452 (tn a) - (mT S 462 (tn ask)).toInt64) && (decide (mI S 453 < 300) && !usedUp S (6 + sv))
def movedF (S : Ms) (sv ask : Int32) (a : Int32) : Ms :=
  let by_ := (mT S 462 (tn ask)).toInt64
  let S1 := pT S 467 (tn ask) 1
  let S2 := pJ S1 452 (tn a) (mJ S1 452 (tn a) + (if mT S 458 (tn ask) = 1 then by_ else 0 - by_))
  pJ S2 452 (tn (6 * sv + mT S 460 (tn ask))) (mJ S2 452 (tn (6 * sv + mT S 460 (tn ask))) + (if mT S 458 (tn ask) = 2 then by_ else 0))
def farF (S : Ms) (sv o ask : Int32) : Ms :=
  let S4 := newAskF S (6 + sv) (mT S 461 (tn ask)) 1 (mT S 460 (tn ask)) 0 0 (mT S 462 (tn ask)) ask
  let S5 := pT S4 466 (tn ask) (mI S 453)
  let S6 := putRecF S5 o (mT S5 456 (tn ask)) 2 0 (mI S 453)
  sendF S6 (mI S 453) false 0
def changeF (S : Ms) (sv o ask a : Int32) : Ms :=
  if letF S sv ask a = false then doneF S o ask (-1)
  else if mT S 458 (tn ask) ≠ 3 then doneF (movedF S sv ask a) o ask (mJ (movedF S sv ask a) 452 (tn a))
  else farF (movedF S sv ask a) sv o ask
def actF (S : Ms) (sv o ask : Int32) : Ms :=
  if mT S 458 (tn ask) = 0 then sendF S ask true (mJ S 452 (tn (6 * sv + mT S 459 (tn ask))))
  else if mT S 458 (tn ask) = 4 then cancelF S o ask
  else changeF S sv o ask (6 * sv + mT S 459 (tn ask))
def work2 (S : Ms) (sv o ask : Int32) : Ms :=
  match fnd S o (mT S 456 (tn ask)) with
  | some r => if mT S 479 r ≠ 2 then sendF S ask true (if mT S 479 r = 1 then mJ S 480 r else -2)
      else if mT S 463 (tn (mT S 481 r)) = 0 then sendF S (mT S 481 r) false 0 else S
  | none => actF S sv o ask
/-- the life, then LOW, as the letter tells them -/
def learnL (S : Ms) (o ask : Int32) : Ms := if mT S 474 (tn o) < mT S 455 (tn ask) then forgetF (pT (pT S 474 (tn o) (mT S 455 (tn ask))) 475 (tn o) 1) o 2147483647 else S
def learnW (S : Ms) (o low : Int32) : Ms := if mT S 475 (tn o) < low then forgetF (pT S 475 (tn o) low) o low else S
def workF (S : Ms) (sv ask low : Int32) (up : Bool) : Ms :=
  let o := 10 * sv + mT S 454 (tn ask)
  if mT S 455 (tn ask) < mT S 474 (tn o) then (if up then S else sendF S ask true (-3)) else
  let S2 := learnW (learnL S o ask) o low
  if up = true ∨ mT S2 456 (tn ask) < mT S2 475 (tn o) then S2 else work2 S2 sv o ask
def thruF (S1 : Ms) (sv own : Int32) : Ms :=
  match fnd S1 (10 * sv + mT S1 454 (tn (mT S1 465 (tn own)))) (mT S1 456 (tn (mT S1 465 (tn own)))) with
  | some r => if mT S1 479 r = 2 ∧ mT S1 481 r = own then
      sendF (pJ (pT S1 479 r 1) 480 r (mJ S1 452 (tn (6 * sv + mT S1 459 (tn (mT S1 465 (tn own))))))) (mT S1 465 (tn own)) true (mJ S1 452 (tn (6 * sv + mT S1 459 (tn (mT S1 465 (tn own)))))) else S1
  | none => S1
def throughF (S : Ms) (sv own : Int32) (v : Int64) : Ms :=
  if mT S 463 (tn own) ≠ 0 then S else thruF (pJ (pT S 463 (tn own) 1) 464 (tn own) v) sv own
def hearF (S : Ms) (ask : Int32) (v : Int64) : Ms :=
  if mT S 463 (tn ask) = 0 then pJ (pT S 463 (tn ask) (if v = -3 ∧ mI S 487 ≠ 0 then 2 else 1)) 464 (tn ask) v else S
def endOfL (S : Ms) (ask : Int32) (ans : Bool) : Int32 := if ans then mT S 454 (tn ask) else 6 + mT S 457 (tn ask)
def comes1 (S : Ms) (ask : Int32) (ans : Bool) (low : Int32) (v : Int64) (bent : Bool) (moment : Int32) : Ms :=
  if ¬ (0 < moment ∧ bent = false) then S
  else if ans = false then workF S (mT S 457 (tn ask)) ask low (decide (moment = 1))
  else if 5 < mT S 454 (tn ask) then (if 1 < moment then throughF S (mT S 454 (tn ask) - 6) ask v else S)
  else hearF S ask v
def comesF (S : Ms) (ask : Int32) (ans : Bool) (low : Int32) (v : Int64) (bent : Bool) (moment : Int32) : Ms :=
  if mT S 449 (tn (endOfL S ask ans)) ≠ 0 then S else
  let S2 := pI (comes1 (pI S 485 (bi (decide (moment < 3)))) ask ans low v bent moment) 485 0
  if moment < 3 then pI (pT S2 449 (tn (endOfL S ask ans)) 1) 484 (mI S2 484 + 1) else S2
def letTo (S : Ms) (k : Nat) : Ms := pT (pJ (pT (pT (pT S 469 k (mT S 469 (k + 1))) 470 k (mT S 470 (k + 1))) 471 k (mT S 471 (k + 1))) 472 k (mJ S 472 (k + 1))) 473 k (mT S 473 (k + 1))
def rmF (S : Ms) (i : Nat) : Nat → Ms
  | 0 => S
  | m + 1 => letTo (rmF S i m) (i + m)
def removeF (S : Ms) (i : Nat) : Ms := rmF (pI S 468 (mI S 468 - 1)) i (nL S - 1 - i)
def bringsF (S : Ms) (i : Nat) (moment : Int32) : Ms :=
  let S1 := pI S 487 (bi (decide (mT S 470 i ≠ 0 ∧ mJ S 472 i = -3)))
  let S2 := removeF S1 i
  let S3 := pI (pI S2 482 (mI S2 482 + 1)) 486 0
  comesF S3 (mT S 469 i) (decide (mT S 470 i ≠ 0)) (mT S 471 i) (mJ S 472 i) (decide (mT S 473 i ≠ 0)) moment
