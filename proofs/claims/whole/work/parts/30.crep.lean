/-! the class's state in the typed heap -/
theorem hK_sI (h : Hp) (f a : Nat) (v : Int32) : hK (sI h f a v) = hK h := Eq.trans rfl rfl
theorem hN_sI (h : Hp) (f a : Nat) (v : Int32) : hN (sI h f a v) = hN h := Eq.trans rfl rfl
theorem hJ_sI (h : Hp) (f a : Nat) (v : Int32) : hJ (sI h f a v) = hJ h := Eq.trans rfl rfl
theorem hR_sI (h : Hp) (f a : Nat) (v : Int32) : hR (sI h f a v) = hR h := Eq.trans rfl rfl
theorem aI_sI (h : Hp) (f a : Nat) (v : Int32) : aI (sI h f a v) = aI h := Eq.trans rfl rfl
theorem aJ_sI (h : Hp) (f a : Nat) (v : Int32) : aJ (sI h f a v) = aJ h := Eq.trans rfl rfl
theorem aR_sI (h : Hp) (f a : Nat) (v : Int32) : aR (sI h f a v) = aR h := Eq.trans rfl rfl
theorem hK_sJ (h : Hp) (f a : Nat) (v : Int64) : hK (sJ h f a v) = hK h := Eq.trans rfl rfl
theorem hN_sJ (h : Hp) (f a : Nat) (v : Int64) : hN (sJ h f a v) = hN h := Eq.trans rfl rfl
theorem hI_sJ (h : Hp) (f a : Nat) (v : Int64) : hI (sJ h f a v) = hI h := Eq.trans rfl rfl
theorem hR_sJ (h : Hp) (f a : Nat) (v : Int64) : hR (sJ h f a v) = hR h := Eq.trans rfl rfl
theorem aI_sJ (h : Hp) (f a : Nat) (v : Int64) : aI (sJ h f a v) = aI h := Eq.trans rfl rfl
theorem aJ_sJ (h : Hp) (f a : Nat) (v : Int64) : aJ (sJ h f a v) = aJ h := Eq.trans rfl rfl
theorem aR_sJ (h : Hp) (f a : Nat) (v : Int64) : aR (sJ h f a v) = aR h := Eq.trans rfl rfl
theorem hK_sR (h : Hp) (f a : Nat) (v : Option Nat) : hK (sR h f a v) = hK h := Eq.trans rfl rfl
theorem hN_sR (h : Hp) (f a : Nat) (v : Option Nat) : hN (sR h f a v) = hN h := Eq.trans rfl rfl
theorem hI_sR (h : Hp) (f a : Nat) (v : Option Nat) : hI (sR h f a v) = hI h := Eq.trans rfl rfl
theorem hJ_sR (h : Hp) (f a : Nat) (v : Option Nat) : hJ (sR h f a v) = hJ h := Eq.trans rfl rfl
theorem aI_sR (h : Hp) (f a : Nat) (v : Option Nat) : aI (sR h f a v) = aI h := Eq.trans rfl rfl
theorem aJ_sR (h : Hp) (f a : Nat) (v : Option Nat) : aJ (sR h f a v) = aJ h := Eq.trans rfl rfl
theorem aR_sR (h : Hp) (f a : Nat) (v : Option Nat) : aR (sR h f a v) = aR h := Eq.trans rfl rfl
theorem hK_tI (h : Hp) (t a i : Nat) (v : Int32) : hK (tI h t a i v) = hK h := Eq.trans rfl rfl
theorem hN_tI (h : Hp) (t a i : Nat) (v : Int32) : hN (tI h t a i v) = hN h := Eq.trans rfl rfl
theorem hI_tI (h : Hp) (t a i : Nat) (v : Int32) : hI (tI h t a i v) = hI h := Eq.trans rfl rfl
theorem hJ_tI (h : Hp) (t a i : Nat) (v : Int32) : hJ (tI h t a i v) = hJ h := Eq.trans rfl rfl
theorem hR_tI (h : Hp) (t a i : Nat) (v : Int32) : hR (tI h t a i v) = hR h := Eq.trans rfl rfl
theorem aJ_tI (h : Hp) (t a i : Nat) (v : Int32) : aJ (tI h t a i v) = aJ h := Eq.trans rfl rfl
theorem aR_tI (h : Hp) (t a i : Nat) (v : Int32) : aR (tI h t a i v) = aR h := Eq.trans rfl rfl
theorem hK_tJ (h : Hp) (t a i : Nat) (v : Int64) : hK (tJ h t a i v) = hK h := Eq.trans rfl rfl
theorem hN_tJ (h : Hp) (t a i : Nat) (v : Int64) : hN (tJ h t a i v) = hN h := Eq.trans rfl rfl
theorem hI_tJ (h : Hp) (t a i : Nat) (v : Int64) : hI (tJ h t a i v) = hI h := Eq.trans rfl rfl
theorem hJ_tJ (h : Hp) (t a i : Nat) (v : Int64) : hJ (tJ h t a i v) = hJ h := Eq.trans rfl rfl
theorem hR_tJ (h : Hp) (t a i : Nat) (v : Int64) : hR (tJ h t a i v) = hR h := Eq.trans rfl rfl
theorem aI_tJ (h : Hp) (t a i : Nat) (v : Int64) : aI (tJ h t a i v) = aI h := Eq.trans rfl rfl
theorem aR_tJ (h : Hp) (t a i : Nat) (v : Int64) : aR (tJ h t a i v) = aR h := Eq.trans rfl rfl
theorem hK_tR (h : Hp) (t a i : Nat) (v : Option Nat) : hK (tR h t a i v) = hK h := Eq.trans rfl rfl
theorem hN_tR (h : Hp) (t a i : Nat) (v : Option Nat) : hN (tR h t a i v) = hN h := Eq.trans rfl rfl
theorem hI_tR (h : Hp) (t a i : Nat) (v : Option Nat) : hI (tR h t a i v) = hI h := Eq.trans rfl rfl
theorem hJ_tR (h : Hp) (t a i : Nat) (v : Option Nat) : hJ (tR h t a i v) = hJ h := Eq.trans rfl rfl
theorem hR_tR (h : Hp) (t a i : Nat) (v : Option Nat) : hR (tR h t a i v) = hR h := Eq.trans rfl rfl
theorem aI_tR (h : Hp) (t a i : Nat) (v : Option Nat) : aI (tR h t a i v) = aI h := Eq.trans rfl rfl
theorem aJ_tR (h : Hp) (t a i : Nat) (v : Option Nat) : aJ (tR h t a i v) = aJ h := Eq.trans rfl rfl
theorem hI_sI (h : Hp) (f a g b : Nat) (v : Int32) : hI (sI h f a v) g b = if g = f ∧ b = a then v else hI h g b := Eq.trans rfl rfl
theorem hJ_sJ (h : Hp) (f a g b : Nat) (v : Int64) : hJ (sJ h f a v) g b = if g = f ∧ b = a then v else hJ h g b := Eq.trans rfl rfl
theorem hR_sR (h : Hp) (f a g b : Nat) (v : Option Nat) : hR (sR h f a v) g b = if g = f ∧ b = a then v else hR h g b := Eq.trans rfl rfl
theorem aI_tI (h : Hp) (t a i u b j : Nat) (v : Int32) : aI (tI h t a i v) u b j = if u = t ∧ b = a ∧ j = i then v else aI h u b j := Eq.trans rfl rfl
theorem aJ_tJ (h : Hp) (t a i u b j : Nat) (v : Int64) : aJ (tJ h t a i v) u b j = if u = t ∧ b = a ∧ j = i then v else aJ h u b j := Eq.trans rfl rfl
theorem aR_tR (h : Hp) (t a i u b j : Nat) (v : Option Nat) : aR (tR h t a i v) u b j = if u = t ∧ b = a ∧ j = i then v else aR h u b j := Eq.trans rfl rfl
theorem inN_neg {v : Int32} {n : Nat} (h : v < 0) : inN v n = false := by
  unfold inN; rw [decide_eq_false_iff_not]; intro z; rw [n_lt] at h; have : (0 : Int32).toInt = 0 := (by decide); omega
theorem inN_big {v : Int32} {n : Nat} (hn : n < 2147483648) (h : nI n ≤ v) : inN v n = false := by
  unfold inN; rw [decide_eq_false_iff_not]; intro z; rw [n_le, nI_int hn] at h; omega
theorem inN_mid {v : Int32} {n : Nat} (hn : n < 2147483648) (h : ¬ v < 0) (h2 : ¬ nI n ≤ v) : inN v n = true := by
  unfold inN; rw [decide_eq_true_iff]; rw [n_lt] at h; rw [n_le, nI_int hn] at h2; have : (0 : Int32).toInt = 0 := (by decide); omega
/-- the addresses: 0 the object, 1 ends, 2 servers, 3 asks, 4 the row, 5 the ring, 6 an end, 7 its last asks, 8 a server, 9 its accounts, 10 its memories, 11 a memory (10 * server + name), 12 its states, 13 its answers -/
abbrev om_w : Type := Nat → Nat → Nat
def CS (w : om_w) (h : Hp) : Prop :=
  (hK h (w 0 0) = 7 ∧ hR h 385 (w 0 0) = some (w 1 0) ∧ hR h 386 (w 0 0) = some (w 2 0) ∧ hR h 387 (w 0 0) = some (w 3 0) ∧ hR h 388 (w 0 0) = some (w 4 0)) ∧
  ((hK h (w 1 0) = 28 ∧ hN h (w 1 0) = 10) ∧ (hK h (w 2 0) = 39 ∧ hN h (w 2 0) = 4) ∧ (hK h (w 3 0) = 43 ∧ hN h (w 3 0) = 300) ∧ (hK h (w 4 0) = 5 ∧ hR h 260 (w 4 0) = some (w 5 0)) ∧ (hK h (w 5 0) = 53 ∧ hN h (w 5 0) = 128)) ∧
  (∀ n, n < 10 → aR h 28 (w 1 0) n = some (w 6 n) ∧ hK h (w 6 n) = 2 ∧ hI h 64 (w 6 n) = nI n ∧ hR h 69 (w 6 n) = some (w 7 n) ∧ hK h (w 7 n) = 59 ∧ hN h (w 7 n) = 16) ∧
  (∀ s, s < 4 → aR h 39 (w 2 0) s = some (w 8 s) ∧ hK h (w 8 s) = 6 ∧ hR h 320 (w 8 s) = some (w 9 s) ∧ hK h (w 9 s) = 65 ∧ hN h (w 9 s) = 6 ∧ hR h 321 (w 8 s) = some (w 10 s) ∧ hK h (w 10 s) = 78 ∧ hN h (w 10 s) = 10) ∧
  (∀ s n, s < 4 → n < 10 → aR h 78 (w 10 s) n = some (w 11 (10 * s + n))) ∧
  (∀ i, i < 40 → hK h (w 11 i) = 4 ∧ hI h 192 (w 11 i) = hI h 384 (w 0 0) ∧ hR h 196 (w 11 i) = some (w 12 i) ∧ hK h (w 12 i) = 80 ∧ hN h (w 12 i) = 16 ∧ hR h 197 (w 11 i) = some (w 13 i) ∧ hK h (w 13 i) = 89 ∧ hN h (w 13 i) = 16)
def Inj (w : om_w) : Prop := ∀ c n m, (c = 6 ∧ n < 10 ∧ m < 10) ∨ (c = 7 ∧ n < 10 ∧ m < 10) ∨ (c = 9 ∧ n < 4 ∧ m < 4) ∨ (c = 11 ∧ n < 40 ∧ m < 40) ∨ (c = 12 ∧ n < 40 ∧ m < 40) ∨ (c = 13 ∧ n < 40 ∧ m < 40) → w c n = w c m → n = m
/-- what the class's face of a memory is: its window, LOW, life, states and answers by NUMBER, how many -/
def sl (n : Nat) : Nat := n % 16
def cntF (f : Nat → Int32) (low : Nat) : Nat → Nat
  | 0 => 0
  | k + 1 => cntF f low k + (if f (low + k) = 0 then 0 else 1)
def MR (h : Hp) (a st an : Nat) (wn low : Nat) (life : Int32) (f : Nat → Int32) (g : Nat → Int64) : Prop :=
  hI h 192 a = nI wn ∧ hI h 193 a = life ∧ hI h 194 a = nI low ∧ hI h 195 a = nI (cntF f low wn) ∧
  (∀ n, low ≤ n → n < low + wn → aI h 80 st (n % 16) = f n ∧ (f n = 1 ∨ f n = 3 → aJ h 89 an (n % 16) = g n)) ∧
  (∀ j, j < 16 → (∀ n, low ≤ n → n < low + wn → n % 16 ≠ j) → aI h 80 st j = 0)
def RTop (w : om_w) (S : Ms) (h : Hp) : Prop := hI h 384 (w 0 0) = mI S 448 ∧ hI h 389 (w 0 0) = mI S 453 ∧ hI h 390 (w 0 0) = mI S 484 ∧ hI h 256 (w 4 0) = mI S 468 ∧ hI h 257 (w 4 0) = mI S 482 ∧ hI h 258 (w 4 0) = mI S 483
def REnd (w : om_w) (as : Nat → Nat) (S : Ms) (h : Hp) : Prop := ∀ n, n < 10 →
  (hI h 65 (w 6 n) = (if mT S 449 n = 0 then 1 else 0) ∧ hI h 66 (w 6 n) = mT S 450 n ∧ hI h 67 (w 6 n) = mT S 451 n) ∧
  (∃ lw nx, hI h 68 (w 6 n) = nI lw ∧ mT S 451 n = nI nx ∧ nx < 1000 ∧ 1 ≤ lw ∧ lw ≤ nx ∧ nx ≤ lw + 16 ∧ ∀ k, k < nA S → mT S 454 k = nI n → mT S 463 k = 0 → ∃ num, mT S 456 k = nI num ∧ lw ≤ num ∧ num < nx ∧ aR h 59 (w 7 n) (num % 16) = some (as k)) ∧
  (∀ j, j < 16 → aR h 59 (w 7 n) j = none ∨ ∃ k, k < nA S ∧ aR h 59 (w 7 n) j = some (as k) ∧ mT S 454 k = nI n ∧ ∃ num, mT S 456 k = nI num ∧ num < 1000 ∧ num % 16 = j)
def lnk (as : Nat → Nat) (v : Int32) : Option Nat := if v = -1 then none else some (as (tn v))
def AskOK (as : Nat → Nat) (S : Ms) (h : Hp) (k : Nat) : Prop :=
  hK h (as k) = 1 ∧ hI h 0 (as k) = nI k ∧ hI h 1 (as k) = mT S 454 k ∧ hI h 2 (as k) = mT S 455 k ∧ hI h 3 (as k) = mT S 456 k ∧ hI h 4 (as k) = mT S 457 k ∧ hI h 5 (as k) = mT S 458 k ∧ hI h 6 (as k) = mT S 459 k ∧
  (mT S 454 k < 6 → hI h 7 (as k) = mT S 460 k ∧ hI h 8 (as k) = mT S 461 k) ∧ hI h 9 (as k) = mT S 462 k ∧ hI h 10 (as k) = mT S 463 k ∧ (mT S 463 k = 1 → hJ h 11 (as k) = mJ S 464 k) ∧ hI h 12 (as k) = mT S 467 k ∧
  hR h 13 (as k) = lnk as (mT S 465 k) ∧ hR h 14 (as k) = lnk as (mT S 466 k)
def RAsk (w : om_w) (as : Nat → Nat) (S : Ms) (h : Hp) : Prop :=
  (∀ k, k < nA S → aR h 43 (w 3 0) k = some (as k)) ∧ (∀ k, nA S ≤ k → k < 300 → aR h 43 (w 3 0) k = none) ∧ (∀ k, k < nA S → AskOK as S h k) ∧ (∀ k j, k < nA S → j < nA S → as k = as j → k = j)
def LetOK (as : Nat → Nat) (S : Ms) (h : Hp) (i a : Nat) : Prop :=
  hR h 128 a = some (as (tn (mT S 469 i))) ∧ hI h 129 a = mT S 470 i ∧ hI h 130 a = (if mT S 470 i ≠ 0 ∧ mJ S 472 i = -3 then 1 else 0) ∧ hI h 131 a = mT S 473 i ∧ (mT S 470 i = 0 → hI h 132 a = mT S 471 i) ∧ (mT S 470 i ≠ 0 → mJ S 472 i ≠ -3 → hJ h 133 a = mJ S 472 i)
def RLet (w : om_w) (as : Nat → Nat) (S : Ms) (h : Hp) : Prop := ∃ (f : Nat) (lt : Nat → Nat), hI h 259 (w 4 0) = nI f ∧ f < 128 ∧ (∀ s, s < 128 → aR h 53 (w 5 0) s = some (lt s) ∧ hK h (lt s) = 3) ∧ (∀ s t, s < 128 → t < 128 → lt s = lt t → s = t) ∧ ∀ i, i < nL S → LetOK as S h i (lt ((f + i) % 128))
def RSrv (w : om_w) (S : Ms) (h : Hp) : Prop := ∀ s a, s < 4 → a < 6 → aJ h 65 (w 9 s) a = mJ S 452 (6 * s + a)
/-- the state of a record by row and NUMBER, and its answer -/
def stF (S : Ms) (i n : Nat) : Int32 := match fnd S (nI i) (nI n) with
  | some r => mT S 479 r
  | none => 0
def anF (S : Ms) (i n : Nat) : Int64 := match fnd S (nI i) (nI n) with
  | some r => if mT S 479 r = 3 then -2 else mJ S 480 r
  | none => 0
def RMem (w : om_w) (S : Ms) (h : Hp) : Prop := ∀ i, i < 40 → MR h (w 11 i) (w 12 i) (w 13 i) (tn (mI S 448)) (tn (mT S 475 i)) (mT S 474 i) (stF S i) (anF S i)
def Rep (w : om_w) (as : Nat → Nat) (S : Ms) (h : Hp) : Prop := CS w h ∧ RTop w S h ∧ REnd w as S h ∧ RAsk w as S h ∧ RLet w as S h ∧ RSrv w S h ∧ RMem w S h
