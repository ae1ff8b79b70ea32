/-! what the reference's own rows of numbers keep: indexes lie within -/
def WF1 (S : Ms) : Prop :=
  (inN (mI S 453) 301 = true ∧ inN (mI S 468) 121 = true ∧ inN (mI S 476) 701 = true) ∧
  (∀ k, k < nA S → inN (mT S 454 k) 10 = true ∧ inN (mT S 457 k) 4 = true ∧ inN (mT S 459 k) 6 = true ∧ inN (mT S 460 k) 6 = true ∧ inN (mT S 461 k) 4 = true) ∧
  (∀ i, i < nL S → inN (mT S 469 i) (nA S) = true) ∧
  (∀ i, (mT S 470 i = 0 ∨ mT S 470 i = 1) ∧ (mT S 473 i = 0 ∨ mT S 473 i = 1)) ∧
  (∀ r, r < nR S → mT S 479 r = 2 → inN (mT S 481 r) (nA S) = true) ∧
  (∀ k, k < nA S → 5 < mT S 454 k → inN (mT S 465 k) (nA S) = true)
/-- the fields that WF1 speaks of -/
def wfT : List Nat := [454, 457, 459, 460, 461, 465, 469, 470, 473, 479, 481]
theorem WF1_congr {S S' : Ms} (hI : ∀ f ∈ [453, 468, 476], mI S' f = mI S f) (hT : ∀ f ∈ wfT, mT S' f = mT S f) (h : WF1 S) : WF1 S' := by
  have a1 : nA S' = nA S := congrArg tn (hI 453 (by decide))
  have a2 : nL S' = nL S := congrArg tn (hI 468 (by decide))
  have a3 : nR S' = nR S := congrArg tn (hI 476 (by decide))
  unfold WF1
  rw [a1, a2, a3, hI 453 (by decide), hI 468 (by decide), hI 476 (by decide), hT 454 (by decide), hT 457 (by decide), hT 459 (by decide), hT 460 (by decide), hT 461 (by decide), hT 465 (by decide), hT 469 (by decide), hT 470 (by decide), hT 473 (by decide), hT 479 (by decide), hT 481 (by decide)]
  exact h
theorem mT_pT_ne (S : Ms) {f g : Nat} (j : Nat) (v : Int32) (h : g ≠ f) : mT (pT S f j v) g = mT S g := by
  funext i
  rw [mT_pT, if_neg (fun z => h z.1)]
theorem mJ_pJ_ne (S : Ms) {f g : Nat} (j : Nat) (v : Int64) (h : g ≠ f) : mJ (pJ S f j v) g = mJ S g := by
  funext i
  rw [mJ_pJ, if_neg (fun z => h z.1)]
theorem mI_pI_ne (S : Ms) {f g : Nat} (v : Int32) (h : g ≠ f) : mI (pI S f v) g = mI S g := by
  rw [mI_pI, if_neg h]
theorem WF1_pI {S : Ms} {f : Nat} {v : Int32} (hf : f ∉ [453, 468, 476]) (h : WF1 S) : WF1 (pI S f v) := WF1_congr (S := S) (S' := pI S f v) (fun g hg => mI_pI_ne S v (fun z => hf (z ▸ hg))) (fun _ _ => rfl) h
theorem WF1_pT {S : Ms} {f j : Nat} {v : Int32} (hf : f ∉ wfT) (h : WF1 S) : WF1 (pT S f j v) := WF1_congr (S := S) (S' := pT S f j v) (fun g hg => rfl) (fun g hg => mT_pT_ne S j v (fun z => hf (z ▸ hg))) h
theorem WF1_pJ {S : Ms} {f j : Nat} {v : Int64} (h : WF1 S) : WF1 (pJ S f j v) := WF1_congr (S := S) (S' := pJ S f j v) (fun g hg => rfl) (fun g hg => rfl) h
theorem lowF_congr {S S' : Ms} (h : ∀ f ∈ [450, 451, 454, 455, 456, 463], mT S' f = mT S f) (n : Int32) : ∀ k, lowF S' n k = lowF S n k
  | 0 => by simp only [lowF]; rw [h 451 (by decide)]
  | k + 1 => by
    simp only [lowF]
    rw [lowF_congr h n k, h 454 (by decide), h 455 (by decide), h 450 (by decide), h 463 (by decide), h 456 (by decide)]
theorem lowS_congr {S S' : Ms} (h : ∀ f ∈ [450, 451, 454, 455, 456, 463], mT S' f = mT S f) (hA : mI S' 453 = mI S 453) (n : Int32) : lowS S' n = lowS S n := by
  unfold lowS nA
  rw [hA]
  exact lowF_congr h n _
theorem fnd_congr {S S' : Ms} (h : ∀ f ∈ [477, 478], mT S' f = mT S f) (hA : mI S' 476 = mI S 476) (o num : Int32) : fnd S' o num = fnd S o num := by
  unfold fnd nR
  rw [hA, h 477 (by decide), h 478 (by decide)]
theorem lowS_pI {S : Ms} {f : Nat} {v : Int32} {n : Int32} (hf : f ≠ 453) : lowS (pI S f v) n = lowS S n := lowS_congr (S := S) (S' := pI S f v) (fun _ _ => rfl) (mI_pI_ne S v (Ne.symm hf)) n
theorem lowS_pT {S : Ms} {f j : Nat} {v : Int32} {n : Int32} (hf : f ∉ [450, 451, 454, 455, 456, 463]) : lowS (pT S f j v) n = lowS S n := lowS_congr (S := S) (S' := pT S f j v) (fun g hg => mT_pT_ne S j v (fun z => hf (z ▸ hg))) rfl n
theorem lowS_pJ {S : Ms} {f j : Nat} {v : Int64} {n : Int32} : lowS (pJ S f j v) n = lowS S n := lowS_congr (S := S) (S' := pJ S f j v) (fun _ _ => rfl) rfl n
theorem fnd_pI {S : Ms} {f : Nat} {v : Int32} {o n : Int32} (hf : f ≠ 476) : fnd (pI S f v) o n = fnd S o n := fnd_congr (S := S) (S' := pI S f v) (fun _ _ => rfl) (mI_pI_ne S v (Ne.symm hf)) o n
theorem fnd_pT {S : Ms} {f j : Nat} {v : Int32} {o n : Int32} (hf : f ∉ [477, 478]) : fnd (pT S f j v) o n = fnd S o n := fnd_congr (S := S) (S' := pT S f j v) (fun g hg => mT_pT_ne S j v (fun z => hf (z ▸ hg))) rfl o n
theorem fnd_pJ {S : Ms} {f j : Nat} {v : Int64} {o n : Int32} : fnd (pJ S f j v) o n = fnd S o n := fnd_congr (S := S) (S' := pJ S f j v) (fun _ _ => rfl) rfl o n
theorem WF1.ask {S : Ms} (h : WF1 S) {a : Int32} (ha : inN a (nA S) = true) : inN (mT S 454 (tn a)) 10 = true ∧ inN (mT S 457 (tn a)) 4 = true ∧ inN (mT S 459 (tn a)) 6 = true ∧ inN (mT S 460 (tn a)) 6 = true ∧ inN (mT S 461 (tn a)) 4 = true := h.2.1 _ (inN_tn ha).2.1
theorem inN_le {v : Int32} {n m : Nat} (h : inN v n = true) (hm : n ≤ m) : inN v m = true := by
  unfold inN at h ⊢
  rw [decide_eq_true_iff] at h ⊢
  omega
theorem inN_lin {a b : Int32} {n m c : Nat} (ha : inN a n = true) (hb : inN b m = true) (hc : c * n + m ≤ 2147483648) : nI c * a + b = nI (c * tn a + tn b) ∧ c * tn a + tn b < c * (n - 1) + m ∧ inN (nI c * a + b) (c * (n - 1) + m) = true := by
  obtain ⟨h1, h2, h3⟩ := inN_tn ha
  obtain ⟨h4, h5, h6⟩ := inN_tn hb
  have e : nI c * a + b = nI (c * tn a + tn b) := by
    conv => lhs; rw [h1, h4]
    rw [nI_mul, zI_add]
  have h7 : c * tn a ≤ c * (n - 1) := Nat.mul_le_mul_left _ (by omega)
  have h8 : c * (n - 1) ≤ c * n := Nat.mul_le_mul_left _ (by omega)
  refine ⟨e, by omega, ?_⟩
  rw [e, inN_nI (by omega), decide_eq_true_iff]
  omega
/-- the row of a server's and a name's records; the row of an account -/
theorem inN_of {sv n : Int32} (h1 : inN sv 4 = true) (h2 : inN n 10 = true) : inN (10 * sv + n) 40 = true := (inN_lin (c := 10) h1 h2 (by decide)).2.2
theorem inN_ac {sv a : Int32} (h1 : inN sv 4 = true) (h2 : inN a 6 = true) : inN (6 * sv + a) 24 = true := (inN_lin (c := 6) h1 h2 (by decide)).2.2
theorem inN_sv {sv : Int32} (h1 : inN sv 4 = true) : inN (6 + sv) 10 = true := by
  obtain ⟨h2, h3, h4⟩ := inN_tn h1
  have e : 6 + sv = nI (6 + tn sv) := by
    conv => lhs; rw [h2]
    rw [show (6 : Int32) = nI 6 from rfl, zI_add]
  rw [e, inN_nI (by omega), decide_eq_true_iff]
  omega
