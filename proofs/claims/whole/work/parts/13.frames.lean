/-! what each step leaves, and that WF1 is kept -/
section FR
variable {S : Ms}
theorem inN_nIlt {j n : Nat} (h : j < n) (hn : n ≤ 2147483648) : inN (nI j) n = true := by
  rw [inN_nI (by omega), decide_eq_true_iff]; exact h
theorem inN_succ {v : Int32} {n : Nat} (h : inN v n = true) (hn : n < 2147483648) (h2 : tn v + 1 < n) : inN (v + 1) n = true ∧ tn (v + 1) = tn v + 1 := by
  obtain ⟨h1, h3, h4⟩ := inN_tn h
  have e : v + 1 = nI (tn v + 1) := by conv => lhs; rw [h1]
                                       rw [nI_inc1]
  rw [e]
  exact ⟨inN_nIlt h2 (by omega), tn_nI (by omega)⟩
theorem nA_pT {f j : Nat} {v : Int32} : nA (pT S f j v) = nA S := by unfold nA; rw [mI_pT]
theorem nR_pT {f j : Nat} {v : Int32} : nR (pT S f j v) = nR S := by unfold nR; rw [mI_pT]
theorem nL_pT {f j : Nat} {v : Int32} : nL (pT S f j v) = nL S := by unfold nL; rw [mI_pT]
theorem nA_pJ {f j : Nat} {v : Int64} : nA (pJ S f j v) = nA S := by unfold nA; rw [mI_pJ]
theorem nR_pJ {f j : Nat} {v : Int64} : nR (pJ S f j v) = nR S := by unfold nR; rw [mI_pJ]
theorem nL_pJ {f j : Nat} {v : Int64} : nL (pJ S f j v) = nL S := by unfold nL; rw [mI_pJ]
theorem nA_pI {f : Nat} {v : Int32} (h : 453 ≠ f) : nA (pI S f v) = nA S := by unfold nA; rw [mI_pI_ne _ _ h]
theorem nR_pI {f : Nat} {v : Int32} (h : 476 ≠ f) : nR (pI S f v) = nR S := by unfold nR; rw [mI_pI_ne _ _ h]
theorem nL_pI {f : Nat} {v : Int32} (h : 468 ≠ f) : nL (pI S f v) = nL S := by unfold nL; rw [mI_pI_ne _ _ h]
theorem newAsk_nR (n sv kind a b t amt far : Int32) : nR (newAskF S n sv kind a b t amt far) = nR S := by
  unfold newAskF
  rw [nR_pT, nR_pT, nR_pT, nR_pT, nR_pT, nR_pT, nR_pT, nR_pT, nR_pT, nR_pT, nR_pT, nR_pT, nR_pT, nR_pI (by decide)]
theorem send_I (ask : Int32) (ans : Bool) (v : Int64) {f : Nat} (h : f ∉ [468, 483, 486]) : mI (sendF S ask ans v) f = mI S f := by
  simp only [List.mem_cons, List.not_mem_nil, or_false, not_or] at h
  unfold sendF
  split
  · rfl
  · split <;> simp [mI_pI, mI_pT, mI_pJ, h]
theorem send_T (ask : Int32) (ans : Bool) (v : Int64) {f : Nat} (h : f ∉ [469, 470, 471, 473]) : mT (sendF S ask ans v) f = mT S f := by
  simp only [List.mem_cons, List.not_mem_nil, or_false, not_or] at h
  unfold sendF
  split
  · rfl
  · split <;> (funext i; simp [mT_pI, mT_pT, mT_pJ, h])
theorem send_J (ask : Int32) (ans : Bool) (v : Int64) {f : Nat} (h : f ≠ 472) : mJ (sendF S ask ans v) f = mJ S f := by
  unfold sendF
  split
  · rfl
  · split <;> (funext i; simp [mJ_pI, mJ_pT, mJ_pJ, h])
theorem putAt_I (k : Nat) (o num st : Int32) (v : Int64) (own : Int32) (f : Nat) : mI (putAt S k o num st v own) f = mI S f := rfl
theorem putAt_T (k : Nat) (o num st : Int32) (v : Int64) (own : Int32) {f : Nat} (h : f ∉ [477, 478, 479, 481]) : mT (putAt S k o num st v own) f = mT S f := by
  simp only [List.mem_cons, List.not_mem_nil, or_false, not_or] at h
  unfold putAt
  funext i
  simp [mT_pT, mT_pJ, h]
theorem putAt_J (k : Nat) (o num st : Int32) (v : Int64) (own : Int32) {f : Nat} (h : f ≠ 480) : mJ (putAt S k o num st v own) f = mJ S f := by
  unfold putAt
  funext i
  simp [mJ_pT, mJ_pJ, h]
theorem put_I (o num st : Int32) (v : Int64) (own : Int32) {f : Nat} (h : f ≠ 476) : mI (putRecF S o num st v own) f = mI S f := by
  unfold putRecF
  split
  · rfl
  · rw [putAt_I, mI_pI_ne _ _ h]
theorem put_T (o num st : Int32) (v : Int64) (own : Int32) {f : Nat} (h : f ∉ [477, 478, 479, 481]) : mT (putRecF S o num st v own) f = mT S f := by
  unfold putRecF
  split
  · exact putAt_T _ _ _ _ _ _ h
  · exact putAt_T _ _ _ _ _ _ h
theorem put_J (o num st : Int32) (v : Int64) (own : Int32) {f : Nat} (h : f ≠ 480) : mJ (putRecF S o num st v own) f = mJ S f := by
  unfold putRecF
  split
  · exact putAt_J _ _ _ _ _ _ h
  · exact putAt_J _ _ _ _ _ _ h
theorem fg_le (o b : Int32) : ∀ k, (fgF S o b k).2 ≤ k
  | 0 => Nat.le_refl _
  | k + 1 => by
    have := fg_le o b k
    simp only [fgF]
    split
    · exact Nat.succ_le_succ this
    · omega
theorem recTo_T (l k : Nat) {f : Nat} (h : f ∉ [477, 478, 479, 481]) : mT (recTo S l k) f = mT S f := by
  simp only [List.mem_cons, List.not_mem_nil, or_false, not_or] at h
  unfold recTo
  funext i
  simp [mT_pT, mT_pJ, h]
theorem recTo_J (l k : Nat) {f : Nat} (h : f ≠ 480) : mJ (recTo S l k) f = mJ S f := by
  unfold recTo
  funext i
  simp [mJ_pT, mJ_pJ, h]
theorem fg_I (o b : Int32) (f : Nat) : ∀ k, mI (fgF S o b k).1 f = mI S f
  | 0 => rfl
  | k + 1 => by
    simp only [fgF]
    split
    · exact fg_I o b f k
    · exact fg_I o b f k
theorem fg_T (o b : Int32) {f : Nat} (h : f ∉ [477, 478, 479, 481]) : ∀ k, mT (fgF S o b k).1 f = mT S f
  | 0 => rfl
  | k + 1 => by
    simp only [fgF]
    split
    · rw [recTo_T _ _ h]; exact fg_T o b h k
    · exact fg_T o b h k
theorem fg_J (o b : Int32) {f : Nat} (h : f ≠ 480) : ∀ k, mJ (fgF S o b k).1 f = mJ S f
  | 0 => rfl
  | k + 1 => by
    simp only [fgF]
    split
    · rw [recTo_J _ _ h]; exact fg_J o b h k
    · exact fg_J o b h k
theorem forget_I (o b : Int32) {f : Nat} (h : f ≠ 476) : mI (forgetF S o b) f = mI S f := by
  unfold forgetF
  rw [mI_pI_ne _ _ h, fg_I]
theorem forget_T (o b : Int32) {f : Nat} (h : f ∉ [477, 478, 479, 481]) : mT (forgetF S o b) f = mT S f := fg_T o b h _
theorem forget_J (o b : Int32) {f : Nat} (h : f ≠ 480) : mJ (forgetF S o b) f = mJ S f := fg_J o b h _
theorem forget_n (hW : WF1 S) (o b : Int32) : inN (mI (forgetF S o b) 476) 701 = true ∧ nR (forgetF S o b) = (fgF S o b (nR S)).2 ∧ nR (forgetF S o b) ≤ nR S := by
  have h1 := fg_le (S := S) o b (nR S)
  have h2 := (inN_tn hW.1.2.2).2.1
  have h3 : nR S < 701 := h2
  have e : mI (forgetF S o b) 476 = nI (fgF S o b (nR S)).2 := by unfold forgetF; rw [mI_pI, if_pos rfl]
  have e2 : nR (forgetF S o b) = (fgF S o b (nR S)).2 := by unfold nR; rw [e]; exact tn_nI (by omega)
  refine ⟨by rw [e]; exact inN_nIlt (by omega) (by decide), e2, by omega⟩
theorem WF1_forget (hW : WF1 S) (o b : Int32) : WF1 (forgetF S o b) := by
  obtain ⟨h1, h2, h3⟩ := forget_n hW o b
  have a1 : nA (forgetF S o b) = nA S := congrArg tn (forget_I o b (by decide))
  have a2 : nL (forgetF S o b) = nL S := congrArg tn (forget_I o b (by decide))
  have key : ∀ k, k ≤ nR S → ∀ r, r < nR S → mT (fgF S o b k).1 479 r = 2 → inN (mT (fgF S o b k).1 481 r) (nA S) = true := by
    intro k
    induction k with
    | zero => intro _; exact hW.2.2.2.2.1
    | succ k ih =>
      intro hk r hr
      simp only [fgF]
      split
      · intro h4
        unfold recTo at h4 ⊢
        simp only [mT_pT, mT_pJ] at h4 ⊢
        by_cases e : r = (fgF S o b k).2
        · simp only [e, and_self, if_true, if_pos, Nat.reduceEqDiff, false_and, if_false] at h4 ⊢
          exact ih (by omega) k (by omega) h4
        · simp only [e, and_false, if_false] at h4 ⊢
          exact ih (by omega) r hr h4
      · exact ih (by omega) r hr
  refine ⟨⟨by rw [forget_I _ _ (by decide)]; exact hW.1.1, by rw [forget_I _ _ (by decide)]; exact hW.1.2.1, h1⟩, ?_, ?_, ?_, ?_, ?_⟩
  · rw [a1, forget_T _ _ (by decide), forget_T _ _ (by decide), forget_T _ _ (by decide), forget_T _ _ (by decide), forget_T _ _ (by decide)]
    exact hW.2.1
  · rw [a1, a2, forget_T _ _ (by decide)]
    exact hW.2.2.1
  · rw [forget_T _ _ (by decide), forget_T _ _ (by decide)]
    exact hW.2.2.2.1
  · intro r hr h4
    rw [a1]
    exact key _ (Nat.le_refl _) r (by omega) h4
  · rw [a1, forget_T _ _ (by decide), forget_T _ _ (by decide)]
    exact hW.2.2.2.2.2
theorem WF1_send (hW : WF1 S) {ask : Int32} {ans : Bool} {v : Int64} (ha : inN ask (nA S) = true) : WF1 (sendF S ask ans v) := by
  have hl := inN_tn hW.1.2.1
  unfold sendF
  split
  · exact hW
  · split
    · exact WF1_pI (by decide) (WF1_pI (by decide) hW)
    · rename_i c1 c2
      have h120 : tn (mI S 468) ≠ 120 := fun z => c2 (by rw [hl.1, z]; rfl)
      have hs := inN_succ hW.1.2.1 (by decide) (show tn (mI S 468) + 1 < 121 by omega)
      refine ⟨⟨hW.1.1, ?_, hW.1.2.2⟩, ?_, ?_, ?_, hW.2.2.2.2.1, hW.2.2.2.2.2⟩
      · exact hs.1
      · exact hW.2.1
      · intro i hi
        have hi2 : i < tn (mI S 468) + 1 := by rw [← hs.2]; exact hi
        by_cases e : i = nL S
        · rw [e]
          show inN _ (nA S) = true
          simp only [mT_pI, mT_pT, mT_pJ, and_self, if_true, Nat.reduceEqDiff, false_and, if_false]
          exact ha
        · have hi3 : i < nL S := by unfold nL at e ⊢; omega
          have := hW.2.2.1 i hi3
          simp only [mT_pI, mT_pT, mT_pJ, e, and_false, if_false]
          exact this
      · intro i
        have := hW.2.2.2.1 i
        simp only [mT_pI, mT_pT, mT_pJ]
        by_cases e : i = nL S
        · simp only [e, and_true, Nat.reduceEqDiff, if_false, if_true]
          exact ⟨bi_01, by simp⟩
        · simp only [e, and_false, if_false]
          exact this
theorem WF1_putAt (hW : WF1 S) {k : Nat} {o num st : Int32} {v : Int64} {own : Int32} (h2 : st = 2 → inN own (nA S) = true) : WF1 (putAt S k o num st v own) := by
  refine ⟨hW.1, hW.2.1, hW.2.2.1, hW.2.2.2.1, ?_, hW.2.2.2.2.2⟩
  intro r hr h4
  unfold putAt at h4 ⊢
  simp only [mT_pT, mT_pJ] at h4 ⊢
  by_cases e : r = k
  · simp only [e, and_true, and_self, Nat.reduceEqDiff, if_false, if_true] at h4 ⊢
    exact h2 h4
  · simp only [e, and_false, if_false] at h4 ⊢
    exact hW.2.2.2.2.1 r hr h4
theorem put_n (hW : WF1 S) (hr : nR S < 700) (o num st : Int32) (v : Int64) (own : Int32) : nR (putRecF S o num st v own) ≤ nR S + 1 := by
  unfold putRecF
  split
  · show nR S ≤ _; omega
  · have hs := inN_succ hW.1.2.2 (by decide) (show tn (mI S 476) + 1 < 701 by unfold nR at hr; omega)
    show tn (mI S 476 + 1) ≤ _
    rw [hs.2]
    exact Nat.le_refl _
theorem WF1_put (hW : WF1 S) (hr : nR S < 700) {o num st : Int32} {v : Int64} {own : Int32} (h2 : st = 2 → inN own (nA S) = true) : WF1 (putRecF S o num st v own) := by
  unfold putRecF
  split
  · exact WF1_putAt hW h2
  · have hs := inN_succ hW.1.2.2 (by decide) (show tn (mI S 476) + 1 < 701 by unfold nR at hr; omega)
    refine ⟨⟨hW.1.1, hW.1.2.1, hs.1⟩, hW.2.1, hW.2.2.1, hW.2.2.2.1, ?_, hW.2.2.2.2.2⟩
    intro r hr2 h4
    have hr3 : r < tn (mI S 476) + 1 := by rw [← hs.2]; exact hr2
    unfold putAt at h4 ⊢
    simp only [mT_pT, mT_pJ, mT_pI] at h4 ⊢
    by_cases e : r = nR S
    · simp only [e, and_true, and_self, Nat.reduceEqDiff, if_false, if_true] at h4 ⊢
      exact h2 h4
    · simp only [e, and_false, if_false] at h4 ⊢
      exact hW.2.2.2.2.1 r (by unfold nR at e ⊢; omega) h4
theorem inN_ge {v : Int32} {n m : Nat} (h : inN v n = true) (hm : n ≤ m) : inN v m = true := inN_le h hm
theorem WF1_newAsk (hW : WF1 S) (h300 : nA S < 300) {n sv kind a b t amt far : Int32} (h1 : inN n 10 = true) (h2 : inN sv 4 = true) (h3 : inN a 6 = true) (h4 : inN b 6 = true) (h5 : inN t 4 = true) (h6 : 5 < n → inN far (nA S) = true) : WF1 (newAskF S n sv kind a b t amt far) ∧ nA (newAskF S n sv kind a b t amt far) = nA S + 1 := by
  have hs := inN_succ hW.1.1 (by decide) (show tn (mI S 453) + 1 < 301 by unfold nA at h300; omega)
  have e1 : nA (newAskF S n sv kind a b t amt far) = nA S + 1 := hs.2
  refine ⟨⟨⟨hs.1, hW.1.2.1, hW.1.2.2⟩, ?_, ?_, hW.2.2.2.1, ?_, ?_⟩, e1⟩
  · intro k hk
    rw [e1] at hk
    unfold newAskF
    simp only [mT_pI, mT_pT, mT_pJ, Nat.reduceEqDiff, false_and, true_and, if_false]
    by_cases e : k = nA S
    · simp only [e, if_true]
      exact ⟨h1, h2, h3, h4, h5⟩
    · simp only [e, if_false]
      exact hW.2.1 k (by omega)
  · intro i hi
    rw [e1]
    exact inN_le (hW.2.2.1 i hi) (Nat.le_succ _)
  · intro r hr hh
    rw [e1]
    exact inN_le (hW.2.2.2.2.1 r hr hh) (Nat.le_succ _)
  · intro k hk
    rw [e1] at hk ⊢
    unfold newAskF
    simp only [mT_pI, mT_pT, mT_pJ, Nat.reduceEqDiff, false_and, true_and, if_false]
    by_cases e : k = nA S
    · simp only [e, if_true]
      exact fun z => inN_le (h6 z) (Nat.le_succ _)
    · simp only [e, if_false]
      exact fun z => inN_le (hW.2.2.2.2.2 k (by omega) z) (Nat.le_succ _)
theorem rm_I (i f : Nat) : ∀ m, mI (rmF S i m) f = mI S f
  | 0 => rfl
  | m + 1 => rm_I i f m
theorem rm_T (i : Nat) {f : Nat} (h : f ∉ [469, 470, 471, 473]) : ∀ m, mT (rmF S i m) f = mT S f
  | 0 => rfl
  | m + 1 => by
    rw [← rm_T i h m]
    simp only [List.mem_cons, List.not_mem_nil, or_false, not_or] at h
    funext j
    simp [rmF, letTo, mT_pT, mT_pJ, h]
theorem rm_J (i : Nat) {f : Nat} (h : f ≠ 472) : ∀ m, mJ (rmF S i m) f = mJ S f
  | 0 => rfl
  | m + 1 => by
    rw [← rm_J i h m]
    funext j
    simp [rmF, letTo, mJ_pT, mJ_pJ, h]
theorem rm_at (i : Nat) : ∀ m, (∀ f ∈ [469, 470, 471, 473], ∀ j, mT (rmF S i m) f j = if i ≤ j ∧ j < i + m then mT S f (j + 1) else mT S f j) ∧ ∀ j, mJ (rmF S i m) 472 j = if i ≤ j ∧ j < i + m then mJ S 472 (j + 1) else mJ S 472 j
  | 0 => by
    refine ⟨fun f _ j => ?_, fun j => ?_⟩ <;> (rw [if_neg (by omega)]; rfl)
  | m + 1 => by
    obtain ⟨h1, h2⟩ := rm_at i m
    refine ⟨fun f hf j => ?_, fun j => ?_⟩
    · have e1 := h1 f hf j
      have e2 := h1 f hf (i + m + 1)
      rw [if_neg (by omega)] at e2
      have e3 : mT (rmF S i (m + 1)) f j = if j = i + m then mT (rmF S i m) f (i + m + 1) else mT (rmF S i m) f j := by
        simp only [List.mem_cons, List.not_mem_nil, or_false] at hf
        rcases hf with rfl | rfl | rfl | rfl <;> (by_cases e : j = i + m <;> simp [rmF, letTo, mT_pT, mT_pJ, e])
      rw [e3]
      by_cases e : j = i + m
      · rw [if_pos e, e2, if_pos (by omega), e]
      · rw [if_neg e, e1]
        by_cases e5 : i ≤ j ∧ j < i + m
        · rw [if_pos e5, if_pos (by omega)]
        · rw [if_neg e5, if_neg (by omega)]
    · have e1 := h2 j
      have e2 := h2 (i + m + 1)
      rw [if_neg (by omega)] at e2
      have e3 : mJ (rmF S i (m + 1)) 472 j = if j = i + m then mJ (rmF S i m) 472 (i + m + 1) else mJ (rmF S i m) 472 j := by
        by_cases e : j = i + m <;> simp [rmF, letTo, mJ_pT, mJ_pJ, e]
      rw [e3]
      by_cases e : j = i + m
      · rw [if_pos e, e2, if_pos (by omega), e]
      · rw [if_neg e, e1]
        by_cases e5 : i ≤ j ∧ j < i + m
        · rw [if_pos e5, if_pos (by omega)]
        · rw [if_neg e5, if_neg (by omega)]
theorem rm_n (hW : WF1 S) {i : Nat} (hi : i < nL S) : mI (removeF S i) 468 = nI (nL S - 1) ∧ nL (removeF S i) = nL S - 1 := by
  obtain ⟨h1, h2, h3⟩ := inN_tn hW.1.2.1
  have h4 : nL S < 121 := h2
  have e : mI (removeF S i) 468 = nI (nL S - 1) := by
    unfold removeF
    rw [rm_I, mI_pI, if_pos rfl, h1]
    show nI (nL S) - nI 1 = nI (nL S - 1)
    exact nI_sub (by omega)
  exact ⟨e, by unfold nL; rw [e]; exact tn_nI (by omega)⟩
theorem remove_I (i : Nat) {f : Nat} (h : f ≠ 468) : mI (removeF S i) f = mI S f := by
  unfold removeF
  rw [rm_I, mI_pI_ne _ _ h]
theorem remove_T (i : Nat) {f : Nat} (h : f ∉ [469, 470, 471, 473]) : mT (removeF S i) f = mT S f := by
  unfold removeF
  rw [rm_T _ h]
  rfl
theorem remove_J (i : Nat) {f : Nat} (h : f ≠ 472) : mJ (removeF S i) f = mJ S f := by
  unfold removeF
  rw [rm_J _ h]
  rfl
theorem remove_at {i : Nat} (hi : i < nL S) : (∀ f ∈ [469, 470, 471, 473], ∀ j, mT (removeF S i) f j = if i ≤ j ∧ j < nL S - 1 then mT S f (j + 1) else mT S f j) ∧ ∀ j, mJ (removeF S i) 472 j = if i ≤ j ∧ j < nL S - 1 then mJ S 472 (j + 1) else mJ S 472 j := by
  have h := rm_at (S := pI S 468 (mI S 468 - 1)) i (nL S - 1 - i)
  rw [show i + (nL S - 1 - i) = nL S - 1 by omega] at h
  exact h
theorem WF1_remove (hW : WF1 S) {i : Nat} (hi : i < nL S) : WF1 (removeF S i) := by
  obtain ⟨h1, h2⟩ := rm_n hW hi
  obtain ⟨h3, h4⟩ := remove_at (S := S) hi
  have hl := (inN_tn hW.1.2.1).2.1
  have hl2 : nL S < 121 := hl
  have a1 : nA (removeF S i) = nA S := congrArg tn (remove_I i (by decide))
  have a3 : nR (removeF S i) = nR S := congrArg tn (remove_I i (by decide))
  refine ⟨⟨by rw [remove_I i (by decide)]; exact hW.1.1, by rw [h1]; exact inN_nIlt (by omega) (by decide), by rw [remove_I i (by decide)]; exact hW.1.2.2⟩, ?_, ?_, ?_, ?_, ?_⟩
  · rw [a1, remove_T i (by decide), remove_T i (by decide), remove_T i (by decide), remove_T i (by decide), remove_T i (by decide)]
    exact hW.2.1
  · intro j hj
    rw [h2] at hj
    rw [a1, h3 469 (by decide)]
    split
    · exact hW.2.2.1 _ (by omega)
    · exact hW.2.2.1 _ (by omega)
  · intro j
    rw [h3 470 (by decide), h3 473 (by decide)]
    split
    · exact hW.2.2.2.1 (j + 1)
    · exact hW.2.2.2.1 j
  · rw [a1, a3, remove_T i (by decide), remove_T i (by decide)]
    exact hW.2.2.2.2.1
  · rw [a1, remove_T i (by decide), remove_T i (by decide)]
    exact hW.2.2.2.2.2
end FR
