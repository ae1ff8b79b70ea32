/-! the records as a list -/
section RC
variable {S S' : Ms}
abbrev om_rc : Type := Int32 × Int32 × Int32 × Int64 × Int32
def rc (S : Ms) (r : Nat) : om_rc := (mT S 477 r, mT S 478 r, mT S 479 r, mJ S 480 r, mT S 481 r)
def recs (S : Ms) : List om_rc := (List.range (nR S)).map (rc S)
def kyB (o n : Int32) (e : om_rc) : Bool := decide (e.1 = o ∧ e.2.1 = n)
def kpB (o b : Int32) (e : om_rc) : Bool := decide (e.1 ≠ o ∨ b ≤ e.2.1)
def fR (S : Ms) (o n : Int32) : Option om_rc := (recs S).find? (kyB o n)
theorem fR_fnd (o n : Int32) : fR S o n = (fnd S o n).map (rc S) := by
  unfold fR recs fnd
  rw [List.find?_map]
  rfl
theorem stF_fR (i n : Nat) : stF S i n = (match fR S (nI i) (nI n) with | some e => e.2.2.1 | none => 0) := by
  unfold stF
  rw [fR_fnd]
  cases fnd S (nI i) (nI n) <;> rfl
theorem anF_fR (i n : Nat) : anF S i n = (match fR S (nI i) (nI n) with | some e => if e.2.2.1 = 3 then -2 else e.2.2.2.1 | none => 0) := by
  unfold anF
  rw [fR_fnd]
  cases fnd S (nI i) (nI n) <;> rfl
theorem rc_recTo (l k j : Nat) : rc (recTo S l k) j = if j = l then rc S k else rc S j := by
  unfold rc recTo
  by_cases e : j = l
  · simp [mT_pT, mT_pJ, mJ_pT, mJ_pJ, e]
  · simp [mT_pT, mT_pJ, mJ_pT, mJ_pJ, e]
theorem rc_pI (f : Nat) (v : Int32) : rc (pI S f v) = rc S := Eq.trans rfl rfl
theorem rc_putAt (k : Nat) (o num st : Int32) (v : Int64) (own : Int32) (j : Nat) : rc (putAt S k o num st v own) j = if j = k then (o, num, st, v, own) else rc S j := by
  unfold rc putAt
  by_cases e : j = k
  · simp [mT_pT, mT_pJ, mJ_pT, mJ_pJ, e]
  · simp [mT_pT, mT_pJ, mJ_pT, mJ_pJ, e]
theorem fg_recs (o b : Int32) : ∀ k, (fgF S o b k).2 ≤ k ∧ (∀ j, k ≤ j → rc (fgF S o b k).1 j = rc S j) ∧ (List.range (fgF S o b k).2).map (rc (fgF S o b k).1) = ((List.range k).map (rc S)).filter (kpB o b)
  | 0 => ⟨Nat.le_refl _, fun _ _ => rfl, rfl⟩
  | k + 1 => by
    obtain ⟨i1, i2, i3⟩ := fg_recs o b k
    have e0 := i2 k (Nat.le_refl _)
    have hb : (mT (fgF S o b k).1 477 k ≠ o ∨ b ≤ mT (fgF S o b k).1 478 k) ↔ kpB o b (rc S k) = true := by
      unfold kpB
      rw [decide_eq_true_iff, ← e0]
      exact Iff.rfl
    rw [List.range_succ, List.map_append, List.filter_append]
    simp only [fgF]
    by_cases c : mT (fgF S o b k).1 477 k ≠ o ∨ b ≤ mT (fgF S o b k).1 478 k
    · rw [if_pos c]
      refine ⟨by simp only; omega, fun j hj => ?_, ?_⟩
      · simp only
        rw [rc_recTo, if_neg (by omega), i2 j (by omega)]
      · simp only
        rw [List.range_succ, List.map_append, ← i3]
        congr 1
        · apply List.map_congr_left
          intro j hj
          rw [List.mem_range] at hj
          rw [rc_recTo, if_neg (by omega)]
        · simp only [List.map_cons, List.map_nil]
          rw [rc_recTo, if_pos rfl, e0, List.filter_cons, if_pos (hb.mp c)]
          rfl
    · rw [if_neg c]
      refine ⟨by omega, fun j hj => i2 j (by omega), ?_⟩
      rw [i3]
      simp only [List.map_cons, List.map_nil]
      rw [List.filter_cons, if_neg (fun z => c (hb.mpr z))]
      simp
theorem recs_forget (hW : WF1 S) (o b : Int32) : recs (forgetF S o b) = (recs S).filter (kpB o b) := by
  obtain ⟨-, e, -⟩ := forget_n hW o b
  unfold recs
  rw [e]
  exact (fg_recs o b (nR S)).2.2
theorem fR_forget (hW : WF1 S) (o b o' n' : Int32) : fR (forgetF S o b) o' n' = if o' = o ∧ n' < b then none else fR S o' n' := by
  unfold fR
  rw [recs_forget hW, List.find?_filter]
  split
  · next c =>
    rw [List.find?_eq_none]
    intro e _ z
    rw [decide_eq_true_iff] at z
    unfold kpB kyB at z
    rw [decide_eq_true_iff, decide_eq_true_iff] at z
    rcases z.1 with q | q
    · exact q (z.2.1.trans c.1)
    · rw [z.2.2] at q
      rw [n_le] at q
      have := c.2
      rw [n_lt] at this
      omega
  · next c =>
    congr 1
    funext e
    by_cases k : kyB o' n' e = true
    · rw [k]
      unfold kyB at k
      unfold kpB
      rw [decide_eq_true_iff] at k
      rw [decide_eq_true_iff, decide_eq_true_iff]
      refine ⟨?_, rfl⟩
      by_cases q : e.1 = o
      · right
        rw [k.2]
        have c2 : ¬ n' < b := fun z => c ⟨by rw [← k.1]; exact q, z⟩
        rw [n_lt] at c2
        rw [n_le]
        omega
      · exact Or.inl q
    · rw [Bool.not_eq_true] at k
      rw [k, decide_eq_false_iff_not]
      exact fun z => absurd z.2 (by decide)
theorem fnd_at {o n : Int32} {r : Nat} (e : fnd S o n = some r) : r < nR S ∧ mT S 477 r = o ∧ mT S 478 r = n := by
  unfold fnd at e
  have h1 := List.mem_of_find?_eq_some e
  have h2 := List.find?_some e
  rw [List.mem_range] at h1
  rw [decide_eq_true_iff] at h2
  exact ⟨h1, h2⟩
theorem fnd_no {o n : Int32} (e : fnd S o n = none) : ∀ r, r < nR S → ¬ (mT S 477 r = o ∧ mT S 478 r = n) := by
  unfold fnd at e
  intro r hr z
  have := List.find?_eq_none.mp e r (List.mem_range.mpr hr)
  exact this (decide_eq_true_iff.mpr z)
theorem fR_put (hW : inN (mI S 476) 701 = true) (hr : nR S < 700) (o num st : Int32) (v : Int64) (own o' n' : Int32) : fR (putRecF S o num st v own) o' n' = if o' = o ∧ n' = num then some (o, num, st, v, own) else fR S o' n' := by
  unfold putRecF
  cases e : fnd S o num with
  | some k =>
    obtain ⟨k1, k2, k3⟩ := fnd_at e
    have hf : ∀ a b, fnd (putAt S k o num st v own) a b = fnd S a b := fnd_congr (S := S) (S' := putAt S k o num st v own) (fun f hf => by
      funext j
      simp only [List.mem_cons, List.not_mem_nil, or_false] at hf
      have := rc_putAt (S := S) k o num st v own j
      unfold rc at this
      by_cases ej : j = k
      · subst ej
        rw [if_pos rfl] at this
        simp only [Prod.mk.injEq] at this
        rcases hf with rfl | rfl
        · rw [this.1, k2]
        · rw [this.2.1, k3]
      · rw [if_neg ej] at this
        simp only [Prod.mk.injEq] at this
        rcases hf with rfl | rfl
        · exact this.1
        · exact this.2.1) rfl
    simp only
    rw [fR_fnd, fR_fnd, hf]
    by_cases c : o' = o ∧ n' = num
    · rw [if_pos c, c.1, c.2, e]
      show some (rc (putAt S k o num st v own) k) = _
      rw [rc_putAt, if_pos rfl]
    · rw [if_neg c]
      cases e2 : fnd S o' n' with
      | none => rfl
      | some r =>
        obtain ⟨r1, r2, r3⟩ := fnd_at e2
        show some (rc (putAt S k o num st v own) r) = some (rc S r)
        rw [rc_putAt, if_neg (fun z => by subst z; exact c ⟨r2.symm.trans k2, r3.symm.trans k3⟩)]
  | none =>
    simp only
    have hn := inN_tn hW
    have hn2 : nR S < 701 := hn.2.1
    have en : nR (putAt (pI S 476 (mI S 476 + 1)) (nR S) o num st v own) = nR S + 1 := by
      show tn (mI (putAt (pI S 476 (mI S 476 + 1)) (nR S) o num st v own) 476) = _
      rw [putAt_I, mI_pI, if_pos rfl]
      conv => lhs; rw [hn.1]
      rw [nI_inc1]
      show tn (nI (nR S + 1)) = _
      rw [tn_nI (by omega)]
    have er : recs (putAt (pI S 476 (mI S 476 + 1)) (nR S) o num st v own) = recs S ++ [(o, num, st, v, own)] := by
      unfold recs
      rw [en, List.range_succ, List.map_append]
      congr 1
      · apply List.map_congr_left
        intro j hj
        rw [List.mem_range] at hj
        rw [rc_putAt, if_neg (by omega), rc_pI]
      · simp only [List.map_cons, List.map_nil]
        rw [rc_putAt, if_pos rfl]
    have e3 : fR S o num = none := by rw [fR_fnd, e]; rfl
    unfold fR at e3 ⊢
    rw [er, List.find?_append]
    by_cases c : o' = o ∧ n' = num
    · rw [if_pos c, c.1, c.2, e3]
      show List.find? (kyB o num) [(o, num, st, v, own)] = _
      rw [List.find?_cons_of_pos (by unfold kyB; rw [decide_eq_true_iff]; exact ⟨rfl, rfl⟩)]
    · rw [if_neg c, List.find?_cons_of_neg (by unfold kyB; rw [decide_eq_true_iff]; exact fun z => c ⟨z.1.symm, z.2.symm⟩)]
      simp
end RC
