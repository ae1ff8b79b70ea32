/-! a memory's changes, and the reference's records -/
section M2
variable {x : om_x} {w : om_w} {h h' : Hp} {as : Nat → Nat} {S S' : Ms} {g : Nat}
def MemX : List Nat := [193, 194, 195, 350, 359]
theorem MR.fm {a st an b sb bn wn lo : Nat} {life : Int32} {f : Nat → Int32} {k : Nat → Int64} (hF : FrM h h' a st an) (h1 : b ≠ a) (h2 : sb ≠ st) (h3 : bn ≠ an) (r : MR h b sb bn wn lo life f k) : MR h' b sb bn wn lo life f k := by
  obtain ⟨p1, p2, p3, p4, p5, p6, p7, p8⟩ := hF
  unfold MR at r ⊢
  rw [p6 192 b (fun z => h1 z.1), p6 193 b (fun z => h1 z.1), p6 194 b (fun z => h1 z.1), p6 195 b (fun z => h1 z.1), p7 80 sb (fun z => h2 z.2), p8 89 bn (fun z => h3 z.2)]
  exact r
def SMem : List Nat := [474, 475, 476, 477, 478, 479, 480, 481]
theorem Rep_mem {i : Nat} (hI1 : Inj w) (hi : i < 40) (hS : SX SMem S S') (h4 : ∀ j, j ≠ i → j < 40 → mT S' 474 j = mT S 474 j ∧ mT S' 475 j = mT S 475 j ∧ stF S' j = stF S j ∧ anF S' j = anF S j) (hF : FrM h h' (w 11 i) (w 12 i) (w 13 i)) (hM : MR h' (w 11 i) (w 12 i) (w 13 i) (tn (mI S 448)) (tn (mT S' 475 i)) (mT S' 474 i) (stF S' i) (anF S' i)) (hr : Rep w as S h) : Rep w as S' h' := by
  have hH : HX MemX h h' := hF.x
  obtain ⟨a1, a2, a3, a4, a5, a6, a7⟩ := hr
  refine ⟨a1.x hH (by decide), a2.x hS hH (by decide) (by decide) a1, a3.x hS hH (by decide) (by decide) a1, a4.x hS hH (by decide) (by decide) a1, a5.x hS hH (by decide) (by decide) a1, a6.x hS hH (by decide) (by decide) a1, fun j hj => ?_⟩
  rw [(hS 448 (by decide)).1]
  by_cases e : j = i
  · subst e
    exact hM
  · obtain ⟨e1, e2, e3, e4⟩ := h4 j e hj
    rw [e1, e2, e3, e4]
    exact (a7 j hj).fm hF (fun z => e (hI1 11 j i (by omega) z)) (fun z => e (hI1 12 j i (by omega) z)) (fun z => e (hI1 13 j i (by omega) z))
theorem Rep.mk {i : Nat} (hC : CS w h) (hi : i < 40) : MK h (w 11 i) (w 12 i) (w 13 i) := by
  obtain ⟨q1, -, q3, q4, q5, q6, q7, q8⟩ := hC.2.2.2.2.2 i hi
  exact ⟨q1, q3, q4, q5, q6, q7, q8⟩
/-- window and LOW, as they may be -/
def LoOK (S : Ms) (i : Nat) : Prop := tn (mI S 448) ≤ 16 ∧ tn (mT S 475 i) < 1000
theorem WF2.lo {i : Nat} (hW : WF2 g S) (hi : i < 40) : LoOK S i := by
  have h1 := (inN_tn hW.2.1.2.1).2.1
  have h2 := (inN_tn (hW.2.2.2.2.2.2.2.1 i hi).2.1).2.1
  exact ⟨by omega, by omega⟩
/-- every RECORD lies in its window -/
def RWn (S : Ms) : Prop := ∀ e ∈ recs S, ∃ i n, e.1 = nI i ∧ i < 40 ∧ e.2.1 = nI n ∧ n < 1000 ∧ tn (mT S 475 i) ≤ n ∧ n < tn (mT S 475 i) + tn (mI S 448)
theorem WF2.rw_ (hW : WF2 g S) : RWn S := by
  intro e he
  unfold recs at he
  rw [List.mem_map] at he
  obtain ⟨r, hr, rfl⟩ := he
  rw [List.mem_range] at hr
  obtain ⟨⟨c1, c2, c3, c4⟩, -⟩ := hW.2.2.2.2.2.2.2.2.1 r hr
  have d1 := inN_tn c1
  have d2 := inN_tn c2
  exact ⟨tn (mT S 477 r), tn (mT S 478 r), d1.1, d1.2.1, d2.1, by omega, c3, c4⟩
theorem fR_mem {o n : Int32} {e : om_rc} (he : fR S o n = some e) : e ∈ recs S ∧ e.1 = o ∧ e.2.1 = n := by
  unfold fR at he
  have h1 := List.mem_of_find?_eq_some he
  have h2 := List.find?_some he
  unfold kyB at h2
  rw [decide_eq_true_iff] at h2
  exact ⟨h1, h2⟩
theorem RWn.fR (hR : RWn S) {i : Nat} {v : Int32} {e : om_rc} (hi : i < 40) (he : fR S (nI i) v = some e) : ∃ n, v = nI n ∧ n < 1000 ∧ tn (mT S 475 i) ≤ n ∧ n < tn (mT S 475 i) + tn (mI S 448) := by
  obtain ⟨m1, m2, m3⟩ := fR_mem he
  obtain ⟨j, n, k1, k2, k3, k4, k5, k6⟩ := hR e m1
  have : j = i := by
    have := congrArg tn (k1.symm.trans m2)
    rw [tn_nI (by omega), tn_nI (by omega)] at this
    exact this
  subst this
  exact ⟨n, m3.symm.trans k3, k4, k5, k6⟩
def stR (e : Option om_rc) : Int32 := match e with | some e => e.2.2.1 | none => 0
theorem stF_R (i n : Nat) : stF S i n = stR (fR S (nI i) (nI n)) := stF_fR i n
theorem stF_out (hR : RWn S) {i n : Nat} (hi : i < 40) (hn : n < 1000000) (ho : ¬ (tn (mT S 475 i) ≤ n ∧ n < tn (mT S 475 i) + tn (mI S 448))) : stF S i n = 0 := by
  rw [stF_R]
  cases e : fR S (nI i) (nI n) with
  | none => rfl
  | some e2 =>
    obtain ⟨m, m1, m2, m3, m4⟩ := hR.fR hi e
    have := congrArg tn m1
    rw [tn_nI (by omega), tn_nI (by omega)] at this
    subst this
    exact absurd ⟨m3, m4⟩ ho
theorem stV_R (hR : RWn S) {i : Nat} {v : Int32} (hi : i < 40) (hl : LoOK S i) : stV (stF S i) (tn (mT S 475 i)) (tn (mI S 448)) v = stR (fR S (nI i) v) := by
  unfold stV
  cases c : inW (tn (mT S 475 i)) (tn (mI S 448)) v with
  | true =>
    have e := inW_t (by have := hl.2; omega) hl.1 c
    rw [if_pos rfl, stF_R, ← e.1]
  | false =>
    rw [if_neg (by decide)]
    cases e : fR S (nI i) v with
    | none => rfl
    | some e2 =>
      obtain ⟨m, m1, m2, m3, m4⟩ := hR.fR hi e
      rw [m1, inW_n (by have := hl.2; omega) hl.1 (by omega), decide_eq_false_iff_not] at c
      exact absurd ⟨m3, m4⟩ c
theorem c_stateR {i : Nat} {v : Int32} (hr : Rep w as S h) (hR : RWn S) (hi : i < 40) (hl : LoOK S i) : Mt x 1 kX3_stateOf 0 0 [.ref (w 11 i), .int v] h (fun z h' => z = some (.int (stR (fR S (nI i) v))) ∧ h' = h) := by
  have := c_stateOf (x := x) (v := v) (Rep.mk hr.1 hi) (hr.2.2.2.2.2.2 i hi) (by have := hl.2; omega) hl.1
  rw [stV_R hR hi hl] at this
  exact this
theorem c_answerR {i : Nat} {v : Int32} {e : om_rc} (hr : Rep w as S h) (hR : RWn S) (hi : i < 40) (hl : LoOK S i) (he : fR S (nI i) v = some e) (hs : e.2.2.1 = 1 ∨ e.2.2.1 = 3) : Mt x 1 kX3_answerOf 0 0 [.ref (w 11 i), .int v] h (fun z h' => z = some (.long (if e.2.2.1 = 3 then -2 else e.2.2.2.1)) ∧ h' = h) := by
  obtain ⟨n, n1, n2, n3, n4⟩ := hR.fR hi he
  subst n1
  have e1 : stF S i n = e.2.2.1 := by rw [stF_R, he]; rfl
  have e2 : anF S i n = (if e.2.2.1 = 3 then -2 else e.2.2.2.1) := by rw [anF_fR, he]
  have := c_answerOf (x := x) (Rep.mk hr.1 hi) (hr.2.2.2.2.2.2 i hi) (by have := hl.2; omega) hl.1 n3 n4 (by rw [e1]; exact hs)
  rw [e2] at this
  exact this
theorem stF_put (hW : inN (mI S 476) 701 = true) (hr : nR S < 700) {i num : Nat} (st : Int32) (V : Int64) (own : Int32) (j n : Nat) (hi : i < 40) (hj : j < 40) (hn : n < 2147483648) (hm : num < 2147483648) : stF (putRecF S (nI i) (nI num) st V own) j n = (if j = i ∧ n = num then st else stF S j n) ∧ anF (putRecF S (nI i) (nI num) st V own) j n = (if j = i ∧ n = num then (if st = 3 then -2 else V) else anF S j n) := by
  rw [stF_R, anF_fR, fR_put hW hr]
  by_cases c : j = i ∧ n = num
  · rw [if_pos c, if_pos c, c.1, c.2, if_pos ⟨rfl, rfl⟩]
    exact ⟨rfl, rfl⟩
  · rw [if_neg c, if_neg c, if_neg (fun z => c ⟨by have := congrArg tn z.1; rw [tn_nI (by omega), tn_nI (by omega)] at this; exact this, by have := congrArg tn z.2; rw [tn_nI hn, tn_nI hm] at this; exact this⟩), ← anF_fR, ← stF_R]
    exact ⟨rfl, rfl⟩
end M2
