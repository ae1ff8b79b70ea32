/-! writing, a new life, LOW raised: memory and records alike -/
section M3
variable {x : om_x} {w : om_w} {h h' : Hp} {as : Nat → Nat} {S S' : Ms} {g : Nat}
theorem nI_ne {i j : Nat} (hi : i < 40) (hj : j < 40) (e : j ≠ i) : nI j ≠ nI i := fun z => e (by have := congrArg tn z; rw [tn_nI (by omega), tn_nI (by omega)] at this; exact this)
theorem stF_fR2 {i j : Nat} (e : ∀ n : Nat, fR S' (nI j) (nI n) = fR S (nI j) (nI n)) : stF S' j = stF S j ∧ anF S' j = anF S j := by
  refine ⟨funext fun n => ?_, funext fun n => ?_⟩
  · rw [stF_R, stF_R, e]
  · rw [anF_fR, anF_fR, e]
theorem c_writeR {i num : Nat} {st : Int32} {v V : Int64} {own : Int32} (hr : Rep w as S h) (hI1 : Inj w) (hW : inN (mI S 476) 701 = true) (h7 : nR S < 700) (hi : i < 40) (hl : LoOK S i) (h1 : tn (mT S 475 i) ≤ num) (h2 : num < tn (mT S 475 i) + tn (mI S 448)) (hst : (st = 1 ∧ v = V) ∨ st = 2 ∨ (st = 3 ∧ v = -2)) : Mt x 1 kX3_write 0 0 [.ref (w 11 i), .int (nI num), .int st, .long v] h (fun z h' => z = none ∧ Rep w as (putRecF S (nI i) (nI num) st V own) h' ∧ HX MemX h h') := by
  have hs0 : st ≠ 0 := by rcases hst with ⟨rfl, -⟩ | rfl | ⟨rfl, -⟩ <;> decide
  have hl2 := hl.2
  have hl1 := hl.1
  refine Mt.weak (fun z h' q => ?_) (c_write (Rep.mk hr.1 hi) (hr.2.2.2.2.2.2 i hi) (by omega) hl1 h1 h2 hs0)
  obtain ⟨q1, hF, hM⟩ := q
  refine ⟨q1, Rep_mem hI1 hi ((SX_put _ _ _ _ _).sub (by decide)) (fun j hj hj2 => ?_) hF ?_ hr, hF.x⟩
  · refine ⟨by rw [put_T _ _ _ _ _ (by decide)], by rw [put_T _ _ _ _ _ (by decide)], ?_⟩
    exact stF_fR2 (i := i) (fun n => by rw [fR_put hW h7, if_neg (fun z => nI_ne hi hj2 hj z.1)])
  · rw [put_T _ _ _ _ _ (by decide), put_T _ _ _ _ _ (by decide)]
    refine MR_congr (fun n n1 n2 => ?_) hM
    obtain ⟨p1, p2⟩ := stF_put hW h7 (i := i) (num := num) st V own i n hi hi (by omega) (by omega)
    rw [p1, p2]
    by_cases e : n = num
    · subst e
      rw [up1_self, up1_self, if_pos ⟨rfl, rfl⟩, if_pos ⟨rfl, rfl⟩]
      refine ⟨rfl, fun z => ?_⟩
      rcases hst with ⟨rfl, rfl⟩ | rfl | ⟨rfl, rfl⟩
      · rw [if_neg (by decide)]
      · rcases z with z | z <;> exact absurd z (by decide)
      · rw [if_pos rfl]
    · rw [up1_ne _ _ e, up1_ne _ _ e, if_neg (fun z => e z.2), if_neg (fun z => e z.2)]
      exact ⟨rfl, fun _ => rfl⟩
def lifeF (S : Ms) (i : Nat) (lv : Int32) : Ms := forgetF (pT (pT S 474 i lv) 475 i 1) (nI i) 2147483647
def lowerF (S : Ms) (i : Nat) (l : Nat) : Ms := forgetF (pT S 475 i (nI l)) (nI i) (nI l)
theorem rc_pT {f j : Nat} {v : Int32} (hf : f ∉ [477, 478, 479, 481]) : recs (pT S f j v) = recs S := by
  unfold recs rc
  rw [nR_pT, mT_pT_ne S j v (fun z => hf (by rw [← z]; decide)), mT_pT_ne S j v (fun z => hf (by rw [← z]; decide)), mT_pT_ne S j v (fun z => hf (by rw [← z]; decide)), mT_pT_ne S j v (fun z => hf (by rw [← z]; decide)), show mJ (pT S f j v) 480 = mJ S 480 from rfl]
theorem fR_life (hW : WF1 S) {i : Nat} {lv : Int32} (o n : Int32) : fR (lifeF S i lv) o n = if o = nI i ∧ n < 2147483647 then none else fR S o n := by
  unfold lifeF
  rw [fR_forget (WF1_pT (by decide) (WF1_pT (by decide) hW))]
  unfold fR
  rw [rc_pT (by decide), rc_pT (by decide)]
theorem fR_lower (hW : WF1 S) {i l : Nat} (o n : Int32) : fR (lowerF S i l) o n = if o = nI i ∧ n < nI l then none else fR S o n := by
  unfold lowerF
  rw [fR_forget (WF1_pT (by decide) hW)]
  unfold fR
  rw [rc_pT (by decide)]
theorem SX_life {i : Nat} {lv : Int32} : SX SMem S (lifeF S i lv) := (SX_pT (by decide)).tr ((SX_pT (by decide)).tr ((SX_forget _ _).sub (by decide)))
theorem SX_lower {i l : Nat} : SX SMem S (lowerF S i l) := (SX_pT (by decide)).tr ((SX_forget _ _).sub (by decide))
theorem life_T {i : Nat} {lv : Int32} (j : Nat) : mT (lifeF S i lv) 474 j = (if j = i then lv else mT S 474 j) ∧ mT (lifeF S i lv) 475 j = (if j = i then 1 else mT S 475 j) := by
  unfold lifeF
  rw [forget_T _ _ (by decide), forget_T _ _ (by decide)]
  constructor <;> simp [mT_pT]
theorem lower_T {i l : Nat} (j : Nat) : mT (lowerF S i l) 474 j = mT S 474 j ∧ mT (lowerF S i l) 475 j = (if j = i then nI l else mT S 475 j) := by
  unfold lowerF
  rw [forget_T _ _ (by decide), forget_T _ _ (by decide)]
  constructor <;> simp [mT_pT]
theorem c_lifeR {i : Nat} {lv : Int32} (hr : Rep w as S h) (hI1 : Inj w) (hW : WF1 S) (hi : i < 40) (hl : LoOK S i) : Mt x 1 kX3_beginLife 0 0 [.ref (w 11 i), .int lv] h (fun z h' => z = none ∧ Rep w as (lifeF S i lv) h' ∧ HX MemX h h') := by
  have hl2 := hl.2
  have hl1 := hl.1
  refine Mt.weak (fun z h' q => ?_) (c_beginLife3 (Rep.mk hr.1 hi) (hr.2.2.2.2.2.2 i hi) (by omega) hl1)
  obtain ⟨q1, hF, hM⟩ := q
  refine ⟨q1, Rep_mem hI1 hi SX_life (fun j hj hj2 => ?_) hF ?_ hr, hF.x⟩
  · obtain ⟨t1, t2⟩ := life_T (S := S) (i := i) (lv := lv) j
    rw [t1, t2, if_neg hj, if_neg hj]
    refine ⟨rfl, rfl, stF_fR2 (i := i) (fun n => ?_)⟩
    rw [fR_life hW, if_neg (fun z => nI_ne hi hj2 hj z.1)]
  · obtain ⟨t1, t2⟩ := life_T (S := S) (i := i) (lv := lv) i
    rw [t1, t2, if_pos rfl, if_pos rfl]
    refine MR_congr (fun n n1 n2 => ?_) hM
    refine ⟨?_, fun z => by rcases z with z | z <;> exact absurd z (by decide)⟩
    have n2' : n < 1 + tn (mI S 448) := n2
    rw [stF_R, fR_life hW, if_pos ⟨rfl, by rw [n_lt, nI_int (by omega), show (2147483647 : Int32).toInt = 2147483647 from by decide]; omega⟩]
    rfl
theorem c_raiseR {i l : Nat} (hr : Rep w as S h) (hI1 : Inj w) (hW : WF1 S) (hR : RWn S) (hi : i < 40) (hl : LoOK S i) (hll : l < 1000) : Mt x 1 kX3_raiseLow 0 0 [.ref (w 11 i), .int (nI l)] h (fun z h' => z = none ∧ Rep w as (if tn (mT S 475 i) < l then lowerF S i l else S) h' ∧ HX MemX h h') := by
  have hl2 := hl.2
  have hl1 := hl.1
  refine Mt.weak (fun z h' q => ?_) (c_raiseLow (Rep.mk hr.1 hi) (hr.2.2.2.2.2.2 i hi) (by omega) (show l < 1000000 by omega) hl1)
  obtain ⟨q1, hF, hM⟩ := q
  refine ⟨q1, ?_, hF.x⟩
  by_cases c : tn (mT S 475 i) < l
  · rw [if_pos c] at hM ⊢
    refine Rep_mem hI1 hi SX_lower (fun j hj hj2 => ?_) hF ?_ hr
    · obtain ⟨t1, t2⟩ := lower_T (S := S) (i := i) (l := l) j
      rw [t1, t2, if_neg hj]
      refine ⟨rfl, rfl, stF_fR2 (i := i) (fun n => ?_)⟩
      rw [fR_lower hW, if_neg (fun z => nI_ne hi hj2 hj z.1)]
    · obtain ⟨t1, t2⟩ := lower_T (S := S) (i := i) (l := l) i
      rw [t1, t2, if_pos rfl, tn_nI (by omega)]
      refine MR_congr (fun n n1 n2 => ?_) hM
      have e : fR (lowerF S i l) (nI i) (nI n) = fR S (nI i) (nI n) := by
        rw [fR_lower hW, if_neg (fun z => by have := z.2; rw [nI_lti (by omega) (by omega)] at this; omega)]
      refine ⟨?_, fun _ => by rw [anF_fR, anF_fR, e]⟩
      rw [stF_R, e, ← stF_R]
      split
      · rfl
      · next c2 => exact stF_out hR hi (by omega) (fun z => c2 z.2)
  · rw [if_neg c] at hM ⊢
    exact Rep_mem (S' := S) hI1 hi SX.rf (fun j _ _ => ⟨rfl, rfl, rfl, rfl⟩) hF hM hr
theorem mem_forget (hW : WF1 S) {o b : Int32} {e : om_rc} (he : e ∈ recs (forgetF S o b)) : e ∈ recs S ∧ (e.1 ≠ o ∨ b ≤ e.2.1) := by
  rw [recs_forget hW, List.mem_filter] at he
  unfold kpB at he
  rw [decide_eq_true_iff] at he
  exact he
theorem RWn_life (hW : WF1 S) (hR : RWn S) {i : Nat} {lv : Int32} (hi : i < 40) : RWn (lifeF S i lv) := by
  intro e he
  obtain ⟨h1, h2⟩ := mem_forget (WF1_pT (by decide) (WF1_pT (by decide) hW)) he
  rw [rc_pT (by decide), rc_pT (by decide)] at h1
  obtain ⟨j, n, k1, k2, k3, k4, k5, k6⟩ := hR e h1
  have hj : j ≠ i := fun z => by
    rcases h2 with q | q
    · exact q (by rw [k1, z])
    · rw [k3, n_le, nI_int (by omega), show (2147483647 : Int32).toInt = 2147483647 from by decide] at q; omega
  refine ⟨j, n, k1, k2, k3, k4, ?_⟩
  rw [(life_T j).2, if_neg hj, (SX_life 448 (by decide)).1]
  exact ⟨k5, k6⟩
theorem RWn_lower (hW : WF1 S) (hR : RWn S) {i l : Nat} (hi : i < 40) (hl : l < 1000) (hlo : tn (mT S 475 i) < l) : RWn (lowerF S i l) := by
  intro e he
  obtain ⟨h1, h2⟩ := mem_forget (WF1_pT (by decide) hW) he
  rw [rc_pT (by decide)] at h1
  obtain ⟨j, n, k1, k2, k3, k4, k5, k6⟩ := hR e h1
  refine ⟨j, n, k1, k2, k3, k4, ?_⟩
  rw [(lower_T j).2, (SX_lower 448 (by decide)).1]
  by_cases hj : j = i
  · rw [if_pos hj, tn_nI (by omega)]
    subst hj
    rcases h2 with q | q
    · exact absurd k1 q
    · rw [k3, nI_lei (by omega) (by omega)] at q
      exact ⟨q, by omega⟩
  · rw [if_neg hj]
    exact ⟨k5, k6⟩
theorem mem_put (hW : WF1 S) (hr : nR S < 700) {o num st : Int32} {v : Int64} {own : Int32} {e : om_rc} (he : e ∈ recs (putRecF S o num st v own)) : e ∈ recs S ∨ e = (o, num, st, v, own) := by
  unfold recs at he
  rw [List.mem_map] at he
  obtain ⟨r, hr1, hr2⟩ := he
  rw [List.mem_range] at hr1
  unfold putRecF at hr1 hr2
  cases q : fnd S o num with
  | some k =>
    rw [q] at hr1 hr2
    simp only at hr1 hr2
    rw [rc_putAt] at hr2
    split at hr2
    · exact Or.inr hr2.symm
    · left
      unfold recs
      rw [List.mem_map]
      exact ⟨r, List.mem_range.mpr hr1, hr2⟩
  | none =>
    rw [q] at hr1 hr2
    simp only at hr1 hr2
    rw [rc_putAt, rc_pI] at hr2
    split at hr2
    · exact Or.inr hr2.symm
    · next c =>
      left
      unfold recs
      rw [List.mem_map]
      refine ⟨r, List.mem_range.mpr ?_, hr2⟩
      have := put_n hW hr o num st v own
      unfold putRecF at this
      rw [q] at this
      simp only at this
      omega
theorem RWn_put (hW : WF1 S) (h7 : nR S < 700) (hR : RWn S) {i num : Nat} {st : Int32} {v : Int64} {own : Int32} (hi : i < 40) (hn : num < 1000) (h1 : tn (mT S 475 i) ≤ num) (h2 : num < tn (mT S 475 i) + tn (mI S 448)) : RWn (putRecF S (nI i) (nI num) st v own) := by
  intro e he
  rw [put_I _ _ _ _ _ (by decide), put_T _ _ _ _ _ (by decide)]
  rcases mem_put hW h7 he with q | q
  · exact hR e q
  · exact ⟨i, num, by rw [q], hi, by rw [q], hn, h1, h2⟩
end M3
