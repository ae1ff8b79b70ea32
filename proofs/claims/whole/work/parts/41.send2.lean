/-! the class's senders -/
section SC
variable {x : om_x} {w : om_w} {h : Hp} {as : Nat → Nat} {S : Ms} {g : Nat}
def SndX : List Nat := [68, 128, 129, 130, 131, 132, 133, 256, 258]
theorem asksH_x {h : Hp} {a k : Nat} {v : Int32} : HX [128, 129, 130, 131, 132, 133] h (asksH h a k v) := by
  unfold asksH
  exact (HX_sR (by decide)).tr ((HX_sI (by decide)).tr ((HX_sI (by decide)).tr ((HX_sI (by decide)).tr ((HX_sI (by decide)).tr (HX_sJ (by decide))))))
theorem repliesH_x {h : Hp} {a k : Nat} {v : Int64} : HX [128, 129, 130, 131, 132, 133] h (repliesH h a k v) := by
  unfold repliesH
  exact asksH_x.tr ((HX_sI (by decide)).tr (HX_sJ (by decide)))
theorem refusesH_x {h : Hp} {a k : Nat} : HX [128, 129, 130, 131, 132, 133] h (refusesH h a k) := by
  unfold refusesH
  exact repliesH_x.tr (HX_sI (by decide))
theorem asksH_ne {h : Hp} {a k b : Nat} {v : Int32} (hb : b ≠ a) : hR (asksH h a k v) 128 b = hR h 128 b ∧ hI (asksH h a k v) 129 b = hI h 129 b ∧ hI (asksH h a k v) 130 b = hI h 130 b ∧ hI (asksH h a k v) 131 b = hI h 131 b ∧ hI (asksH h a k v) 132 b = hI h 132 b ∧ hJ (asksH h a k v) 133 b = hJ h 133 b := by
  unfold asksH
  simp [hI_sI, hI_sJ, hI_sR, hJ_sI, hJ_sJ, hJ_sR, hR_sI, hR_sJ, hR_sR, hb]
theorem repliesH_ne {h : Hp} {a k b : Nat} {v : Int64} (hb : b ≠ a) : hR (repliesH h a k v) 128 b = hR h 128 b ∧ hI (repliesH h a k v) 129 b = hI h 129 b ∧ hI (repliesH h a k v) 130 b = hI h 130 b ∧ hI (repliesH h a k v) 131 b = hI h 131 b ∧ hI (repliesH h a k v) 132 b = hI h 132 b ∧ hJ (repliesH h a k v) 133 b = hJ h 133 b := by
  have q := asksH_ne (h := h) (k := k) (v := 0) hb
  unfold repliesH
  simp [hI_sI, hI_sJ, hI_sR, hJ_sI, hJ_sJ, hJ_sR, hR_sI, hR_sJ, hR_sR, hb, q]
theorem refusesH_ne {h : Hp} {a k b : Nat} (hb : b ≠ a) : hR (refusesH h a k) 128 b = hR h 128 b ∧ hI (refusesH h a k) 129 b = hI h 129 b ∧ hI (refusesH h a k) 130 b = hI h 130 b ∧ hI (refusesH h a k) 131 b = hI h 131 b ∧ hI (refusesH h a k) 132 b = hI h 132 b ∧ hJ (refusesH h a k) 133 b = hJ h 133 b := by
  have q := repliesH_ne (h := h) (k := k) (v := 0) hb
  unfold refusesH
  simp [hI_sI, hI_sJ, hI_sR, hJ_sI, hJ_sJ, hJ_sR, hR_sI, hR_sJ, hR_sR, hb, q]
theorem asksH_at {h : Hp} {a k : Nat} {v : Int32} : hR (asksH h a k v) 128 a = some k ∧ hI (asksH h a k v) 129 a = 0 ∧ hI (asksH h a k v) 130 a = 0 ∧ hI (asksH h a k v) 131 a = 0 ∧ hI (asksH h a k v) 132 a = v := by
  unfold asksH
  simp [hI_sI, hI_sJ, hI_sR, hJ_sI, hJ_sJ, hJ_sR, hR_sI, hR_sJ, hR_sR]
theorem repliesH_at {h : Hp} {a k : Nat} {v : Int64} : hR (repliesH h a k v) 128 a = some k ∧ hI (repliesH h a k v) 129 a = 1 ∧ hI (repliesH h a k v) 130 a = 0 ∧ hI (repliesH h a k v) 131 a = 0 ∧ hJ (repliesH h a k v) 133 a = v := by
  have q := asksH_at (h := h) (a := a) (k := k) (v := 0)
  unfold repliesH
  simp [hI_sI, hI_sJ, hI_sR, hJ_sI, hJ_sJ, hJ_sR, hR_sI, hR_sJ, hR_sR, q]
theorem refusesH_at {h : Hp} {a k : Nat} : hR (refusesH h a k) 128 a = some k ∧ hI (refusesH h a k) 129 a = 1 ∧ hI (refusesH h a k) 130 a = 1 ∧ hI (refusesH h a k) 131 a = 0 := by
  have q := repliesH_at (h := h) (a := a) (k := k) (v := 0)
  unfold refusesH
  simp [hI_sI, hI_sJ, hI_sR, hJ_sI, hJ_sJ, hJ_sR, hR_sI, hR_sJ, hR_sR, q]
theorem hL120 (hW : WF1 S) : nL S = 120 ↔ mI S 468 = 120 := by
  have e := inN_tn hW.1.2.1
  constructor
  · intro z
    rw [e.1]
    show nI (nL S) = 120
    rw [z]
    rfl
  · intro z; unfold nL; rw [z]; rfl
/-- what leaves, or doesn't, as the reference tells it by its flag -/
def lv (S : Ms) (b : Int32) : Prop := (b = 0 ∧ mI S 485 ≠ 0) ∨ (b = 1 ∧ mI S 485 = 0)
set_option maxRecDepth 100000 in
set_option maxHeartbeats 4000000 in
theorem c_sendAnswer {a b : Int32} {v : Int64} (hr : Rep w as S h) (hW : WF1 S) (ha : inN a (nA S) = true) (hv : v ≠ -3) (hb : lv S b) : Mt x 2 kX6_sendAnswer 0 0 [.ref (w 0 0), .ref (as (tn a)), .long v, .int b] h (fun z h' => z = some (.int (mI (sendF S a true v) 486 - mI S 486)) ∧ Rep w as (sendF S a true v) h' ∧ HX SndX h h') := by
  refine Mt.ofJ mkX6_sendAnswer.1 (Nat.le_of_ble_eq_true rfl) ?_
  obtain ⟨f, lt, hL, hk3, hinj, hok⟩ := hr.lr hW
  have o1 := hr.1.1.1
  have o5 := hr.1.1.2.2.2.2
  have r1 := hL.1
  have ka := (hr.2.2.2.1.2.2.1 _ (inN_tn ha).2.1).1
  rcases hb with ⟨rfl, h9⟩ | ⟨rfl, h0⟩
  · have e : sendF S a true v = S := by unfold sendF; rw [if_pos h9]
    rw [e, Int32.sub_self]
    refine J_iload dX6_sendAnswer_0 rfl ?_
    refine J_if_ne (tgt := 7) dX6_sendAnswer_2 (by decide) (fun c2 => ((show False from c2 rfl)).elim) (fun c2 => ?_)
    refine J_iconst (v := 0) dX6_sendAnswer_5 (by decide) ?_
    exact J_ireturn dX6_sendAnswer_6 rfl ⟨rfl, hr, HX.rf⟩ (Nat.le_of_ble_eq_true rfl) (Nat.le_of_ble_eq_true rfl)
  · rw [sent_z h0]
    have hs : (f + nL S) % 128 < 128 := Nat.mod_lt _ (by decide)
    by_cases hl : nL S = 120
    · skip
      refine J_iload dX6_sendAnswer_0 rfl ?_
      refine J_if_ne (tgt := 7) dX6_sendAnswer_2 (by decide) (fun c2 => ?_) (fun c2 => ((show False from absurd c2 (by decide))).elim)
      refine J_aload_n dX6_sendAnswer_7 rfl rfl isR_r ?_
      refine J_getRr dX6_sendAnswer_8 g_X6_30 (by first | with_reducible assumption | (simp only [hK_sI, hK_sJ, hK_sR, hK_tI, hK_tJ, hK_tR]; with_reducible assumption)) (by first | with_reducible assumption | (simp only [hR_sI, hR_sJ, hR_tI, hR_tJ, hR_tR]; with_reducible assumption)) ?_
      refine J_callV (c_fresh hL) dX6_sendAnswer_11 ml_X6_154 mkX4_fresh rfl (by first | with_reducible assumption | (simp only [hK_sI, hK_sJ, hK_sR, hK_tI, hK_tJ, hK_tR]; with_reducible assumption)) (by decide) rfl rfl (Nat.le_of_ble_eq_true rfl) ⟨Nat.le_of_ble_eq_true rfl, Nat.le_of_ble_eq_true rfl⟩ ⟨Nat.le_of_ble_eq_true rfl, Nat.le_of_ble_eq_true rfl⟩ (fun v11 hp11 q11 => ?_)
      rw [if_pos hl] at q11
      obtain ⟨rfl, z11⟩ := q11
      refine J_astore dX6_sendAnswer_14 isR_n (by decide) ?_
      refine J_aload dX6_sendAnswer_16 rfl isR_n ?_
      refine J_ifnull_n (tgt := 28) dX6_sendAnswer_18 (by decide) ?_
      refine J_iconst (v := 1) dX6_sendAnswer_28 (by decide) ?_
      exact J_ireturn dX6_sendAnswer_29 rfl ⟨rfl, Rep_lost (M := [258]) hr h0 ((hL120 hW).mp hl) (by rw [z11]; exact HX_sI (by decide)) (by rw [z11, hI_sI, if_pos ⟨rfl, rfl⟩]), by rw [z11]; exact HX_sI (by decide)⟩ (Nat.le_of_ble_eq_true rfl) (Nat.le_of_ble_eq_true rfl)
    · have hk := hk3 _ hs
      have hH : HX [256] h (sI h 256 (w 4 0) (nI (nL S + 1))) := HX_sI (by decide)
      refine J_iload dX6_sendAnswer_0 rfl ?_
      refine J_if_ne (tgt := 7) dX6_sendAnswer_2 (by decide) (fun c2 => ?_) (fun c2 => ((show False from absurd c2 (by decide))).elim)
      refine J_aload_n dX6_sendAnswer_7 rfl rfl isR_r ?_
      refine J_getRr dX6_sendAnswer_8 g_X6_30 (by first | with_reducible assumption | (simp only [hK_sI, hK_sJ, hK_sR, hK_tI, hK_tJ, hK_tR]; with_reducible assumption)) (by first | with_reducible assumption | (simp only [hR_sI, hR_sJ, hR_tI, hR_tJ, hR_tR]; with_reducible assumption)) ?_
      refine J_callV (c_fresh hL) dX6_sendAnswer_11 ml_X6_154 mkX4_fresh rfl (by first | with_reducible assumption | (simp only [hK_sI, hK_sJ, hK_sR, hK_tI, hK_tJ, hK_tR]; with_reducible assumption)) (by decide) rfl rfl (Nat.le_of_ble_eq_true rfl) ⟨Nat.le_of_ble_eq_true rfl, Nat.le_of_ble_eq_true rfl⟩ ⟨Nat.le_of_ble_eq_true rfl, Nat.le_of_ble_eq_true rfl⟩ (fun v11 hp11 q11 => ?_)
      rw [if_neg hl] at q11
      obtain ⟨rfl, z11⟩ := q11
      have hk' : hK hp11 (lt ((f + nL S) % 128)) = 3 := by rw [z11, hK_sI]; exact hk
      refine J_astore dX6_sendAnswer_14 isR_r (by decide) ?_
      refine J_aload dX6_sendAnswer_16 rfl isR_r ?_
      refine J_ifnull_r dX6_sendAnswer_18 ?_
      refine J_aload dX6_sendAnswer_21 rfl isR_r ?_
      refine J_pc (pc' := 23) rfl ?_
      refine J_aload_n dX6_sendAnswer_23 rfl rfl isR_r ?_
      refine J_lload_n dX6_sendAnswer_24 rfl rfl ?_
      refine J_callV (c_replies hk') dX6_sendAnswer_25 ml_X6_271 mkX2_replies rfl (by first | with_reducible assumption | (simp only [hK_sI, hK_sJ, hK_sR, hK_tI, hK_tJ, hK_tR]; with_reducible assumption)) (by decide) rfl rfl (Nat.le_of_ble_eq_true rfl) ⟨Nat.le_of_ble_eq_true rfl, Nat.le_of_ble_eq_true rfl⟩ ⟨Nat.le_of_ble_eq_true rfl, Nat.le_of_ble_eq_true rfl⟩ (fun v25 hp25 q25 => ?_)
      obtain ⟨rfl, z25⟩ := q25
      refine J_iconst (v := 1) dX6_sendAnswer_28 (by decide) ?_
      exact J_ireturn dX6_sendAnswer_29 rfl (by
       have hH1 : HX [256] h hp11 := by rw [z11]; exact hH
       have hH2 : HX [128, 129, 130, 131, 132, 133] hp11 hp25 := by rw [z25]; exact repliesH_x
       have hH3 : HX [68, 128, 129, 130, 131, 132, 133, 256] h hp25 := (hH1.sub (by decide)).tr (hH2.sub (by decide))
       refine ⟨rfl, Rep_sent hr hW ⟨hL, hk3, hinj, hok⟩ h0 hl hH3 (hr.2.2.1.x (SX.rf (L := [])) ((hH1.sub (M := [128, 129, 130, 131, 132, 133, 256]) (by decide)).tr (hH2.sub (by decide))) (by decide) (by decide) hr.1) ?_ (fun b hb => ?_) ?_, hH3.sub (by decide)⟩
       · rw [(hH2.2.1 256 _ (by decide) (by rw [z11, hK_sI, r1]; decide)).1, z11, hI_sI, if_pos ⟨rfl, rfl⟩]
       · rw [z25]
         have q := repliesH_ne (h := hp11) (k := as (tn a)) (v := v) hb
         rw [q.1, q.2.1, q.2.2.1, q.2.2.2.1, q.2.2.2.2.1, q.2.2.2.2.2, z11, hR_sI, hJ_sI, hI_ne 129 (by decide), hI_ne 130 (by decide), hI_ne 131 (by decide), hI_ne 132 (by decide)]
         exact ⟨rfl, rfl, rfl, rfl, rfl, rfl⟩
       · rw [z25]
         have q := repliesH_at (h := hp11) (a := lt ((f + nL S) % 128)) (k := as (tn a)) (v := v)
         exact ⟨q.1, q.2.1, by rw [if_neg (fun z => hv z.2)]; exact q.2.2.1, q.2.2.2.1, (fun z => by cases z), fun _ _ => q.2.2.2.2⟩) (Nat.le_of_ble_eq_true rfl) (Nat.le_of_ble_eq_true rfl)
set_option maxRecDepth 100000 in
set_option maxHeartbeats 4000000 in
theorem c_sendOver {a b : Int32} (hr : Rep w as S h) (hW : WF1 S) (ha : inN a (nA S) = true) (hb : lv S b) : Mt x 3 kX6_sendOver 0 0 [.ref (w 0 0), .ref (as (tn a)), .int b] h (fun z h' => z = some (.int (mI (sendF S a true (-3)) 486 - mI S 486)) ∧ Rep w as (sendF S a true (-3)) h' ∧ HX SndX h h') := by
  refine Mt.ofJ mkX6_sendOver.1 (Nat.le_of_ble_eq_true rfl) ?_
  obtain ⟨f, lt, hL, hk3, hinj, hok⟩ := hr.lr hW
  have o1 := hr.1.1.1
  have o5 := hr.1.1.2.2.2.2
  have r1 := hL.1
  have ka := (hr.2.2.2.1.2.2.1 _ (inN_tn ha).2.1).1
  rcases hb with ⟨rfl, h9⟩ | ⟨rfl, h0⟩
  · have e : sendF S a true (-3) = S := by unfold sendF; rw [if_pos h9]
    rw [e, Int32.sub_self]
    refine J_iload_n dX6_sendOver_0 rfl rfl ?_
    refine J_if_ne (tgt := 6) dX6_sendOver_1 (by decide) (fun c1 => ((show False from c1 rfl)).elim) (fun c1 => ?_)
    refine J_iconst (v := 0) dX6_sendOver_4 (by decide) ?_
    exact J_ireturn dX6_sendOver_5 rfl ⟨rfl, hr, HX.rf⟩ (Nat.le_of_ble_eq_true rfl) (Nat.le_of_ble_eq_true rfl)
  · rw [sent_z h0]
    have hs : (f + nL S) % 128 < 128 := Nat.mod_lt _ (by decide)
    by_cases hl : nL S = 120
    · skip
      refine J_iload_n dX6_sendOver_0 rfl rfl ?_
      refine J_if_ne (tgt := 6) dX6_sendOver_1 (by decide) (fun c1 => ?_) (fun c1 => ((show False from absurd c1 (by decide))).elim)
      refine J_aload_n dX6_sendOver_6 rfl rfl isR_r ?_
      refine J_getRr dX6_sendOver_7 g_X6_30 (by first | with_reducible assumption | (simp only [hK_sI, hK_sJ, hK_sR, hK_tI, hK_tJ, hK_tR]; with_reducible assumption)) (by first | with_reducible assumption | (simp only [hR_sI, hR_sJ, hR_tI, hR_tJ, hR_tR]; with_reducible assumption)) ?_
      refine J_callV (c_fresh hL) dX6_sendOver_10 ml_X6_154 mkX4_fresh rfl (by first | with_reducible assumption | (simp only [hK_sI, hK_sJ, hK_sR, hK_tI, hK_tJ, hK_tR]; with_reducible assumption)) (by decide) rfl rfl (Nat.le_of_ble_eq_true rfl) ⟨Nat.le_of_ble_eq_true rfl, Nat.le_of_ble_eq_true rfl⟩ ⟨Nat.le_of_ble_eq_true rfl, Nat.le_of_ble_eq_true rfl⟩ (fun v10 hp10 q10 => ?_)
      rw [if_pos hl] at q10
      obtain ⟨rfl, z10⟩ := q10
      refine J_astore_n dX6_sendOver_13 rfl isR_n (by decide) ?_
      refine J_aload_n dX6_sendOver_14 rfl rfl isR_n ?_
      refine J_ifnull_n (tgt := 23) dX6_sendOver_15 (by decide) ?_
      refine J_iconst (v := 1) dX6_sendOver_23 (by decide) ?_
      exact J_ireturn dX6_sendOver_24 rfl ⟨rfl, Rep_lost (M := [258]) hr h0 ((hL120 hW).mp hl) (by rw [z10]; exact HX_sI (by decide)) (by rw [z10, hI_sI, if_pos ⟨rfl, rfl⟩]), by rw [z10]; exact HX_sI (by decide)⟩ (Nat.le_of_ble_eq_true rfl) (Nat.le_of_ble_eq_true rfl)
    · have hk := hk3 _ hs
      have hH : HX [256] h (sI h 256 (w 4 0) (nI (nL S + 1))) := HX_sI (by decide)
      refine J_iload_n dX6_sendOver_0 rfl rfl ?_
      refine J_if_ne (tgt := 6) dX6_sendOver_1 (by decide) (fun c1 => ?_) (fun c1 => ((show False from absurd c1 (by decide))).elim)
      refine J_aload_n dX6_sendOver_6 rfl rfl isR_r ?_
      refine J_getRr dX6_sendOver_7 g_X6_30 (by first | with_reducible assumption | (simp only [hK_sI, hK_sJ, hK_sR, hK_tI, hK_tJ, hK_tR]; with_reducible assumption)) (by first | with_reducible assumption | (simp only [hR_sI, hR_sJ, hR_tI, hR_tJ, hR_tR]; with_reducible assumption)) ?_
      refine J_callV (c_fresh hL) dX6_sendOver_10 ml_X6_154 mkX4_fresh rfl (by first | with_reducible assumption | (simp only [hK_sI, hK_sJ, hK_sR, hK_tI, hK_tJ, hK_tR]; with_reducible assumption)) (by decide) rfl rfl (Nat.le_of_ble_eq_true rfl) ⟨Nat.le_of_ble_eq_true rfl, Nat.le_of_ble_eq_true rfl⟩ ⟨Nat.le_of_ble_eq_true rfl, Nat.le_of_ble_eq_true rfl⟩ (fun v10 hp10 q10 => ?_)
      rw [if_neg hl] at q10
      obtain ⟨rfl, z10⟩ := q10
      have hk' : hK hp10 (lt ((f + nL S) % 128)) = 3 := by rw [z10, hK_sI]; exact hk
      refine J_astore_n dX6_sendOver_13 rfl isR_r (by decide) ?_
      refine J_aload_n dX6_sendOver_14 rfl rfl isR_r ?_
      refine J_ifnull_r dX6_sendOver_15 ?_
      refine J_aload_n dX6_sendOver_18 rfl rfl isR_r ?_
      refine J_pc (pc' := 19) rfl ?_
      refine J_aload_n dX6_sendOver_19 rfl rfl isR_r ?_
      refine J_callV (c_refuses hk') dX6_sendOver_20 ml_X6_275 mkX2_refuses rfl (by first | with_reducible assumption | (simp only [hK_sI, hK_sJ, hK_sR, hK_tI, hK_tJ, hK_tR]; with_reducible assumption)) (by decide) rfl rfl (Nat.le_of_ble_eq_true rfl) ⟨Nat.le_of_ble_eq_true rfl, Nat.le_of_ble_eq_true rfl⟩ ⟨Nat.le_of_ble_eq_true rfl, Nat.le_of_ble_eq_true rfl⟩ (fun v20 hp20 q20 => ?_)
      obtain ⟨rfl, z20⟩ := q20
      refine J_iconst (v := 1) dX6_sendOver_23 (by decide) ?_
      exact J_ireturn dX6_sendOver_24 rfl (by
       have hH1 : HX [256] h hp10 := by rw [z10]; exact hH
       have hH2 : HX [128, 129, 130, 131, 132, 133] hp10 hp20 := by rw [z20]; exact refusesH_x
       have hH3 : HX [68, 128, 129, 130, 131, 132, 133, 256] h hp20 := (hH1.sub (by decide)).tr (hH2.sub (by decide))
       refine ⟨rfl, Rep_sent hr hW ⟨hL, hk3, hinj, hok⟩ h0 hl hH3 (hr.2.2.1.x (SX.rf (L := [])) ((hH1.sub (M := [128, 129, 130, 131, 132, 133, 256]) (by decide)).tr (hH2.sub (by decide))) (by decide) (by decide) hr.1) ?_ (fun b hb => ?_) ?_, hH3.sub (by decide)⟩
       · rw [(hH2.2.1 256 _ (by decide) (by rw [z10, hK_sI, r1]; decide)).1, z10, hI_sI, if_pos ⟨rfl, rfl⟩]
       · rw [z20]
         have q := refusesH_ne (h := hp10) (k := as (tn a)) hb
         rw [q.1, q.2.1, q.2.2.1, q.2.2.2.1, q.2.2.2.2.1, q.2.2.2.2.2, z10, hR_sI, hJ_sI, hI_ne 129 (by decide), hI_ne 130 (by decide), hI_ne 131 (by decide), hI_ne 132 (by decide)]
         exact ⟨rfl, rfl, rfl, rfl, rfl, rfl⟩
       · rw [z20]
         have q := refusesH_at (h := hp10) (a := lt ((f + nL S) % 128)) (k := as (tn a))
         exact ⟨q.1, q.2.1, by rw [if_pos ⟨rfl, rfl⟩]; exact q.2.2.1, q.2.2.2, (fun z => by cases z), fun _ z => absurd rfl z⟩) (Nat.le_of_ble_eq_true rfl) (Nat.le_of_ble_eq_true rfl)
theorem WF1.nm (hW : WF1 S) {a : Int32} (ha : inN a (nA S) = true) : mT S 454 (tn a) = nI (tn (mT S 454 (tn a))) ∧ tn (mT S 454 (tn a)) < 10 := by
  have := inN_tn (hW.ask ha).1
  exact ⟨this.1, this.2.1⟩
set_option maxRecDepth 100000 in
set_option maxHeartbeats 4000000 in
theorem c_sendAsk {a b : Int32} (hr : Rep w as S h) (hI1 : Inj w) (hW : WF1 S) (hLf : LifeOK S) (ha : inN a (nA S) = true) (hb : lv S b) : Mt x 2 kX6_sendAsk 0 0 [.ref (w 0 0), .ref (as (tn a)), .int b] h (fun z h' => z = some (.int (mI (sendF S a false 0) 486 - mI S 486)) ∧ Rep w as (sendF S a false 0) h' ∧ HX SndX h h') := by
  refine Mt.ofJ mkX6_sendAsk.1 (Nat.le_of_ble_eq_true rfl) ?_
  obtain ⟨f, lt, hL, hk3, hinj, hok⟩ := hr.lr hW
  have o1 := hr.1.1.1
  have o5 := hr.1.1.2.2.2.2
  have r1 := hL.1
  obtain ⟨ka, -, q2, -⟩ := hr.2.2.2.1.2.2.1 _ (inN_tn ha).2.1
  obtain ⟨hn1, hn2⟩ := hW.nm ha
  have hn3 := (hW.ask ha).1
  obtain ⟨-, k2, -⟩ := hr.1.2.2.1 _ hn2
  rcases hb with ⟨rfl, h9⟩ | ⟨rfl, h0⟩
  · have e : sendF S a false 0 = S := by unfold sendF; rw [if_pos h9]
    rw [e, Int32.sub_self]
    refine J_aload_n dX6_sendAsk_0 rfl rfl isR_r ?_
    refine J_aload_n dX6_sendAsk_1 rfl rfl isR_r ?_
    refine J_getI dX6_sendAsk_2 g_X6_89 (by first | with_reducible assumption | (simp only [hK_sI, hK_sJ, hK_sR, hK_tI, hK_tJ, hK_tR]; with_reducible assumption)) ?_
    rw [q2]
    refine J_callV (c_endOf hr.1) dX6_sendAsk_5 ml_X6_64 mkX6_endOf rfl (by first | with_reducible assumption | (simp only [hK_sI, hK_sJ, hK_sR, hK_tI, hK_tJ, hK_tR]; with_reducible assumption)) (by decide) rfl rfl (Nat.le_of_ble_eq_true rfl) ⟨Nat.le_of_ble_eq_true rfl, Nat.le_of_ble_eq_true rfl⟩ ⟨Nat.le_of_ble_eq_true rfl, Nat.le_of_ble_eq_true rfl⟩ (fun v5 hp5 q5 => ?_)
    obtain ⟨rfl, z5⟩ := q5
    rw [z5]
    rw [hn3]
    refine J_astore_n dX6_sendAsk_8 rfl isR_r (by decide) ?_
    refine J_iload_n dX6_sendAsk_9 rfl rfl ?_
    refine J_if_eq (tgt := 17) dX6_sendAsk_10 (by decide) (fun c10 => ?_) (fun c10 => ((show False from c10 rfl)).elim)
    refine J_iconst (v := 0) dX6_sendAsk_17 (by decide) ?_
    exact J_ireturn dX6_sendAsk_18 rfl ⟨rfl, hr, HX.rf⟩ (Nat.le_of_ble_eq_true rfl) (Nat.le_of_ble_eq_true rfl)
  · rw [sent_z h0]
    have hs : (f + nL S) % 128 < 128 := Nat.mod_lt _ (by decide)
    by_cases hl : nL S = 120
    · skip
      refine J_aload_n dX6_sendAsk_0 rfl rfl isR_r ?_
      refine J_aload_n dX6_sendAsk_1 rfl rfl isR_r ?_
      refine J_getI dX6_sendAsk_2 g_X6_89 (by first | with_reducible assumption | (simp only [hK_sI, hK_sJ, hK_sR, hK_tI, hK_tJ, hK_tR]; with_reducible assumption)) ?_
      rw [q2]
      refine J_callV (c_endOf hr.1) dX6_sendAsk_5 ml_X6_64 mkX6_endOf rfl (by first | with_reducible assumption | (simp only [hK_sI, hK_sJ, hK_sR, hK_tI, hK_tJ, hK_tR]; with_reducible assumption)) (by decide) rfl rfl (Nat.le_of_ble_eq_true rfl) ⟨Nat.le_of_ble_eq_true rfl, Nat.le_of_ble_eq_true rfl⟩ ⟨Nat.le_of_ble_eq_true rfl, Nat.le_of_ble_eq_true rfl⟩ (fun v5 hp5 q5 => ?_)
      obtain ⟨rfl, z5⟩ := q5
      rw [z5]
      rw [hn3]
      refine J_astore_n dX6_sendAsk_8 rfl isR_r (by decide) ?_
      refine J_iload_n dX6_sendAsk_9 rfl rfl ?_
      refine J_if_eq (tgt := 17) dX6_sendAsk_10 (by decide) (fun c10 => ((show False from absurd c10 (by decide))).elim) (fun c10 => ?_)
      refine J_aload_n dX6_sendAsk_13 rfl rfl isR_r ?_
      refine J_ifnonnull_r (tgt := 19) dX6_sendAsk_14 (by decide) ?_
      refine J_aload_n dX6_sendAsk_19 rfl rfl isR_r ?_
      refine J_pc (pc' := 20) rfl ?_
      refine J_getRr dX6_sendAsk_20 g_X6_30 (by first | with_reducible assumption | (simp only [hK_sI, hK_sJ, hK_sR, hK_tI, hK_tJ, hK_tR]; with_reducible assumption)) (by first | with_reducible assumption | (simp only [hR_sI, hR_sJ, hR_tI, hR_tJ, hR_tR]; with_reducible assumption)) ?_
      refine J_callV (c_fresh hL) dX6_sendAsk_23 ml_X6_154 mkX4_fresh rfl (by first | with_reducible assumption | (simp only [hK_sI, hK_sJ, hK_sR, hK_tI, hK_tJ, hK_tR]; with_reducible assumption)) (by decide) rfl rfl (Nat.le_of_ble_eq_true rfl) ⟨Nat.le_of_ble_eq_true rfl, Nat.le_of_ble_eq_true rfl⟩ ⟨Nat.le_of_ble_eq_true rfl, Nat.le_of_ble_eq_true rfl⟩ (fun v23 hp23 q23 => ?_)
      rw [if_pos hl] at q23
      obtain ⟨rfl, z23⟩ := q23
      refine J_astore dX6_sendAsk_26 isR_n (by decide) ?_
      refine J_aload dX6_sendAsk_28 rfl isR_n ?_
      refine J_ifnull_n (tgt := 43) dX6_sendAsk_30 (by decide) ?_
      refine J_iconst (v := 1) dX6_sendAsk_43 (by decide) ?_
      exact J_ireturn dX6_sendAsk_44 rfl ⟨rfl, Rep_lost (M := [258]) hr h0 ((hL120 hW).mp hl) (by rw [z23]; exact HX_sI (by decide)) (by rw [z23, hI_sI, if_pos ⟨rfl, rfl⟩]), by rw [z23]; exact HX_sI (by decide)⟩ (Nat.le_of_ble_eq_true rfl) (Nat.le_of_ble_eq_true rfl)
    · have hk := hk3 _ hs
      have hH : HX [256] h (sI h 256 (w 4 0) (nI (nL S + 1))) := HX_sI (by decide)
      refine J_aload_n dX6_sendAsk_0 rfl rfl isR_r ?_
      refine J_aload_n dX6_sendAsk_1 rfl rfl isR_r ?_
      refine J_getI dX6_sendAsk_2 g_X6_89 (by first | with_reducible assumption | (simp only [hK_sI, hK_sJ, hK_sR, hK_tI, hK_tJ, hK_tR]; with_reducible assumption)) ?_
      rw [q2]
      refine J_callV (c_endOf hr.1) dX6_sendAsk_5 ml_X6_64 mkX6_endOf rfl (by first | with_reducible assumption | (simp only [hK_sI, hK_sJ, hK_sR, hK_tI, hK_tJ, hK_tR]; with_reducible assumption)) (by decide) rfl rfl (Nat.le_of_ble_eq_true rfl) ⟨Nat.le_of_ble_eq_true rfl, Nat.le_of_ble_eq_true rfl⟩ ⟨Nat.le_of_ble_eq_true rfl, Nat.le_of_ble_eq_true rfl⟩ (fun v5 hp5 q5 => ?_)
      obtain ⟨rfl, z5⟩ := q5
      rw [z5]
      rw [hn3]
      refine J_astore_n dX6_sendAsk_8 rfl isR_r (by decide) ?_
      refine J_iload_n dX6_sendAsk_9 rfl rfl ?_
      refine J_if_eq (tgt := 17) dX6_sendAsk_10 (by decide) (fun c10 => ((show False from absurd c10 (by decide))).elim) (fun c10 => ?_)
      refine J_aload_n dX6_sendAsk_13 rfl rfl isR_r ?_
      refine J_ifnonnull_r (tgt := 19) dX6_sendAsk_14 (by decide) ?_
      refine J_aload_n dX6_sendAsk_19 rfl rfl isR_r ?_
      refine J_pc (pc' := 20) rfl ?_
      refine J_getRr dX6_sendAsk_20 g_X6_30 (by first | with_reducible assumption | (simp only [hK_sI, hK_sJ, hK_sR, hK_tI, hK_tJ, hK_tR]; with_reducible assumption)) (by first | with_reducible assumption | (simp only [hR_sI, hR_sJ, hR_tI, hR_tJ, hR_tR]; with_reducible assumption)) ?_
      refine J_callV (c_fresh hL) dX6_sendAsk_23 ml_X6_154 mkX4_fresh rfl (by first | with_reducible assumption | (simp only [hK_sI, hK_sJ, hK_sR, hK_tI, hK_tJ, hK_tR]; with_reducible assumption)) (by decide) rfl rfl (Nat.le_of_ble_eq_true rfl) ⟨Nat.le_of_ble_eq_true rfl, Nat.le_of_ble_eq_true rfl⟩ ⟨Nat.le_of_ble_eq_true rfl, Nat.le_of_ble_eq_true rfl⟩ (fun v23 hp23 q23 => ?_)
      rw [if_neg hl] at q23
      obtain ⟨rfl, z23⟩ := q23
      have hk' : hK hp23 (lt ((f + nL S) % 128)) = 3 := by rw [z23, hK_sI]; exact hk
      have hH1 : HX [256] h hp23 := by rw [z23]; exact hH
      have hC1 := hr.1.x hH1 (by decide)
      have k2' : hK hp23 (w 6 (tn (mT S 454 (tn a)))) = 2 := (hC1.2.2.1 _ hn2).2.1
      have hE1 := hr.2.2.1.x (SX.rf (L := [])) hH1 (by decide) (by decide) hr.1
      refine J_astore dX6_sendAsk_26 isR_r (by decide) ?_
      refine J_aload dX6_sendAsk_28 rfl isR_r ?_
      refine J_ifnull_r dX6_sendAsk_30 ?_
      refine J_aload dX6_sendAsk_33 rfl isR_r ?_
      refine J_aload_n dX6_sendAsk_35 rfl rfl isR_r ?_
      refine J_aload_n dX6_sendAsk_36 rfl rfl isR_r ?_
      refine J_pc (pc' := 37) rfl ?_
      refine J_callV (c_lowE hC1 hE1 (fun k hk => (hr.2.2.2.1.2.2.1 k hk).x (SX.rf (L := [])) hH1 (by decide) (by decide)) hI1 hLf hn2) dX6_sendAsk_37 ml_X6_133 mkX1_lowestOpen rfl (by first | with_reducible assumption | (simp only [hK_sI, hK_sJ, hK_sR, hK_tI, hK_tJ, hK_tR]; with_reducible assumption)) (by decide) rfl rfl (Nat.le_of_ble_eq_true rfl) ⟨Nat.le_of_ble_eq_true rfl, Nat.le_of_ble_eq_true rfl⟩ ⟨Nat.le_of_ble_eq_true rfl, Nat.le_of_ble_eq_true rfl⟩ (fun v37 hp37 q37 => ?_)
      obtain ⟨rfl, m, y1, y2, y3, z37, y4⟩ := q37
      have hk2 : hK hp37 (lt ((f + nL S) % 128)) = 3 := by rw [z37, hK_sI]; exact hk'
      refine J_callV (c_asks hk2) dX6_sendAsk_40 ml_X6_268 mkX2_asks rfl (by first | with_reducible assumption | (simp only [hK_sI, hK_sJ, hK_sR, hK_tI, hK_tJ, hK_tR]; with_reducible assumption)) (by decide) rfl rfl (Nat.le_of_ble_eq_true rfl) ⟨Nat.le_of_ble_eq_true rfl, Nat.le_of_ble_eq_true rfl⟩ ⟨Nat.le_of_ble_eq_true rfl, Nat.le_of_ble_eq_true rfl⟩ (fun v40 hp40 q40 => ?_)
      obtain ⟨rfl, z40⟩ := q40
      refine J_iconst (v := 1) dX6_sendAsk_43 (by decide) ?_
      exact J_ireturn dX6_sendAsk_44 rfl (by
       have hHm : HX [68] hp23 hp37 := by rw [z37]; exact HX_sI (by decide)
       have hH2 : HX [128, 129, 130, 131, 132, 133] hp37 hp40 := by rw [z40]; exact asksH_x
       have hH3 : HX [68, 128, 129, 130, 131, 132, 133, 256] h hp40 := (hH1.sub (by decide)).tr ((hHm.sub (by decide)).tr (hH2.sub (by decide)))
       have hC2 := hC1.x hHm (by decide)
       refine ⟨rfl, Rep_sent hr hW ⟨hL, hk3, hinj, hok⟩ h0 hl hH3 (y4.x (SX.rf (L := [])) hH2 (by decide) (by decide) hC2) ?_ (fun b hb => ?_) ?_, hH3.sub (by decide)⟩
       · rw [(hH2.2.1 256 _ (by decide) (by rw [z37, hK_sI, z23, hK_sI, r1]; decide)).1, z37, hI_ne 256 (by decide), z23, hI_sI, if_pos ⟨rfl, rfl⟩]
       · rw [z40]
         have q := asksH_ne (h := hp37) (k := as (tn a)) (v := lowS S (nI (tn (mT S 454 (tn a))))) hb
         rw [q.1, q.2.1, q.2.2.1, q.2.2.2.1, q.2.2.2.2.1, q.2.2.2.2.2, z37, hR_sI, hJ_sI, hI_ne 129 (by decide), hI_ne 130 (by decide), hI_ne 131 (by decide), hI_ne 132 (by decide), z23, hR_sI, hJ_sI, hI_ne 129 (by decide), hI_ne 130 (by decide), hI_ne 131 (by decide), hI_ne 132 (by decide)]
         exact ⟨rfl, rfl, rfl, rfl, rfl, rfl⟩
       · rw [z40]
         have q := asksH_at (h := hp37) (a := lt ((f + nL S) % 128)) (k := as (tn a)) (v := lowS S (nI (tn (mT S 454 (tn a)))))
         exact ⟨q.1, q.2.1, by rw [if_neg (fun z => by cases z.1)]; exact q.2.2.1, q.2.2.2.1, (fun _ => by rw [q.2.2.2.2, ← hn1]), fun z => by cases z⟩) (Nat.le_of_ble_eq_true rfl) (Nat.le_of_ble_eq_true rfl)
end SC
