/-! a letter doubled; hearing; the accounts' own changes -/
section TW
variable {x : om_x} {w : om_w} {h : Hp} {as : Nat → Nat} {S : Ms} {g : Nat}
theorem becomeH_x {h : Hp} {a b k : Nat} : HX [128, 129, 130, 131, 132, 133] h (becomeH h a b k) := by
  unfold becomeH bcm
  exact (HX_sR (by decide)).tr ((HX_sI (by decide)).tr ((HX_sI (by decide)).tr ((HX_sI (by decide)).tr ((HX_sI (by decide)).tr (HX_sJ (by decide))))))
theorem becomeH_ne {h : Hp} {a b k c : Nat} (hb : c ≠ a) : hR (becomeH h a b k) 128 c = hR h 128 c ∧ hI (becomeH h a b k) 129 c = hI h 129 c ∧ hI (becomeH h a b k) 130 c = hI h 130 c ∧ hI (becomeH h a b k) 131 c = hI h 131 c ∧ hI (becomeH h a b k) 132 c = hI h 132 c ∧ hJ (becomeH h a b k) 133 c = hJ h 133 c := by
  unfold becomeH bcm
  simp [hI_sI, hI_sJ, hI_sR, hJ_sI, hJ_sJ, hJ_sR, hR_sI, hR_sJ, hR_sR, hb]
theorem becomeH_at {h : Hp} {a b k : Nat} (hb : b ≠ a) : hR (becomeH h a b k) 128 a = some k ∧ hI (becomeH h a b k) 129 a = hI h 129 b ∧ hI (becomeH h a b k) 130 a = hI h 130 b ∧ hI (becomeH h a b k) 131 a = hI h 131 b ∧ hI (becomeH h a b k) 132 a = hI h 132 b ∧ hJ (becomeH h a b k) 133 a = hJ h 133 b := by
  unfold becomeH bcm
  simp [hI_sI, hI_sJ, hI_sR, hJ_sI, hJ_sJ, hJ_sR, hR_sI, hR_sJ, hR_sR, hb]
theorem twice_L {i : Nat} (hW : WF1 S) (hl : nL S ≠ 120) : mI (twiceF S i (nL S)) 468 = nI (nL S + 1) ∧ nL (twiceF S i (nL S)) = nL S + 1 := by
  have e := inN_tn hW.1.2.1
  have e2 : nL S < 121 := e.2.1
  have e3 : mI (twiceF S i (nL S)) 468 = nI (nL S + 1) := by
    unfold twiceF
    rw [mI_pI, if_pos rfl]
    conv => lhs; rw [e.1]
    exact nI_inc1 _
  refine ⟨e3, ?_⟩
  show tn (mI (twiceF S i (nL S)) 468) = nL S + 1
  rw [e3, tn_nI (by omega)]
theorem twice_at {i : Nat} (j : Nat) : mT (twiceF S i (nL S)) 469 j = (if j = nL S then mT S 469 i else mT S 469 j) ∧ mT (twiceF S i (nL S)) 470 j = (if j = nL S then mT S 470 i else mT S 470 j) ∧ mT (twiceF S i (nL S)) 471 j = (if j = nL S then mT S 471 i else mT S 471 j) ∧ mJ (twiceF S i (nL S)) 472 j = (if j = nL S then mJ S 472 i else mJ S 472 j) ∧ mT (twiceF S i (nL S)) 473 j = (if j = nL S then mT S 473 i else mT S 473 j) := by
  unfold twiceF
  refine ⟨?_, ?_, ?_, ?_, ?_⟩ <;> simp [mT_pI, mT_pT, mT_pJ, mJ_pI, mJ_pT, mJ_pJ]
theorem SX_twice {i l : Nat} : SX [468, 469, 470, 471, 472, 473] S (twiceF S i l) := by
  unfold twiceF
  exact (SX_pT (by decide)).tr ((SX_pT (by decide)).tr ((SX_pT (by decide)).tr ((SX_pJ (by decide)).tr ((SX_pT (by decide)).tr (SX_pI (by decide))))))
set_option maxRecDepth 100000 in
set_option maxHeartbeats 4000000 in
theorem c_twice {i : Int32} (hr : Rep w as S h) (hW : WF1 S) : Mt x 2 kX6_twice 0 0 [.ref (w 0 0), .int i] h (fun z h' => z = some (.int (twiceP S i).1) ∧ Rep w as (twiceP S i).2 h' ∧ HX SndX h h') := by
  refine Mt.ofJ mkX6_twice.1 (Nat.le_of_ble_eq_true rfl) ?_
  obtain ⟨f, lt, hL, hk3, hinj, hok⟩ := hr.lr hW
  have o1 := hr.1.1.1
  have o5 := hr.1.1.2.2.2.2
  have r1 := hL.1
  unfold twiceP
  cases hi : inN i (nL S) with
  | false =>
    rw [if_pos rfl]
    refine J_aload_n dX6_twice_0 rfl rfl isR_r ?_
    refine J_getRr dX6_twice_1 g_X6_30 (by first | with_reducible assumption | (simp only [hK_sI, hK_sJ, hK_sR, hK_tI, hK_tJ, hK_tR]; with_reducible assumption)) (by first | with_reducible assumption | (simp only [hR_sI, hR_sJ, hR_tI, hR_tJ, hR_tR]; with_reducible assumption)) ?_
    refine J_iload_n dX6_twice_4 rfl rfl ?_
    refine J_callV (c_at hL) dX6_twice_5 ml_X6_141 mkX4_at rfl (by first | with_reducible assumption | (simp only [hK_sI, hK_sJ, hK_sR, hK_tI, hK_tJ, hK_tR]; with_reducible assumption)) (by decide) rfl rfl (Nat.le_of_ble_eq_true rfl) ⟨Nat.le_of_ble_eq_true rfl, Nat.le_of_ble_eq_true rfl⟩ ⟨Nat.le_of_ble_eq_true rfl, Nat.le_of_ble_eq_true rfl⟩ (fun v5 hp5 q5 => ?_)
    obtain ⟨rfl, z5⟩ := q5
    rw [z5]
    rw [hi]
    refine J_astore_n dX6_twice_8 rfl isR_n (by decide) ?_
    refine J_aload_n dX6_twice_9 rfl rfl isR_n ?_
    refine J_ifnonnull_n dX6_twice_10 ?_
    refine J_ldc dX6_twice_13 lc_X6_55 ?_
    refine J_pc (pc' := 15) rfl ?_
    exact J_ireturn dX6_twice_15 rfl ⟨rfl, hr, HX.rf⟩ (Nat.le_of_ble_eq_true rfl) (Nat.le_of_ble_eq_true rfl)
  | true =>
    have ht := (inN_tn hi).2.1
    have hlt : nL S < 121 := (inN_tn hW.1.2.1).2.1
    have hs : (f + tn i) % 128 < 128 := Nat.mod_lt _ (by decide)
    have k3 := hk3 _ hs
    have hd : (120 : Int32) ≤ hI h 256 (w 4 0) ↔ mI S 468 = 120 := by
      have e := inN_tn hW.1.2.1
      rw [hr.2.1.2.2.2.1, ← hL120 hW]
      conv => lhs; rw [e.1]
      show (120 : Int32) ≤ nI (nL S) ↔ _
      rw [show (120 : Int32) = nI 120 from rfl, nI_lei (by decide) (by omega)]
      omega
    rw [if_neg (by decide)]
    by_cases hl : mI S 468 = 120
    · rw [if_pos hl]
      refine J_aload_n dX6_twice_0 rfl rfl isR_r ?_
      refine J_getRr dX6_twice_1 g_X6_30 (by first | with_reducible assumption | (simp only [hK_sI, hK_sJ, hK_sR, hK_tI, hK_tJ, hK_tR]; with_reducible assumption)) (by first | with_reducible assumption | (simp only [hR_sI, hR_sJ, hR_tI, hR_tJ, hR_tR]; with_reducible assumption)) ?_
      refine J_iload_n dX6_twice_4 rfl rfl ?_
      refine J_callV (c_at hL) dX6_twice_5 ml_X6_141 mkX4_at rfl (by first | with_reducible assumption | (simp only [hK_sI, hK_sJ, hK_sR, hK_tI, hK_tJ, hK_tR]; with_reducible assumption)) (by decide) rfl rfl (Nat.le_of_ble_eq_true rfl) ⟨Nat.le_of_ble_eq_true rfl, Nat.le_of_ble_eq_true rfl⟩ ⟨Nat.le_of_ble_eq_true rfl, Nat.le_of_ble_eq_true rfl⟩ (fun v5 hp5 q5 => ?_)
      obtain ⟨rfl, z5⟩ := q5
      rw [z5]
      rw [hi]
      refine J_astore_n dX6_twice_8 rfl isR_r (by decide) ?_
      refine J_aload_n dX6_twice_9 rfl rfl isR_r ?_
      refine J_ifnonnull_r (tgt := 16) dX6_twice_10 (by decide) ?_
      refine J_aload_n dX6_twice_16 rfl rfl isR_r ?_
      refine J_getRr dX6_twice_17 g_X6_30 (by first | with_reducible assumption | (simp only [hK_sI, hK_sJ, hK_sR, hK_tI, hK_tJ, hK_tR]; with_reducible assumption)) (by first | with_reducible assumption | (simp only [hR_sI, hR_sJ, hR_tI, hR_tJ, hR_tR]; with_reducible assumption)) ?_
      refine J_pc (pc' := 20) rfl ?_
      refine J_callV (c_isFull r1) dX6_twice_20 ml_X6_95 mkX4_isFull rfl (by first | with_reducible assumption | (simp only [hK_sI, hK_sJ, hK_sR, hK_tI, hK_tJ, hK_tR]; with_reducible assumption)) (by decide) rfl rfl (Nat.le_of_ble_eq_true rfl) ⟨Nat.le_of_ble_eq_true rfl, Nat.le_of_ble_eq_true rfl⟩ ⟨Nat.le_of_ble_eq_true rfl, Nat.le_of_ble_eq_true rfl⟩ (fun v20 hp20 q20 => ?_)
      obtain ⟨rfl, z20⟩ := q20
      rw [z20]
      refine J_if_eq (tgt := 29) dX6_twice_23 (by decide) (fun c23 => ((show False from (of_decide_eq_false (bi_0.mp c23)) (hd.mpr hl))).elim) (fun c23 => ?_)
      refine J_ldc dX6_twice_26 lc_X6_77 ?_
      exact J_ireturn dX6_twice_28 rfl ⟨rfl, hr, HX.rf⟩ (Nat.le_of_ble_eq_true rfl) (Nat.le_of_ble_eq_true rfl)
    · rw [if_neg hl]
      have hl2 : nL S ≠ 120 := fun z => hl ((hL120 hW).mp z)
      have hs2 : (f + nL S) % 128 < 128 := Nat.mod_lt _ (by decide)
      have hab : lt ((f + nL S) % 128) ≠ lt ((f + tn i) % 128) := fun z => by
        have := hinj _ _ hs2 hs z
        omega
      obtain ⟨l1, l2, l3, l4, l5, l6⟩ := hok _ ht
      obtain ⟨v1, v2⟩ := hW.2.2.2.1 (tn i)
      have z9 : hI h 129 (lt ((f + tn i) % 128)) = 0 ∨ hI h 129 (lt ((f + tn i) % 128)) = 1 := by rw [l2]; exact v1
      have z0 : hI h 130 (lt ((f + tn i) % 128)) = 0 ∨ hI h 130 (lt ((f + tn i) % 128)) = 1 := by
        rw [l3]
        split
        · exact Or.inr rfl
        · exact Or.inl rfl
      have z1 : hI h 131 (lt ((f + tn i) % 128)) = 0 ∨ hI h 131 (lt ((f + tn i) % 128)) = 1 := by rw [l4]; exact v2
      have hH : HX [256] h (sI h 256 (w 4 0) (nI (nL S + 1))) := HX_sI (by decide)
      have kb := hk3 _ hs2
      refine J_aload_n dX6_twice_0 rfl rfl isR_r ?_
      refine J_getRr dX6_twice_1 g_X6_30 (by first | with_reducible assumption | (simp only [hK_sI, hK_sJ, hK_sR, hK_tI, hK_tJ, hK_tR]; with_reducible assumption)) (by first | with_reducible assumption | (simp only [hR_sI, hR_sJ, hR_tI, hR_tJ, hR_tR]; with_reducible assumption)) ?_
      refine J_iload_n dX6_twice_4 rfl rfl ?_
      refine J_callV (c_at hL) dX6_twice_5 ml_X6_141 mkX4_at rfl (by first | with_reducible assumption | (simp only [hK_sI, hK_sJ, hK_sR, hK_tI, hK_tJ, hK_tR]; with_reducible assumption)) (by decide) rfl rfl (Nat.le_of_ble_eq_true rfl) ⟨Nat.le_of_ble_eq_true rfl, Nat.le_of_ble_eq_true rfl⟩ ⟨Nat.le_of_ble_eq_true rfl, Nat.le_of_ble_eq_true rfl⟩ (fun v5 hp5 q5 => ?_)
      obtain ⟨rfl, z5⟩ := q5
      rw [z5]
      rw [hi]
      refine J_astore_n dX6_twice_8 rfl isR_r (by decide) ?_
      refine J_aload_n dX6_twice_9 rfl rfl isR_r ?_
      refine J_ifnonnull_r (tgt := 16) dX6_twice_10 (by decide) ?_
      refine J_aload_n dX6_twice_16 rfl rfl isR_r ?_
      refine J_getRr dX6_twice_17 g_X6_30 (by first | with_reducible assumption | (simp only [hK_sI, hK_sJ, hK_sR, hK_tI, hK_tJ, hK_tR]; with_reducible assumption)) (by first | with_reducible assumption | (simp only [hR_sI, hR_sJ, hR_tI, hR_tJ, hR_tR]; with_reducible assumption)) ?_
      refine J_pc (pc' := 20) rfl ?_
      refine J_callV (c_isFull r1) dX6_twice_20 ml_X6_95 mkX4_isFull rfl (by first | with_reducible assumption | (simp only [hK_sI, hK_sJ, hK_sR, hK_tI, hK_tJ, hK_tR]; with_reducible assumption)) (by decide) rfl rfl (Nat.le_of_ble_eq_true rfl) ⟨Nat.le_of_ble_eq_true rfl, Nat.le_of_ble_eq_true rfl⟩ ⟨Nat.le_of_ble_eq_true rfl, Nat.le_of_ble_eq_true rfl⟩ (fun v20 hp20 q20 => ?_)
      obtain ⟨rfl, z20⟩ := q20
      rw [z20]
      refine J_if_eq (tgt := 29) dX6_twice_23 (by decide) (fun c23 => ?_) (fun c23 => ((show False from hl (hd.mp (of_decide_eq_true (bi_1.mp c23))))).elim)
      refine J_aload_n dX6_twice_29 rfl rfl isR_r ?_
      refine J_getRr dX6_twice_30 g_X6_30 (by first | with_reducible assumption | (simp only [hK_sI, hK_sJ, hK_sR, hK_tI, hK_tJ, hK_tR]; with_reducible assumption)) (by first | with_reducible assumption | (simp only [hR_sI, hR_sJ, hR_tI, hR_tJ, hR_tR]; with_reducible assumption)) ?_
      refine J_callV (c_fresh hL) dX6_twice_33 ml_X6_154 mkX4_fresh rfl (by first | with_reducible assumption | (simp only [hK_sI, hK_sJ, hK_sR, hK_tI, hK_tJ, hK_tR]; with_reducible assumption)) (by decide) rfl rfl (Nat.le_of_ble_eq_true rfl) ⟨Nat.le_of_ble_eq_true rfl, Nat.le_of_ble_eq_true rfl⟩ ⟨Nat.le_of_ble_eq_true rfl, Nat.le_of_ble_eq_true rfl⟩ (fun v33 hp33 q33 => ?_)
      rw [if_neg hl2] at q33
      obtain ⟨rfl, z33⟩ := q33
      have hk' : hK hp33 (lt ((f + nL S) % 128)) = 3 := by rw [z33, hK_sI]; exact kb
      have hk2' : hK hp33 (lt ((f + tn i) % 128)) = 3 := by rw [z33, hK_sI]; exact k3
      have y1 : hR hp33 128 (lt ((f + tn i) % 128)) = some (as (tn (mT S 469 (tn i)))) := by rw [z33, hR_sI]; exact l1
      have y2 : hI hp33 129 (lt ((f + tn i) % 128)) = hI h 129 (lt ((f + tn i) % 128)) := by rw [z33, hI_ne 129 (by decide)]
      have y3 : hI hp33 130 (lt ((f + tn i) % 128)) = hI h 130 (lt ((f + tn i) % 128)) := by rw [z33, hI_ne 130 (by decide)]
      have y4 : hI hp33 131 (lt ((f + tn i) % 128)) = hI h 131 (lt ((f + tn i) % 128)) := by rw [z33, hI_ne 131 (by decide)]
      have y5 : hI hp33 132 (lt ((f + tn i) % 128)) = hI h 132 (lt ((f + tn i) % 128)) := by rw [z33, hI_ne 132 (by decide)]
      have y6 : hJ hp33 133 (lt ((f + tn i) % 128)) = hJ h 133 (lt ((f + tn i) % 128)) := by rw [z33, hJ_sI]
      refine J_astore_n dX6_twice_36 rfl isR_r (by decide) ?_
      refine J_aload_n dX6_twice_37 rfl rfl isR_r ?_
      refine J_ifnull_r dX6_twice_38 ?_
      refine J_aload_n dX6_twice_41 rfl rfl isR_r ?_
      refine J_pc (pc' := 42) rfl ?_
      refine J_aload_n dX6_twice_42 rfl rfl isR_r ?_
      refine J_callV (c_become hk' hk2' y1 hab (by rw [y2]; exact z9) (by rw [y3]; exact z0) (by rw [y4]; exact z1)) dX6_twice_43 ml_X6_158 mkX2_become rfl (by first | with_reducible assumption | (simp only [hK_sI, hK_sJ, hK_sR, hK_tI, hK_tJ, hK_tR]; with_reducible assumption)) (by decide) rfl rfl (Nat.le_of_ble_eq_true rfl) ⟨Nat.le_of_ble_eq_true rfl, Nat.le_of_ble_eq_true rfl⟩ ⟨Nat.le_of_ble_eq_true rfl, Nat.le_of_ble_eq_true rfl⟩ (fun v43 hp43 q43 => ?_)
      obtain ⟨rfl, z43⟩ := q43
      have hH1 : HX [256] h hp33 := by rw [z33]; exact hH
      have hH2 : HX [128, 129, 130, 131, 132, 133] hp33 hp43 := by rw [z43]; exact becomeH_x
      have hH3 : HX [128, 129, 130, 131, 132, 133, 256] h hp43 := (hH1.sub (by decide)).tr (hH2.sub (by decide))
      have hC3 := hr.1.x hH3 (by decide)
      have o1' := hC3.1.1
      have o5' := hC3.1.2.2.2.2
      have r1' := hC3.2.1.2.2.2.1.1
      obtain ⟨s1, s2⟩ := twice_L (i := tn i) hW hl2
      have e256 : hI hp43 256 (w 4 0) = nI (nL S + 1) := by rw [(hH2.2.1 256 _ (by decide) (by rw [z33, hK_sI, r1]; decide)).1, z33, hI_sI, if_pos ⟨rfl, rfl⟩]
      refine J_aload_n dX6_twice_46 rfl rfl isR_r ?_
      refine J_getRr dX6_twice_47 g_X6_30 (by first | with_reducible assumption | (simp only [hK_sI, hK_sJ, hK_sR, hK_tI, hK_tJ, hK_tR]; with_reducible assumption)) (by first | with_reducible assumption | (simp only [hR_sI, hR_sJ, hR_tI, hR_tJ, hR_tR]; with_reducible assumption)) ?_
      refine J_getI dX6_twice_50 g_X6_99 (by first | with_reducible assumption | (simp only [hK_sI, hK_sJ, hK_sR, hK_tI, hK_tJ, hK_tR]; with_reducible assumption)) ?_
      exact J_ireturn dX6_twice_53 rfl (by
       refine ⟨by rw [e256, s1], ?_, hH3.sub (by decide)⟩
       have hS := SX_twice (S := S) (i := tn i) (l := nL S)
       obtain ⟨a1, a2, a3, a4, a5, a6, a7⟩ := hr
       have k0 : hK h (w 0 0) ≠ 0 := by rw [a1.1.1]; decide
       have k4 : hK h (w 4 0) ≠ 0 := by rw [a1.2.1.2.2.2.1.1]; decide
       have k5 : hK h (w 5 0) ≠ 0 := by rw [a1.2.1.2.2.2.2.1]; decide
       refine ⟨hC3, ?_, a3.x hS hH3 (by decide) (by decide) a1, a4.x hS hH3 (by decide) (by decide) a1, ?_, a6.x hS hH3 (by decide) (by decide) a1, a7.x hS hH3 (by decide) (by decide) a1⟩
       · obtain ⟨t1, t2, t3, t4, t5, t6⟩ := a2
         unfold RTop
         rw [(hH3.2.1 384 _ (by decide) k0).1, (hH3.2.1 389 _ (by decide) k0).1, (hH3.2.1 390 _ (by decide) k0).1, e256, (hH3.2.1 257 _ (by decide) k4).1, (hH3.2.1 258 _ (by decide) k4).1, s1, (hS 448 (by decide)).1, (hS 453 (by decide)).1, (hS 484 (by decide)).1, (hS 482 (by decide)).1, (hS 483 (by decide)).1]
         exact ⟨t1, t2, t3, rfl, t5, t6⟩
       · obtain ⟨-, -, -, -, u5, u6, -, -, u9⟩ := hL
         refine ⟨f, lt, by rw [(hH3.2.1 259 _ (by decide) k4).1]; exact u5, u6, fun s hs => ⟨by rw [(hH3.2.2 53 _ s (by decide) k5).2.2]; exact u9 s hs, by rw [(hH3.1 _ (by rw [hk3 s hs]; decide)).1]; exact hk3 s hs⟩, hinj, fun j hj => ?_⟩
         rw [s2] at hj
         obtain ⟨b1, b2, b3, b4, b5⟩ := twice_at (S := S) (i := tn i) j
         unfold LetOK
         rw [b1, b2, b3, b4, b5]
         by_cases e : j = nL S
         · subst e
           simp only [if_true]
           have q := becomeH_at (h := hp33) (k := as (tn (mT S 469 (tn i)))) (Ne.symm hab)
           rw [z43, q.1, q.2.1, q.2.2.1, q.2.2.2.1, q.2.2.2.2.1, q.2.2.2.2.2, y2, y3, y4, y5, y6]
           exact ⟨rfl, l2, l3, l4, l5, l6⟩
         · simp only [if_neg e]
           have ne : lt ((f + j) % 128) ≠ lt ((f + nL S) % 128) := fun z => by
             have := hinj _ _ (Nat.mod_lt _ (by decide)) (Nat.mod_lt _ (by decide)) z
             omega
           have q := becomeH_ne (h := hp33) (b := lt ((f + tn i) % 128)) (k := as (tn (mT S 469 (tn i)))) ne
           have := hok j (by omega)
           unfold LetOK at this
           rw [z43, q.1, q.2.1, q.2.2.1, q.2.2.2.1, q.2.2.2.2.1, q.2.2.2.2.2, z33, hR_sI, hJ_sI, hI_ne 129 (by decide), hI_ne 130 (by decide), hI_ne 131 (by decide), hI_ne 132 (by decide)]
           exact this) (Nat.le_of_ble_eq_true rfl) (Nat.le_of_ble_eq_true rfl)
end TW
