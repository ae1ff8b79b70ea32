/-! newAsk -/
section NA
variable {x : om_x} {w : om_w} {h h' : Hp} {as : Nat → Nat} {S S' : Ms} {g : Nat}
theorem hI_nwO {h : Hp} {a ci f b : Nat} : hI (nwO h a ci) f b = if b = a then 0 else hI h f b := Eq.trans rfl rfl
theorem hJ_nwO {h : Hp} {a ci f b : Nat} : hJ (nwO h a ci) f b = if b = a then 0 else hJ h f b := Eq.trans rfl rfl
theorem hR_nwO {h : Hp} {a ci f b : Nat} : hR (nwO h a ci) f b = if b = a then none else hR h f b := Eq.trans rfl rfl
theorem hK_nwO {h : Hp} {a ci b : Nat} : hK (nwO h a ci) b = up1 (hK h) a (ci + 1) b := Eq.trans rfl rfl
theorem HX_nwO {L : List Nat} {h : Hp} {a ci : Nat} (ha : hK h a = 0) : HX L h (nwO h a ci) := by
  have ne : ∀ b, hK h b ≠ 0 → b ≠ a := fun b z e => z (by rw [e]; exact ha)
  refine ⟨fun b hb => ⟨by rw [hK_nwO, up1_ne _ _ (ne b hb)], rfl⟩, fun f b _ hb => ⟨by rw [hI_nwO, if_neg (ne b hb)], by rw [hJ_nwO, if_neg (ne b hb)], by rw [hR_nwO, if_neg (ne b hb)]⟩, fun t b j _ _ => ⟨rfl, rfl, rfl⟩⟩
theorem HX_newI {L : List Nat} {h h1 : Hp} {f a : Nat} {v : Int32} (ha : hK h a = 0) (c : HX L h h1) : HX L h (sI h1 f a v) := by
  have ne : ∀ b, hK h b ≠ 0 → b ≠ a := fun b z e => z (by rw [e]; exact ha)
  refine ⟨fun b hb => ?_, fun g b hg hb => ?_, fun t b j ht hb => ?_⟩
  · rw [hK_sI, hN_sI]; exact c.1 b hb
  · rw [hI_sI, if_neg (fun z => ne b hb z.2), hJ_sI, hR_sI]; exact c.2.1 g b hg hb
  · rw [aI_sI, aJ_sI, aR_sI]; exact c.2.2 t b j ht hb
set_option maxRecDepth 100000 in
set_option maxHeartbeats 4000000 in
theorem c_init0 {a : Nat} {i n l k : Int32} (hk : hK h a = 1) : Mt x 1 kX0_init 0 0 [.ref a, .int i, .int n, .int l, .int k] h (fun z h' => z = none ∧ h' = sI (sI (sI (sI (sI h 10 a 0) 0 a i) 1 a n) 2 a l) 3 a k) := by
  refine Mt.ofJ mkX0_init.1 (Nat.le_of_ble_eq_true rfl) ?_
  refine J_aload_n dX0_init_0 rfl rfl isR_r ?_
  refine J_obj dX0_init_1 ml_X0_3 (Nat.le_of_ble_eq_true rfl) (Nat.le_of_ble_eq_true rfl) ?_
  refine J_aload_n dX0_init_4 rfl rfl isR_r ?_
  refine J_iconst (v := 0) dX0_init_5 (by decide) ?_
  refine J_putI (hin := fun _ => rfl) dX0_init_6 p_X0_9 (by first | with_reducible assumption | (simp only [hK_sI, hK_sJ, hK_sR, hK_tI, hK_tJ, hK_tR]; with_reducible assumption)) ?_
  refine J_aload_n dX0_init_9 rfl rfl isR_r ?_
  refine J_iload_n dX0_init_10 rfl rfl ?_
  refine J_putI (hin := fun _ => rfl) dX0_init_11 p_X0_15 (by first | with_reducible assumption | (simp only [hK_sI, hK_sJ, hK_sR, hK_tI, hK_tJ, hK_tR]; with_reducible assumption)) ?_
  refine J_pc (pc' := 14) rfl ?_
  refine J_aload_n dX0_init_14 rfl rfl isR_r ?_
  refine J_iload_n dX0_init_15 rfl rfl ?_
  refine J_putI (hin := fun _ => rfl) dX0_init_16 p_X0_18 (by first | with_reducible assumption | (simp only [hK_sI, hK_sJ, hK_sR, hK_tI, hK_tJ, hK_tR]; with_reducible assumption)) ?_
  refine J_aload_n dX0_init_19 rfl rfl isR_r ?_
  refine J_iload_n dX0_init_20 rfl rfl ?_
  refine J_putI (hin := fun _ => rfl) dX0_init_21 p_X0_21 (by first | with_reducible assumption | (simp only [hK_sI, hK_sJ, hK_sR, hK_tI, hK_tJ, hK_tR]; with_reducible assumption)) ?_
  refine J_aload_n dX0_init_24 rfl rfl isR_r ?_
  refine J_iload dX0_init_25 rfl ?_
  refine J_pc (pc' := 27) rfl ?_
  refine J_putI (hin := fun _ => rfl) dX0_init_27 p_X0_24 (by first | with_reducible assumption | (simp only [hK_sI, hK_sJ, hK_sR, hK_tI, hK_tJ, hK_tR]; with_reducible assumption)) ?_
  exact J_return dX0_init_30 rfl ⟨rfl, rfl⟩ (Nat.le_of_ble_eq_true rfl) (Nat.le_of_ble_eq_true rfl)
theorem EK.hx {M : List Nat} {e ek : Nat} (hH : HX M h h') (d : dj [69, 329] M) (hE : EK h e ek) : EK h' e ek := by
  obtain ⟨k1, k2, k3, k4, k5⟩ := hE
  have z1 : hK h e ≠ 0 := by rw [k1]; decide
  have z2 : hK h ek ≠ 0 := by rw [k3]; decide
  refine ⟨by rw [(hH.1 _ z1).1]; exact k1, by rw [(hH.2.1 69 _ d.at z1).2.2]; exact k2, by rw [(hH.1 _ z2).1]; exact k3, by rw [(hH.1 _ z2).2]; exact k4, fun j hj a ha => ?_⟩
  rw [(hH.2.2 59 _ j d.at z2).2.2] at ha
  have := k5 j hj a ha
  rw [(hH.1 _ (by rw [this]; decide)).1]
  exact this
set_option maxRecDepth 100000 in
set_option maxHeartbeats 4000000 in
theorem c_newAsk {n : Nat} {sv kind a b t amt : Int32} (hr : Rep w as S h) (hI1 : Inj w) (hW : WF2 g S) (hn : n < 10) (h467 : ∀ k, nA S ≤ k → mT S 467 k = 0) : Mt x 2 kX6_newAsk 1 15 [.ref (w 0 0), .ref (w 6 n), .int sv, .int kind, .int a, .int b, .int t, .int amt] h (fun z h' => if mI S 453 < 300 ∧ usedUp S (nI n) = false then ∃ q, z = some (.ref q) ∧ Rep w (asN as S q) (newAskF S (nI n) sv kind a b t amt (-1)) h' ∧ HX [67, 68, 389, 313, 329] h h' else z = some .null ∧ Rep w as S h' ∧ HX [68] h h') := by
  refine Mt.ofJ mkX6_newAsk.1 (Nat.le_of_ble_eq_true rfl) ?_
  have o1 := hr.1.1.1
  have o4 := hr.1.1.2.2.2.1
  obtain ⟨u1, u2, u3, u4, u5, u6⟩ := hr.1.2.2.1 n hn
  have e3 := hr.1.2.1.2.2.1.2
  have eN := inN_tn hW.1.1.1
  have eN2 : nA S < 301 := eN.2.1
  have eN3 : mI S 453 = nI (nA S) := eN.1
  have eT : hI h 389 (w 0 0) = nI (nA S) := by rw [hr.2.1.2.1]; exact eN3
  have hc : mI S 453 < 300 ↔ nA S < 300 := by rw [eN3, show (300 : Int32) = nI 300 from rfl, nI_lti (by omega) (by decide)]
  have tnn : tn (nI n) = n := tn_nI (by omega)
  have ew := inN_tn hW.2.1.2.1
  have ew2 := ew.2.1
  generalize hQ : (fun z h' => if mI S 453 < 300 ∧ usedUp S (nI n) = false then ∃ q, z = some (Value.ref q) ∧ Rep w (asN as S q) (newAskF S (nI n) sv kind a b t amt (-1)) h' ∧ HX [67, 68, 389, 313, 329] h h' else z = some Value.null ∧ Rep w as S h' ∧ HX [68] h h') = Q
  have tail : ∀ h0 q hB nx m, Rep w as S h0 → HX [68] h h0 → hK h0 q = 0 → HX [] h0 hB → hK hB q = 1 → mT S 451 n = nI nx → nx + 1 < 1000 → hI h0 68 (w 6 n) = nI m → m < 1000 → nx < m + 16 → nA S < 300 → usedUp S (nI n) = false → hI hB 0 q = nI (nA S) → hI hB 1 q = nI n → hI hB 2 q = mT S 450 n → hI hB 3 q = mT S 451 n → hI hB 4 q = sv → hI hB 5 q = kind → hI hB 6 q = a → hI hB 7 q = b → hI hB 8 q = t → hI hB 9 q = amt → hI hB 10 q = 0 → hI hB 12 q = 0 → hR hB 13 q = none → hR hB 14 q = none → J x (om_m x 2 1 15 Q) kX6_newAsk 104 [(0, .ref (w 0 0)), (1, .ref (w 6 n)), (2, .int sv), (3, .int kind), (4, .int a), (5, .int b), (6, .int t), (7, .int amt), (8, .ref q)] [] hB 1 15 := by
    intro h0 q hB nx m r0 hX0 hq hX kq hnx hx hm hm2 hm3 h300 hus f0 f1 f2 f3 f4 f5 f6 f7 f8 f9 f10 f12 f13 f14
    have cB := r0.1.x hX (by decide)
    have p1 := cB.1.1
    have p4 := cB.1.2.2.2.1
    have p3 := cB.2.1.2.2.1.1
    have p3n := cB.2.1.2.2.1.2
    have pe := (cB.2.2.1 n hn).2.1
    have k0 : hK h0 (w 0 0) ≠ 0 := by rw [r0.1.1.1]; decide
    have b389 : hI hB 389 (w 0 0) = nI (nA S) := by rw [(hX.2.1 389 _ (by decide) k0).1, r0.2.1.2.1]; exact eN3
    have b67 : hI hB 67 (w 6 n) = nI nx := by rw [(hX.2.1 67 _ (by decide) (by rw [(r0.1.2.2.1 n hn).2.1]; decide)).1, (r0.2.2.1 n hn).1.2.2, hnx]
    have nq : ∀ d, hK h0 d ≠ 0 → d ≠ q := fun d z e => z (by rw [e]; exact hq)
    refine J_aload_n dX6_newAsk_104 rfl rfl isR_r ?_
    refine J_getRr dX6_newAsk_105 g_X6_23 (by first | with_reducible assumption | (simp only [hK_sI, hK_sJ, hK_sR, hK_tI, hK_tJ, hK_tR]; with_reducible assumption)) (by first | with_reducible assumption | (simp only [hR_sI, hR_sJ, hR_tI, hR_tJ, hR_tR]; with_reducible assumption)) ?_
    refine J_aload_n dX6_newAsk_108 rfl rfl isR_r ?_
    refine J_getI dX6_newAsk_109 g_X6_229 (by first | with_reducible assumption | (simp only [hK_sI, hK_sJ, hK_sR, hK_tI, hK_tJ, hK_tR]; with_reducible assumption)) ?_
    refine J_aload dX6_newAsk_112 rfl isR_r ?_
    refine J_aast dX6_newAsk_114 (by first | with_reducible assumption | (simp only [hK_sI, hK_sJ, hK_sR, hK_tI, hK_tJ, hK_tR]; with_reducible assumption)) ⟨by decide, by decide⟩ (show inx _ (nA S) (hN hB (w 3 0)) by rw [p3n, b389]; exact inx_n h300 (by decide)) (by assumption) ?_
    refine J_aload_n dX6_newAsk_115 rfl rfl isR_r ?_
    refine J_dup dX6_newAsk_116 rfl ?_
    refine J_pc (pc' := 117) rfl ?_
    refine J_getI dX6_newAsk_117 g_X6_229 (by first | with_reducible assumption | (simp only [hK_sI, hK_sJ, hK_sR, hK_tI, hK_tJ, hK_tR]; with_reducible assumption)) ?_
    refine J_iconst (v := 1) dX6_newAsk_120 (by decide) ?_
    refine J_iadd dX6_newAsk_121 ?_
    refine J_putI dX6_newAsk_122 p_X6_229 (by first | with_reducible assumption | (simp only [hK_sI, hK_sJ, hK_sR, hK_tI, hK_tJ, hK_tR]; with_reducible assumption)) ?_
    refine J_aload_n dX6_newAsk_125 rfl rfl isR_r ?_
    refine J_aload dX6_newAsk_126 rfl isR_r ?_
    refine J_callV (c_keep (nx := nx) (((r0.2.2.1.ek r0.1 r0.2.2.2.1.2.2.1 hn).hx hX (by decide)).hx (M := [313, 389]) ((HX_tR (by decide)).tr (HX_sI (by decide))) (by decide)) (by rw [hI_ne 67 (by decide), hI_tR]; exact b67) (by rw [hK_sI, hK_tR]; exact kq)) dX6_newAsk_128 ml_X6_264 mkX1_keep rfl (by first | with_reducible assumption | (simp only [hK_sI, hK_sJ, hK_sR, hK_tI, hK_tJ, hK_tR]; with_reducible assumption)) (by decide) rfl rfl (Nat.le_of_ble_eq_true rfl) ⟨Nat.le_of_ble_eq_true rfl, Nat.le_of_ble_eq_true rfl⟩ ⟨Nat.le_of_ble_eq_true rfl, Nat.le_of_ble_eq_true rfl⟩ (fun v128 hp128 q128 => ?_)
    obtain ⟨rfl, z128⟩ := q128
    refine J_aload dX6_newAsk_131 rfl isR_r ?_
    refine J_pc (pc' := 133) rfl ?_
    exact J_areturn dX6_newAsk_133 rfl (Or.inl ⟨_, rfl⟩) isR_r (by
     rw [← hQ]
     show if mI S 453 < 300 ∧ usedUp S (nI n) = false then _ else _
     rw [if_pos ⟨hc.mpr h300, hus⟩]
     have hH2 : HX [389, 313, 329, 67] hB hp128 := by
       rw [z128]
       exact (HX_tR (by decide)).tr ((HX_sI (by decide)).tr ((HX_tR (by decide)).tr (HX_sI (by decide))))
     have hH : HX [389, 313, 329, 67] h0 hp128 := (hX.sub (by decide)).tr hH2
     have kqn : hK hB q ≠ 0 := by rw [kq]; decide
     refine ⟨q, rfl, ?_, (hX0.sub (by decide)).tr (hH.sub (by decide))⟩
     refine Rep_new (nx := nx) (m := m) r0 hI1 hW hn hq h300 hH (by rw [(hH2.1 q kqn).1]; exact kq) (by rw [(hH2.2.1 0 q (by decide) kqn).1]; exact f0) (by rw [(hH2.2.1 1 q (by decide) kqn).1]; exact f1) (by rw [(hH2.2.1 2 q (by decide) kqn).1]; exact f2) (by rw [(hH2.2.1 3 q (by decide) kqn).1]; exact f3) (by rw [(hH2.2.1 4 q (by decide) kqn).1]; exact f4) (by rw [(hH2.2.1 5 q (by decide) kqn).1]; exact f5) (by rw [(hH2.2.1 6 q (by decide) kqn).1]; exact f6) (by rw [(hH2.2.1 7 q (by decide) kqn).1]; exact f7) (by rw [(hH2.2.1 8 q (by decide) kqn).1]; exact f8) (by rw [(hH2.2.1 9 q (by decide) kqn).1]; exact f9) (by rw [(hH2.2.1 10 q (by decide) kqn).1]; exact f10) (by rw [(hH2.2.1 12 q (by decide) kqn).1]; exact f12) (by rw [(hH2.2.1 13 q (by decide) kqn).2.2]; exact f13) (by rw [(hH2.2.1 14 q (by decide) kqn).2.2]; exact f14) (h467 _ (Nat.le_refl _)) ?_ (fun j => ?_) (fun j => ?_) (fun i hi hne => ?_) ?_ (fun i hi hne => ?_) hnx hx hm hm2 hm3
     · rw [z128, hI_ne 389 (by decide), hI_tR, hI_sI, if_pos ⟨rfl, rfl⟩, hI_tR, b389, nI_inc1]
     · rw [z128, aR_sI, aR_tR, if_neg (fun z => absurd z.1 (by decide)), aR_sI, aR_tR, (hX.2.2 43 _ j (by decide) (by rw [r0.1.2.1.2.2.1.1]; decide)).2.2]
       by_cases ej : j = nA S
       · rw [if_pos ⟨rfl, rfl, ej⟩, if_pos ej]
       · rw [if_neg (fun z => ej z.2.2), if_neg ej]
     · rw [z128, aR_sI, aR_tR, aR_sI, aR_tR, (hX.2.2 59 _ j (by decide) (by rw [(r0.1.2.2.1 n hn).2.2.2.2.1]; decide)).2.2]
       by_cases ej : j = nx % 16
       · rw [if_pos ⟨rfl, rfl, ej⟩, if_pos ej]
       · rw [if_neg (fun z => ej z.2.2), if_neg ej, if_neg (fun z => absurd z.1 (by decide))]
     · funext j
       rw [z128, aR_sI, aR_tR, if_neg (fun z => hne (hI1 7 i n (Or.inr (Or.inl ⟨rfl, hi, hn⟩)) z.2.1)), aR_sI, aR_tR, if_neg (fun z => absurd z.1 (by decide)), (hX.2.2 59 _ j (by decide) (by rw [(r0.1.2.2.1 i hi).2.2.2.2.1]; decide)).2.2]
     · rw [z128, hI_sI, if_pos ⟨rfl, rfl⟩]
     · rw [z128, hI_sI, if_neg (fun z => hne (hI1 6 i n (Or.inl ⟨rfl, hi, hn⟩) z.2)), hI_tR, hI_ne 67 (by decide), hI_tR, (hX.2.1 67 _ (by decide) (by rw [(r0.1.2.2.1 i hi).2.1]; decide)).1]) (Nat.le_of_ble_eq_true rfl) (Nat.le_of_ble_eq_true rfl)
  have e3' : hN h (w 3 0) = 300 := e3
  have e3k : hK h (w 3 0) = 43 := hr.1.2.1.2.2.1.1
  refine J_aload_n dX6_newAsk_0 rfl rfl isR_r ?_
  refine J_getI dX6_newAsk_1 g_X6_229 (by first | with_reducible assumption | (simp only [hK_sI, hK_sJ, hK_sR, hK_tI, hK_tJ, hK_tR]; with_reducible assumption)) ?_
  refine J_if_lt (tgt := 19) dX6_newAsk_4 (by decide) (fun c4 => ((show False from nI_pos (show nA S < 2147483648 by omega) (by rw [eT] at c4; exact c4))).elim) (fun c4 => ?_)
  refine J_aload_n dX6_newAsk_7 rfl rfl isR_r ?_
  refine J_getI dX6_newAsk_8 g_X6_229 (by first | with_reducible assumption | (simp only [hK_sI, hK_sJ, hK_sR, hK_tI, hK_tJ, hK_tR]; with_reducible assumption)) ?_
  refine J_aload_n dX6_newAsk_11 rfl rfl isR_r ?_
  refine J_getRr dX6_newAsk_12 g_X6_23 (by first | with_reducible assumption | (simp only [hK_sI, hK_sJ, hK_sR, hK_tI, hK_tJ, hK_tR]; with_reducible assumption)) (by first | with_reducible assumption | (simp only [hR_sI, hR_sJ, hR_tI, hR_tJ, hR_tR]; with_reducible assumption)) ?_
  refine J_alen dX6_newAsk_15 (by first | with_reducible assumption | (simp only [hK_sI, hK_sJ, hK_sR, hK_tI, hK_tJ, hK_tR]; with_reducible assumption)) (by decide) (show nI (hN h (w 3 0)) = nI 300 by rw [e3']) ?_
  refine J_icmp_lt (tgt := 21) dX6_newAsk_16 (by decide) (fun c16 => ?_) (fun c16 => ?_)
  · have h300 : nA S < 300 := by rw [eT, nI_lti (by omega) (by decide)] at c16; exact c16
    refine J_aload_n dX6_newAsk_21 rfl rfl isR_r ?_
    refine J_getI dX6_newAsk_22 g_X6_138 (by first | with_reducible assumption | (simp only [hK_sI, hK_sJ, hK_sR, hK_tI, hK_tJ, hK_tR]; with_reducible assumption)) ?_
    refine J_aload_n dX6_newAsk_25 rfl rfl isR_r ?_
    refine J_callV (c_lowR hr hI1 hW.life hn) dX6_newAsk_26 ml_X6_133 mkX1_lowestOpen rfl (by first | with_reducible assumption | (simp only [hK_sI, hK_sJ, hK_sR, hK_tI, hK_tJ, hK_tR]; with_reducible assumption)) (by decide) rfl rfl (Nat.le_of_ble_eq_true rfl) ⟨Nat.le_of_ble_eq_true rfl, Nat.le_of_ble_eq_true rfl⟩ ⟨Nat.le_of_ble_eq_true rfl, Nat.le_of_ble_eq_true rfl⟩ (fun v26 hp26 q26 => ?_)
    obtain ⟨rfl, m, y1, y2, ⟨nx, y3, y4, y5, y6⟩, y7, y8⟩ := q26
    have hX0 : HX [68] h hp26 := by rw [y7]; exact HX_sI (by decide)
    have o1' := y8.1.1.1
    have k6' := (y8.1.2.2.1 n hn).2.1
    have e67 : hI h 67 (w 6 n) = nI nx := by rw [(hr.2.2.1 n hn).1.2.2, y3]
    have hu : usedUp S (nI n) = decide (m + tn (mI S 448) ≤ nx) := by
     unfold usedUp
     rw [y1, tnn, y3]
     conv => lhs; rw [ew.1]
     rw [zI_add]
     exact decide_eq_decide.mpr (nI_lei (by omega) (by omega))
    have hu2 : hI h 67 (w 6 n) - lowS S (nI n) < hI hp26 384 (w 0 0) ↔ nx - m < tn (mI S 448) := by
     rw [e67, y1, y8.2.1.1, nI_sub (by omega)]
     conv => lhs; rw [ew.1]
     exact nI_lti (by omega) (by omega)
    refine J_isub dX6_newAsk_29 ?_
    refine J_aload_n dX6_newAsk_30 rfl rfl isR_r ?_
    refine J_getI dX6_newAsk_31 g_X6_43 (by first | with_reducible assumption | (simp only [hK_sI, hK_sJ, hK_sR, hK_tI, hK_tJ, hK_tR]; with_reducible assumption)) ?_
    refine J_icmp_lt (tgt := 39) dX6_newAsk_34 (by decide) (fun c34 => ?_) (fun c34 => ?_)
    · refine J_new (ci := 0) dX6_newAsk_39 cl_X6_21 ins_RX0 ini_RX0 hcl0 (by decide) inX0 tyX0_ok (by decide) (Nat.le_of_ble_eq_true rfl) (Nat.le_of_ble_eq_true rfl) (fun a39 e39 => ?_)
      have hlt := hu2.mp c34
      have hus : usedUp S (nI n) = false := by rw [hu, decide_eq_false_iff_not]; omega
      have hXn : HX [] hp26 (nwO hp26 a39 0) := HX_nwO e39
      have cN := y8.1.x hXn (by decide)
      have o1n := cN.1.1
      have k6n := (cN.2.2.1 n hn).2.1
      have kqn : hK (nwO hp26 a39 0) a39 = 1 := by rw [hK_nwO, up1_self]
      have k00 : hK hp26 (w 0 0) ≠ 0 := by rw [o1']; decide
      have k66 : hK hp26 (w 6 n) ≠ 0 := by rw [k6']; decide
      have e389n : hI (nwO hp26 a39 0) 389 (w 0 0) = nI (nA S) := by rw [(hXn.2.1 389 _ (by decide) k00).1, y8.2.1.2.1]; exact eN3
      have e64n : hI (nwO hp26 a39 0) 64 (w 6 n) = nI n := (cN.2.2.1 n hn).2.2.1
      have e66n : hI (nwO hp26 a39 0) 66 (w 6 n) = mT S 450 n := by rw [(hXn.2.1 66 _ (by decide) k66).1, (y8.2.2.1 n hn).1.2.1]
      have e67n : hI (nwO hp26 a39 0) 67 (w 6 n) = mT S 451 n := by rw [(hXn.2.1 67 _ (by decide) k66).1, (y8.2.2.1 n hn).1.2.2]
      refine J_dup dX6_newAsk_42 rfl ?_
      refine J_aload_n dX6_newAsk_43 rfl rfl isR_r ?_
      refine J_getI dX6_newAsk_44 g_X6_229 (by first | with_reducible assumption | (simp only [hK_sI, hK_sJ, hK_sR, hK_tI, hK_tJ, hK_tR]; with_reducible assumption)) ?_
      refine J_aload_n dX6_newAsk_47 rfl rfl isR_r ?_
      refine J_getI dX6_newAsk_48 g_X6_183 (by first | with_reducible assumption | (simp only [hK_sI, hK_sJ, hK_sR, hK_tI, hK_tJ, hK_tR]; with_reducible assumption)) ?_
      refine J_aload_n dX6_newAsk_51 rfl rfl isR_r ?_
      refine J_getI dX6_newAsk_52 g_X6_137 (by first | with_reducible assumption | (simp only [hK_sI, hK_sJ, hK_sR, hK_tI, hK_tJ, hK_tR]; with_reducible assumption)) ?_
      refine J_pc (pc' := 55) rfl ?_
      refine J_aload_n dX6_newAsk_55 rfl rfl isR_r ?_
      refine J_getI dX6_newAsk_56 g_X6_138 (by first | with_reducible assumption | (simp only [hK_sI, hK_sJ, hK_sR, hK_tI, hK_tJ, hK_tR]; with_reducible assumption)) ?_
      rw [e389n, e64n, e66n, e67n]
      refine J_callI (c_init0 kqn) dX6_newAsk_59 ml_X6_249 mkX0_init rfl rfl (Nat.le_of_ble_eq_true rfl) ⟨Nat.le_of_ble_eq_true rfl, Nat.le_of_ble_eq_true rfl⟩ ⟨Nat.le_of_ble_eq_true rfl, Nat.le_of_ble_eq_true rfl⟩ (fun v59 hp59 q59 => ?_)
      obtain ⟨rfl, z59⟩ := q59
      subst z59
      refine J_astore dX6_newAsk_62 isR_r (by decide) ?_
      refine J_aload dX6_newAsk_64 rfl isR_r ?_
      refine J_iload_n dX6_newAsk_66 rfl rfl ?_
      refine J_putI dX6_newAsk_67 p_X6_108 (by first | with_reducible assumption | (simp only [hK_sI, hK_sJ, hK_sR, hK_tI, hK_tJ, hK_tR]; with_reducible assumption)) ?_
      refine J_aload dX6_newAsk_70 rfl isR_r ?_
      refine J_pc (pc' := 72) rfl ?_
      refine J_iload_n dX6_newAsk_72 rfl rfl ?_
      refine J_putI dX6_newAsk_73 p_X6_111 (by first | with_reducible assumption | (simp only [hK_sI, hK_sJ, hK_sR, hK_tI, hK_tJ, hK_tR]; with_reducible assumption)) ?_
      refine J_aload dX6_newAsk_76 rfl isR_r ?_
      refine J_iload dX6_newAsk_78 rfl ?_
      refine J_putI dX6_newAsk_80 p_X6_252 (by first | with_reducible assumption | (simp only [hK_sI, hK_sJ, hK_sR, hK_tI, hK_tJ, hK_tR]; with_reducible assumption)) ?_
      refine J_aload dX6_newAsk_83 rfl isR_r ?_
      refine J_iload dX6_newAsk_85 rfl ?_
      refine J_putI dX6_newAsk_87 p_X6_255 (by first | with_reducible assumption | (simp only [hK_sI, hK_sJ, hK_sR, hK_tI, hK_tJ, hK_tR]; with_reducible assumption)) ?_
      refine J_pc (pc' := 90) rfl ?_
      refine J_aload dX6_newAsk_90 rfl isR_r ?_
      refine J_iload dX6_newAsk_92 rfl ?_
      refine J_putI dX6_newAsk_94 p_X6_258 (by first | with_reducible assumption | (simp only [hK_sI, hK_sJ, hK_sR, hK_tI, hK_tJ, hK_tR]; with_reducible assumption)) ?_
      refine J_aload dX6_newAsk_97 rfl isR_r ?_
      refine J_iload dX6_newAsk_99 rfl ?_
      refine J_putI dX6_newAsk_101 p_X6_261 (by first | with_reducible assumption | (simp only [hK_sI, hK_sJ, hK_sR, hK_tI, hK_tJ, hK_tR]; with_reducible assumption)) ?_
      have enx : nx < 302 := by
       obtain ⟨-, -, -, -, e1, -⟩ := hW.2.2.1 n hn
       have := (inN_tn e1).2.1
       rw [y3, tn_nI (by omega)] at this
       omega
      refine J_loc _ rfl (tail hp26 a39 _ nx m y8 hX0 e39 (HX_newI e39 (HX_newI e39 (HX_newI e39 (HX_newI e39 (HX_newI e39 (HX_newI e39 (HX_newI e39 (HX_newI e39 (HX_newI e39 (HX_newI e39 (HX_newI e39 hXn))))))))))) ?_ y3 (by omega) (by rw [y7, hI_sI, if_pos ⟨rfl, rfl⟩]) y2 (by omega) h300 hus ?_ ?_ ?_ ?_ ?_ ?_ ?_ ?_ ?_ ?_ ?_ ?_ ?_ ?_)
      · simp only [hK_sI]; exact kqn
      · simp [hI_sI]
      · simp [hI_sI]
      · simp [hI_sI]
      · simp [hI_sI]
      · simp [hI_sI]
      · simp [hI_sI]
      · simp [hI_sI]
      · simp [hI_sI]
      · simp [hI_sI]
      · simp [hI_sI]
      · simp [hI_sI]
      · simp [hI_sI, hI_nwO]
      · simp [hR_sI, hR_nwO]
      · simp [hR_sI, hR_nwO]
    · refine J_null dX6_newAsk_37 ?_
      exact J_areturn dX6_newAsk_38 rfl (Or.inl ⟨_, rfl⟩) isR_n (by
       rw [← hQ]
       show if mI S 453 < 300 ∧ usedUp S (nI n) = false then _ else _
       rw [if_neg (fun z => c34 (hu2.mpr (by have := z.2; rw [hu, decide_eq_false_iff_not] at this; omega)))]
       exact ⟨rfl, y8, hX0⟩) (Nat.le_of_ble_eq_true rfl) (Nat.le_of_ble_eq_true rfl)
  · refine J_null dX6_newAsk_19 ?_
    exact J_areturn dX6_newAsk_20 rfl (Or.inl ⟨_, rfl⟩) isR_n (by
     rw [← hQ]
     show if mI S 453 < 300 ∧ usedUp S (nI n) = false then _ else _
     rw [if_neg (fun z => c16 (by rw [eT, nI_lti (by omega) (by decide)]; exact hc.mp z.1))]
     exact ⟨rfl, hr, HX.rf⟩) (Nat.le_of_ble_eq_true rfl) (Nat.le_of_ble_eq_true rfl)
end NA
