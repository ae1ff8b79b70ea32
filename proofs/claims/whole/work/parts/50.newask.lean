/-! newAsk -/
section NA
variable {x : om_x} {w : om_w} {h h' : Hp} {as : Nat → Nat} {S S' : Ms} {g : Nat}
theorem hI_nwO {h : Hp} {a ci f b : Nat} : hI (nwO h a ci) f b = if b = a then 0 else hI h f b := Eq.trans rfl rfl
theorem hJ_nwO {h : Hp} {a ci f b : Nat} : hJ (nwO h a ci) f b = if b = a then 0 else hJ h f b := Eq.trans rfl rfl
theorem hR_nwO {h : Hp} {a ci f b : Nat} : hR (nwO h a ci) f b = if b = a then none else hR h f b := Eq.trans rfl rfl
theorem hK_nwO {h : Hp} {a ci b : Nat} : hK (nwO h a ci) b = up1 (hK h) a (ci + 1) b := Eq.trans rfl rfl
theorem HX_nwO {L : List Nat} {h : Hp} {a ci : Nat} (ha : hK h a = 0) : HX L h (nwO h a ci) := by
  have ne : ∀ b, hK h b ≠ 0 → b ≠ a := fun b z e => z (by rw [e]; exact ha)
  refine ⟨fun b hb => ⟨by rw [hK_nwO, up1_ne _ _ (ne b hb)], rfl⟩, fun f b _ hb => ⟨by rw [hI_nwO, if_neg (ne b hb)], by rw [hJ_nwO, if_neg (ne b hb)], by rw [hR_nwO, if_neg (ne b hb)]⟩, fun t b j _ _ => ⟨rfl, rfl, rfl⟩⟩
theorem HX_newI {L : List Nat} {h h1 : Hp} {f a : Nat} {v : Int32} (ha : hK h a = 0) (c : HX L h h1) : HX L h (sI h1 f a v) := by
  have ne : ∀ b, hK h b ≠ 0 → b ≠ a := fun b z e => z (by rw [e]; exact ha)
  refine ⟨fun b hb => ?_, fun g b hg hb => ?_, fun t b j ht hb => ?_⟩
  · rw [hK_sI, hN_sI]; exact c.1 b hb
  · rw [hI_sI, if_neg (fun z => ne b hb z.2), hJ_sI, hR_sI]; exact c.2.1 g b hg hb
  · rw [aI_sI, aJ_sI, aR_sI]; exact c.2.2 t b j ht hb
set_option maxRecDepth 100000 in
set_option maxHeartbeats 4000000 in
theorem c_init0 {a : Nat} {i n l k : Int32} (hk : hK h a = 1) : Mt x 1 kX0_init 0 0 [.ref a, .int i, .int n, .int l, .int k] h (fun z h' => z = none ∧ h' = sI (sI (sI (sI (sI h 10 a 0) 0 a i) 1 a n) 2 a l) 3 a k) := by
  refine Mt.ofJ mkX0_init.1 (Nat.le_of_ble_eq_true rfl) ?_
  refine J_aload_n dX0_init_0 rfl rfl isR_r ?_
  refine J_obj dX0_init_1 ml_X0_3 (Nat.le_of_ble_eq_true rfl) (Nat.le_of_ble_eq_true rfl) ?_
  refine J_aload_n dX0_init_4 rfl rfl isR_r ?_
  refine J_iconst (v := 0) dX0_init_5 (by decide) ?_
  refine J_putI (hin := fun _ => rfl) dX0_init_6 p_X0_9 (by first | with_reducible assumption | (simp only [hK_sI, hK_sJ, hK_sR, hK_tI, hK_tJ, hK_tR]; with_reducible assumption)) ?_
  refine J_aload_n dX0_init_9 rfl rfl isR_r ?_
  refine J_iload_n dX0_init_10 rfl rfl ?_
  refine J_putI (hin := fun _ => rfl) dX0_init_11 p_X0_15 (by first | with_reducible assumption | (simp only [hK_sI, hK_sJ, hK_sR, hK_tI, hK_tJ, hK_tR]; with_reducible assumption)) ?_
  refine J_pc (pc' := 14) rfl ?_
  refine J_aload_n dX0_init_14 rfl rfl isR_r ?_
  refine J_iload_n dX0_init_15 rfl rfl ?_
  refine J_putI (hin := fun _ => rfl) dX0_init_16 p_X0_18 (by first | with_reducible assumption | (simp only [hK_sI, hK_sJ, hK_sR, hK_tI, hK_tJ, hK_tR]; with_reducible assumption)) ?_
  refine J_aload_n dX0_init_19 rfl rfl isR_r ?_
  refine J_iload_n dX0_init_20 rfl rfl ?_
  refine J_putI (hin := fun _ => rfl) dX0_init_21 p_X0_21 (by first | with_reducible assumption | (simp only [hK_sI, hK_sJ, hK_sR, hK_tI, hK_tJ, hK_tR]; with_reducible assumption)) ?_
  refine J_aload_n dX0_init_24 rfl rfl isR_r ?_
  refine J_iload dX0_init_25 rfl ?_
  refine J_pc (pc' := 27) rfl ?_
  refine J_putI (hin := fun _ => rfl) dX0_init_27 p_X0_24 (by first | with_reducible assumption | (simp only [hK_sI, hK_sJ, hK_sR, hK_tI, hK_tJ, hK_tR]; with_reducible assumption)) ?_
  exact J_return dX0_init_30 rfl ⟨rfl, rfl⟩ (Nat.le_of_ble_eq_true rfl) (Nat.le_of_ble_eq_true rfl)
theorem EK.hx {M : List Nat} {e ek : Nat} (hH : HX M h h') (d : dj [69, 329] M) (hE : EK h e ek) : EK h' e ek := by
  obtain ⟨k1, k2, k3, k4, k5⟩ := hE
  have z1 : hK h e ≠ 0 := by rw [k1]; decide
  have z2 : hK h ek ≠ 0 := by rw [k3]; decide
  refine ⟨by rw [(hH.1 _ z1).1]; exact k1, by rw [(hH.2.1 69 _ d.at z1).2.2]; exact k2, by rw [(hH.1 _ z2).1]; exact k3, by rw [(hH.1 _ z2).2]; exact k4, fun j hj a ha => ?_⟩
  rw [(hH.2.2 59 _ j d.at z2).2.2] at ha
  have := k5 j hj a ha
  rw [(hH.1 _ (by rw [this]; decide)).1]
  exact this
set_option maxRecDepth 100000 in
set_option maxHeartbeats 4000000 in
theorem c_newAsk {n : Nat} {sv kind a b t amt : Int32} (hr : Rep w as S h) (hI1 : Inj w) (hW : WF2 g S) (hn : n < 10) (h467 : ∀ k, nA S ≤ k → mT S 467 k = 0) : Mt x 2 kX6_newAsk 1 15 [.ref (w 0 0), .ref (w 6 n), .int sv, .int kind, .int a, .int b, .int t, .int amt] h (fun z h' => if mI S 453 < 300 ∧ usedUp S (nI n) = false then ∃ q, z = some (.ref q) ∧ Rep w (asN as S q) (newAskF S (nI n) sv kind a b t amt (-1)) h' ∧ HX [67, 68, 389, 313, 329] h h' else z = some .null ∧ Rep w as S h' ∧ HX [68] h h') := by
  refine Mt.ofJ mkX6_newAsk.1 (Nat.le_of_ble_eq_true rfl) ?_
  have o1 := hr.1.1.1
  have o4 := hr.1.1.2.2.2.1
  obtain ⟨u1, u2, u3, u4, u5, u6⟩ := hr.1.2.2.1 n hn
  have e3 := hr.1.2.1.2.2.1.2
  have eN := inN_tn hW.1.1.1
  have eN2 : nA S < 301 := eN.2.1
  have eN3 : mI S 453 = nI (nA S) := eN.1
  have eT : hI h 389 (w 0 0) = nI (nA S) := by rw [hr.2.1.2.1]; exact eN3
  have hc : mI S 453 < 300 ↔ nA S < 300 := by rw [eN3, show (300 : Int32) = nI 300 from rfl, nI_lti (by omega) (by decide)]
  have tnn : tn (nI n) = n := tn_nI (by omega)
  have ew := inN_tn hW.2.1.2.1
  have ew2 := ew.2.1
  generalize hQ : (fun z h' => if mI S 453 < 300 ∧ usedUp S (nI n) = false then ∃ q, z = some (Value.ref q) ∧ Rep w (asN as S q) (newAskF S (nI n) sv kind a b t amt (-1)) h' ∧ HX [67, 68, 389, 313, 329] h h' else z = some Value.null ∧ Rep w as S h' ∧ HX [68] h h') = Q
  have tail : ∀ h0 q hB nx m, Rep w as S h0 → HX [68] h h0 → hK h0 q = 0 → HX [] h0 hB → hK hB q = 1 → mT S 451 n = nI nx → nx + 1 < 1000 → hI h0 68 (w 6 n) = nI m → m < 1000 → nx < m + 16 → nA S < 300 → usedUp S (nI n) = false → hI hB 0 q = nI (nA S) → hI hB 1 q = nI n → hI hB 2 q = mT S 450 n → hI hB 3 q = mT S 451 n → hI hB 4 q = sv → hI hB 5 q = kind → hI hB 6 q = a → hI hB 7 q = b → hI hB 8 q = t → hI hB 9 q = amt → hI hB 10 q = 0 → hI hB 12 q = 0 → hR hB 13 q = none → hR hB 14 q = none → J x (om_m x 2 1 15 Q) kX6_newAsk 104 [(0, .ref (w 0 0)), (1, .ref (w 6 n)), (2, .int sv), (3, .int kind), (4, .int a), (5, .int b), (6, .int t), (7, .int amt), (8, .ref q)] [] hB 1 15 := by
    intro h0 q hB nx m r0 hX0 hq hX kq hnx hx hm hm2 hm3 h300 hus f0 f1 f2 f3 f4 f5 f6 f7 f8 f9 f10 f12 f13 f14
    have cB := r0.1.x hX (by decide)
    have p1 := cB.1.1
    have p4 := cB.1.2.2.2.1
    have p3 := cB.2.1.2.2.1.1
    have p3n := cB.2.1.2.2.1.2
    have pe := (cB.2.2.1 n hn).2.1
    have k0 : hK h0 (w 0 0) ≠ 0 := by rw [r0.1.1.1]; decide
    have b389 : hI hB 389 (w 0 0) = nI (nA S) := by rw [(hX.2.1 389 _ (by decide) k0).1, r0.2.1.2.1]; exact eN3
    have b67 : hI hB 67 (w 6 n) = nI nx := by rw [(hX.2.1 67 _ (by decide) (by rw [(r0.1.2.2.1 n hn).2.1]; decide)).1, (r0.2.2.1 n hn).1.2.2, hnx]
    have nq : ∀ d, hK h0 d ≠ 0 → d ≠ q := fun d z e => z (by rw [e]; exact hq)
    refine J_aload_n dX6_newAsk_104 rfl rfl isR_r ?_
    refine J_getRr dX6_newAsk_105 g_X6_23 (by first | with_reducible assumption | (simp only [hK_sI, hK_sJ, hK_sR, hK_tI, hK_tJ, hK_tR]; with_reducible assumption)) (by first | with_reducible assumption | (simp only [hR_sI, hR_sJ, hR_tI, hR_tJ, hR_tR]; with_reducible assumption)) ?_
    refine J_aload_n dX6_newAsk_108 rfl rfl isR_r ?_
    refine J_getI dX6_newAsk_109 g_X6_229 (by first | with_reducible assumption | (simp only [hK_sI, hK_sJ, hK_sR, hK_tI, hK_tJ, hK_tR]; with_reducible assumption)) ?_
    refine J_aload dX6_newAsk_112 rfl isR_r ?_
    refine J_aast dX6_newAsk_114 (by first | with_reducible assumption | (simp only [hK_sI, hK_sJ, hK_sR, hK_tI, hK_tJ, hK_tR]; with_reducible assumption)) ⟨by decide, by decide⟩ (show inx _ (nA S) (hN hB (w 3 0)) by rw [p3n, b389]; exact inx_n h300 (by decide)) (by assumption) ?_
    refine J_aload_n dX6_newAsk_115 rfl rfl isR_r ?_
    refine J_dup dX6_newAsk_116 rfl ?_
    refine J_pc (pc' := 117) rfl ?_
    refine J_getI dX6_newAsk_117 g_X6_229 (by first | with_reducible assumption | (simp only [hK_sI, hK_sJ, hK_sR, hK_tI, hK_tJ, hK_tR]; with_reducible assumption)) ?_
    refine J_iconst (v := 1) dX6_newAsk_120 (by decide) ?_
    refine J_iadd dX6_newAsk_121 ?_
    refine J_putI dX6_newAsk_122 p_X6_229 (by first | with_reducible assumption | (simp only [hK_sI, hK_sJ, hK_sR, hK_tI, hK_tJ, hK_tR]; with_reducible assumption)) ?_
    refine J_aload_n dX6_newAsk_125 rfl rfl isR_r ?_
    refine J_aload dX6_newAsk_126 rfl isR_r ?_
    refine J_callV (c_keep (nx := nx) (((r0.2.2.1.ek r0.1 r0.2.2.2.1.2.2.1 hn).hx hX (by decide)).hx (M := [313, 389]) ((HX_tR (by decide)).tr (HX_sI (by decide))) (by decide)) (by rw [hI_ne 67 (by decide), hI_tR]; exact b67) (by rw [hK_sI, hK_tR]; exact kq)) dX6_newAsk_128 ml_X6_264 mkX1_keep rfl (by first | with_reducible assumption | (simp only [hK_sI, hK_sJ, hK_sR, hK_tI, hK_tJ, hK_tR]; with_reducible assumption)) (by decide) rfl rfl (Nat.le_of_ble_eq_true rfl) ⟨Nat.le_of_ble_eq_true rfl, Nat.le_of_ble_eq_true rfl⟩ ⟨Nat.le_of_ble_eq_true rfl, Nat.le_of_ble_eq_true rfl⟩ (fun v128 hp128 q128 => ?_)
    obtain ⟨rfl, z128⟩ := q128
    refine J_aload dX6_newAsk_131 rfl isR_r ?_
    refine J_pc (pc' := 133) rfl ?_
    exact J_areturn dX6_newAsk_133 rfl (Or.inl ⟨_, rfl⟩) isR_r (by
     rw [← hQ]
     show if mI S 453 < 300 ∧ usedUp S (nI n) = false then _ else _
     rw [if_pos ⟨hc.mpr h300, hus⟩]
     have hH2 : HX [389, 313, 329, 67] hB hp128 := by
       rw [z128]
       exact (HX_tR (by decide)).tr ((HX_sI (by decide)).tr ((HX_tR (by decide)).tr (HX_sI (by decide))))
     have hH : HX [389, 313, 329, 67] h0 hp128 := (hX.sub (by decide)).tr hH2
     have kqn : hK hB q ≠ 0 := by rw [kq]; decide
     refine ⟨q, rfl, ?_, (hX0.sub (by decide)).tr (hH.sub (by decide))⟩
     refine Rep_new (nx := nx) (m := m) r0 hI1 hW hn hq h300 hH (by rw [(hH2.1 q kqn).1]; exact kq) (by rw [(hH2.2.1 0 q (by decide) kqn).1]; exact f0) (by rw [(hH2.2.1 1 q (by decide) kqn).1]; exact f1) (by rw [(hH2.2.1 2 q (by decide) kqn).1]; exact f2) (by rw [(hH2.2.1 3 q (by decide) kqn).1]; exact f3) (by rw [(hH2.2.1 4 q (by decide) kqn).1]; exact f4) (by rw [(hH2.2.1 5 q (by decide) kqn).1]; exact f5) (by rw [(hH2.2.1 6 q (by decide) kqn).1]; exact f6) (by rw [(hH2.2.1 7 q (by decide) kqn).1]; exact f7) (by rw [(hH2.2.1 8 q (by decide) kqn).1]; exact f8) (by rw [(hH2.2.1 9 q (by decide) kqn).1]; exact f9) (by rw [(hH2.2.1 10 q (by decide) kqn).1]; exact f10) (by rw [(hH2.2.1 12 q (by decide) kqn).1]; exact f12) (by rw [(hH2.2.1 13 q (by decide) kqn).2.2]; exact f13) (by rw [(hH2.2.1 14 q (by decide) kqn).2.2]; exact f14) (h467 _ (Nat.le_refl _)) ?_ (fun j => ?_) (fun j => ?_) (fun i hi hne => ?_) ?_ (fun i hi hne => ?_) hnx hx hm hm2 hm3
     · rw [z128, hI_ne 389 (by decide), hI_tR, hI_sI, if_pos ⟨rfl, rfl⟩, hI_tR, b389, nI_inc1]
     · rw [z128, aR_sI, aR_tR, if_neg (fun z => absurd z.1 (by decide)), aR_sI, aR_tR, (hX.2.2 43 _ j (by decide) (by rw [r0.1.2.1.2.2.1.1]; decide)).2.2]
       by_cases ej : j = nA S
       · rw [if_pos ⟨rfl, rfl, ej⟩, if_pos ej]
       · rw [if_neg (fun z => ej z.2.2), if_neg ej]
     · rw [z128, aR_sI, aR_tR, aR_sI, aR_tR, (hX.2.2 59 _ j (by decide) (by rw [(r0.1.2.2.1 n hn).2.2.2.2.1]; decide)).2.2]
       by_cases ej : j = nx % 16
       · rw [if_pos ⟨rfl, rfl, ej⟩, if_pos ej]
       · rw [if_neg (fun z => ej z.2.2), if_neg ej, if_neg (fun z => absurd z.1 (by decide))]
     · funext j
       rw [z128, aR_sI, aR_tR, if_neg (fun z => hne (hI1 7 i n (Or.inr (Or.inl ⟨rfl, hi, hn⟩)) z.2.1)), aR_sI, aR_tR, if_neg (fun z => absurd z.1 (by decide)), (hX.2.2 59 _ j (by decide) (by rw [(r0.1.2.2.1 i hi).2.2.2.2.1]; decide)).2.2]
     · rw [z128, hI_sI, if_pos ⟨rfl, rfl⟩]
     · rw [z128, hI_sI, if_neg (fun z => hne (hI1 6 i n (Or.inl ⟨rfl, hi, hn⟩) z.2)), hI_tR, hI_ne 67 (by decide), hI_tR, (hX.2.1 67 _ (by decide) (by rw [(r0.1.2.2.1 i hi).2.1]; decide)).1]) (Nat.le_of_ble_eq_true rfl) (Nat.le_of_ble_eq_true rfl)
  sorry
end NA
