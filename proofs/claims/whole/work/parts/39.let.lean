/-! letters: what is sent, what comes -/
section LT
variable {x : om_x} {w : om_w} {h : Hp} {as : Nat → Nat} {S : Ms} {g : Nat}
/-- the row, as Rep has it -/
def LR (w : om_w) (as : Nat → Nat) (S : Ms) (h : Hp) (f : Nat) (lt : Nat → Nat) : Prop := RW w h f lt (nL S) ∧ (∀ s, s < 128 → hK h (lt s) = 3) ∧ (∀ s t, s < 128 → t < 128 → lt s = lt t → s = t) ∧ ∀ i, i < nL S → LetOK as S h i (lt ((f + i) % 128))
theorem Rep.lr (hr : Rep w as S h) (hW : WF1 S) : ∃ f lt, LR w as S h f lt := by
  obtain ⟨f, lt, r1, r2, r3, r4, r5⟩ := hr.2.2.2.2.1
  obtain ⟨-, -, -, t4, -, -⟩ := hr.2.1
  obtain ⟨-, ⟨-, -, -, ⟨d1, d2⟩, ⟨e1, e2⟩⟩, -⟩ := hr.1
  have hl := inN_tn hW.1.2.1
  exact ⟨f, lt, ⟨d1, d2, e1, e2, r1, r2, t4.trans hl.1, by have : nL S < 121 := hl.2.1; omega, fun s hs => (r3 s hs).1⟩, fun s hs => (r3 s hs).2, r4, r5⟩
set_option maxRecDepth 100000 in
set_option maxHeartbeats 4000000 in
theorem c_bend {i : Int32} (hr : Rep w as S h) (hW : WF2 g S) : Mt x 2 kX6_bend 0 0 [.ref (w 0 0), .int i] h (fun z h' => z = some (.int (bendP S i).1) ∧ Rep w as (bendP S i).2 h' ∧ HX [131] h h') := by
  refine Mt.ofJ mkX6_bend.1 (Nat.le_of_ble_eq_true rfl) ?_
  obtain ⟨f, lt, hL, hk3, hinj, hok⟩ := hr.lr hW.1
  have o1 := hr.1.1.1
  have o5 := hr.1.1.2.2.2.2
  have r1 := hL.1
  unfold bendP
  cases hi : inN i (nL S) with
  | false =>
    rw [if_pos rfl]
    refine J_aload_n dX6_bend_0 rfl rfl isR_r ?_
    refine J_getRr dX6_bend_1 g_X6_30 (by first | with_reducible assumption | (simp only [hK_sI, hK_sJ, hK_sR, hK_tI, hK_tJ, hK_tR]; with_reducible assumption)) (by first | with_reducible assumption | (simp only [hR_sI, hR_sJ, hR_tI, hR_tJ, hR_tR]; with_reducible assumption)) ?_
    refine J_iload_n dX6_bend_4 rfl rfl ?_
    refine J_callV (c_at hL) dX6_bend_5 ml_X6_141 mkX4_at rfl (by first | with_reducible assumption | (simp only [hK_sI, hK_sJ, hK_sR, hK_tI, hK_tJ, hK_tR]; with_reducible assumption)) (by decide) rfl rfl (Nat.le_of_ble_eq_true rfl) ⟨Nat.le_of_ble_eq_true rfl, Nat.le_of_ble_eq_true rfl⟩ ⟨Nat.le_of_ble_eq_true rfl, Nat.le_of_ble_eq_true rfl⟩ (fun v5 hp5 q5 => ?_)
    obtain ⟨rfl, z5⟩ := q5
    rw [z5]
    rw [hi]
    refine J_astore_n dX6_bend_8 rfl isR_n (by decide) ?_
    refine J_aload_n dX6_bend_9 rfl rfl isR_n ?_
    refine J_ifnonnull_n dX6_bend_10 ?_
    refine J_ldc dX6_bend_13 lc_X6_55 ?_
    refine J_pc (pc' := 15) rfl ?_
    exact J_ireturn dX6_bend_15 rfl ⟨rfl, hr, HX.rf⟩ (Nat.le_of_ble_eq_true rfl) (Nat.le_of_ble_eq_true rfl)
  | true =>
    rw [if_neg (by decide)]
    have ht := (inN_tn hi).2.1
    have hl : nL S < 121 := (inN_tn hW.1.1.2.1).2.1
    have hs : (f + tn i) % 128 < 128 := Nat.mod_lt _ (by decide)
    have k3 := hk3 _ hs
    have e131 : hI h 131 (lt ((f + tn i) % 128)) = mT S 473 (tn i) := (hok _ ht).2.2.2.1
    have key : Rep w as (pT S 473 (tn i) 1) (sI h 131 (lt ((f + tn i) % 128)) 1) ∧ HX [131] h (sI h 131 (lt ((f + tn i) % 128)) 1) := by
      have hS : SX [473] S (pT S 473 (tn i) 1) := SX_pT (by decide)
      have hH : HX [131] h (sI h 131 (lt ((f + tn i) % 128)) 1) := HX_sI (by decide)
      obtain ⟨a1, a2, a3, a4, a5, a6, a7⟩ := hr
      refine ⟨⟨a1.x hH (by decide), a2.x hS hH (by decide) (by decide) a1, a3.x hS hH (by decide) (by decide) a1, a4.x hS hH (by decide) (by decide) a1, ?_, a6.x hS hH (by decide) (by decide) a1, a7.x hS hH (by decide) (by decide) a1⟩, hH⟩
      refine ⟨f, lt, by rw [hI_ne 259 (by decide)]; exact hL.2.2.2.2.1, hL.2.2.2.2.2.1, fun s hs => ⟨by rw [aR_sI]; exact hL.2.2.2.2.2.2.2.2 s hs, by rw [hK_sI]; exact hk3 s hs⟩, hinj, fun j hj => ?_⟩
      rw [nL_pT] at hj
      have := hok j hj
      unfold LetOK at this ⊢
      rw [hR_sI, hI_ne 129 (by decide), hI_ne 130 (by decide), hI_ne 132 (by decide), hJ_sI, mJ_pT, mT_pT_ne (g := 469) S _ _ (by decide), mT_pT_ne (g := 470) S _ _ (by decide), mT_pT_ne (g := 471) S _ _ (by decide), mT_pT, hI_sI]
      refine ⟨this.1, this.2.1, this.2.2.1, ?_, this.2.2.2.2⟩
      by_cases e : j = tn i
      · rw [e, if_pos ⟨rfl, rfl⟩, if_pos ⟨rfl, rfl⟩]
      · rw [if_neg (fun z => e (by have := hinj _ _ (Nat.mod_lt _ (by decide)) hs z.2; omega)), if_neg (fun z => e z.2)]
        exact this.2.2.2.1
    refine J_aload_n dX6_bend_0 rfl rfl isR_r ?_
    refine J_getRr dX6_bend_1 g_X6_30 (by first | with_reducible assumption | (simp only [hK_sI, hK_sJ, hK_sR, hK_tI, hK_tJ, hK_tR]; with_reducible assumption)) (by first | with_reducible assumption | (simp only [hR_sI, hR_sJ, hR_tI, hR_tJ, hR_tR]; with_reducible assumption)) ?_
    refine J_iload_n dX6_bend_4 rfl rfl ?_
    refine J_callV (c_at hL) dX6_bend_5 ml_X6_141 mkX4_at rfl (by first | with_reducible assumption | (simp only [hK_sI, hK_sJ, hK_sR, hK_tI, hK_tJ, hK_tR]; with_reducible assumption)) (by decide) rfl rfl (Nat.le_of_ble_eq_true rfl) ⟨Nat.le_of_ble_eq_true rfl, Nat.le_of_ble_eq_true rfl⟩ ⟨Nat.le_of_ble_eq_true rfl, Nat.le_of_ble_eq_true rfl⟩ (fun v5 hp5 q5 => ?_)
    obtain ⟨rfl, z5⟩ := q5
    rw [z5]
    rw [hi]
    refine J_astore_n dX6_bend_8 rfl isR_r (by decide) ?_
    refine J_aload_n dX6_bend_9 rfl rfl isR_r ?_
    refine J_ifnonnull_r (tgt := 16) dX6_bend_10 (by decide) ?_
    refine J_aload_n dX6_bend_16 rfl rfl isR_r ?_
    refine J_getI dX6_bend_17 g_X6_164 (by first | with_reducible assumption | (simp only [hK_sI, hK_sJ, hK_sR, hK_tI, hK_tJ, hK_tR]; with_reducible assumption)) ?_
    refine J_pc (pc' := 20) rfl ?_
    refine J_if_eq (tgt := 25) dX6_bend_20 (by decide) (fun c20 => ?_) (fun c20 => ?_)
    · refine J_aload_n dX6_bend_25 rfl rfl isR_r ?_
      refine J_iconst (v := 1) dX6_bend_26 (by decide) ?_
      refine J_putZ dX6_bend_27 p_X6_164 (by first | with_reducible assumption | (simp only [hK_sI, hK_sJ, hK_sR, hK_tI, hK_tJ, hK_tR]; with_reducible assumption)) (by first | exact Or.inl rfl | exact Or.inr rfl) ?_
      refine J_iconst (v := 1) dX6_bend_30 (by decide) ?_
      exact J_ireturn dX6_bend_31 rfl ⟨by rw [if_pos (by rw [← e131]; exact c20)], key⟩ (Nat.le_of_ble_eq_true rfl) (Nat.le_of_ble_eq_true rfl)
    · refine J_iconst (v := 0) dX6_bend_23 (by decide) ?_
      exact J_ireturn dX6_bend_24 rfl ⟨by rw [if_neg (by rw [← e131]; exact c20)], (by
       have e1 : hI h 131 (lt ((f + tn i) % 128)) = 1 := by
         rcases (hW.1.2.2.2.1 (tn i)).2 with q | q
         · exact absurd (e131.trans q) c20
         · exact e131.trans q
       rw [sI_self e1] at key
       exact key)⟩ (Nat.le_of_ble_eq_true rfl) (Nat.le_of_ble_eq_true rfl)
set_option maxRecDepth 100000 in
set_option maxHeartbeats 4000000 in
theorem c_letter {i v : Int32} (hr : Rep w as S h) (hW : WF2 g S) : Mt x 2 kX6_letter 0 0 [.ref (w 0 0), .int i, .int v] h (fun z h' => z = some (.int (letterP S i v)) ∧ h' = h) := by
  refine Mt.ofJ mkX6_letter.1 (Nat.le_of_ble_eq_true rfl) ?_
  obtain ⟨f, lt, hL, hk3, hinj, hok⟩ := hr.lr hW.1
  have o1 := hr.1.1.1
  have o5 := hr.1.1.2.2.2.2
  have r1 := hL.1
  unfold letterP
  have hv0 : v < 0 → inN v 5 = false := fun c => inN_neg c
  cases hi : inN i (nL S) with
  | false =>
    refine J_iload_n dX6_letter_0 rfl rfl ?_
    refine J_if_lt (tgt := 9) dX6_letter_1 (by decide) (fun c1 => ?_) (fun c1 => ?_)
    · refine J_ldc dX6_letter_9 lc_X6_55 ?_
      exact J_ireturn dX6_letter_11 rfl ⟨by rw [if_pos (inN_neg c1)], rfl⟩ (Nat.le_of_ble_eq_true rfl) (Nat.le_of_ble_eq_true rfl)
    · refine J_iload_n dX6_letter_4 rfl rfl ?_
      refine J_iconst (v := 4) dX6_letter_5 (by decide) ?_
      refine J_icmp_le (tgt := 12) dX6_letter_6 (by decide) (fun c6 => ?_) (fun c6 => ?_)
      · refine J_aload_n dX6_letter_12 rfl rfl isR_r ?_
        refine J_getRr dX6_letter_13 g_X6_30 (by first | with_reducible assumption | (simp only [hK_sI, hK_sJ, hK_sR, hK_tI, hK_tJ, hK_tR]; with_reducible assumption)) (by first | with_reducible assumption | (simp only [hR_sI, hR_sJ, hR_tI, hR_tJ, hR_tR]; with_reducible assumption)) ?_
        refine J_iload_n dX6_letter_16 rfl rfl ?_
        have hv : inN v 5 = true := inN_mid (n := 5) (by decide) c1 (by rw [n_le] at c6 ⊢; rw [show (nI 5).toInt = 5 from rfl]; rw [show (4 : Int32).toInt = 4 from rfl] at c6; omega)
        refine J_callV (c_at hL) dX6_letter_17 ml_X6_141 mkX4_at rfl (by first | with_reducible assumption | (simp only [hK_sI, hK_sJ, hK_sR, hK_tI, hK_tJ, hK_tR]; with_reducible assumption)) (by decide) rfl rfl (Nat.le_of_ble_eq_true rfl) ⟨Nat.le_of_ble_eq_true rfl, Nat.le_of_ble_eq_true rfl⟩ ⟨Nat.le_of_ble_eq_true rfl, Nat.le_of_ble_eq_true rfl⟩ (fun v17 hp17 q17 => ?_)
        obtain ⟨rfl, z17⟩ := q17
        rw [z17]
        rw [hi]
        refine J_astore_n dX6_letter_20 rfl isR_n (by decide) ?_
        refine J_aload_n dX6_letter_21 rfl rfl isR_n ?_
        refine J_ifnonnull_n dX6_letter_22 ?_
        refine J_iconst (v := -1) dX6_letter_25 (by decide) ?_
        refine J_pc (pc' := 26) rfl ?_
        exact J_ireturn dX6_letter_26 rfl ⟨by rw [if_neg (by rw [hv]; decide), if_pos rfl], rfl⟩ (Nat.le_of_ble_eq_true rfl) (Nat.le_of_ble_eq_true rfl)
      · refine J_ldc dX6_letter_9 lc_X6_55 ?_
        exact J_ireturn dX6_letter_11 rfl ⟨by rw [if_pos (inN_big (n := 5) (by decide) (by rw [n_le] at c6 ⊢; rw [show (nI 5).toInt = 5 from rfl]; rw [show (4 : Int32).toInt = 4 from rfl] at c6; omega))], rfl⟩ (Nat.le_of_ble_eq_true rfl) (Nat.le_of_ble_eq_true rfl)
  | true =>
    have ht := (inN_tn hi).2.1
    have hs : (f + tn i) % 128 < 128 := Nat.mod_lt _ (by decide)
    have k3 := hk3 _ hs
    obtain ⟨l1, l2, l3, l4, l5, l6⟩ := hok _ ht
    have ha := hW.1.2.2.1 _ ht
    have hak := inN_tn ha
    have q0 := hr.2.2.2.1.2.2.1 _ hak.2.1
    have q1 := q0.1
    refine J_iload_n dX6_letter_0 rfl rfl ?_
    refine J_if_lt (tgt := 9) dX6_letter_1 (by decide) (fun c1 => ?_) (fun c1 => ?_)
    · refine J_ldc dX6_letter_9 lc_X6_55 ?_
      exact J_ireturn dX6_letter_11 rfl ⟨by rw [if_pos (inN_neg c1)], rfl⟩ (Nat.le_of_ble_eq_true rfl) (Nat.le_of_ble_eq_true rfl)
    · refine J_iload_n dX6_letter_4 rfl rfl ?_
      refine J_iconst (v := 4) dX6_letter_5 (by decide) ?_
      refine J_icmp_le (tgt := 12) dX6_letter_6 (by decide) (fun c6 => ?_) (fun c6 => ?_)
      · refine J_aload_n dX6_letter_12 rfl rfl isR_r ?_
        refine J_getRr dX6_letter_13 g_X6_30 (by first | with_reducible assumption | (simp only [hK_sI, hK_sJ, hK_sR, hK_tI, hK_tJ, hK_tR]; with_reducible assumption)) (by first | with_reducible assumption | (simp only [hR_sI, hR_sJ, hR_tI, hR_tJ, hR_tR]; with_reducible assumption)) ?_
        refine J_iload_n dX6_letter_16 rfl rfl ?_
        have hv : inN v 5 = true := inN_mid (n := 5) (by decide) c1 (by rw [n_le] at c6 ⊢; rw [show (nI 5).toInt = 5 from rfl]; rw [show (4 : Int32).toInt = 4 from rfl] at c6; omega)
        rw [if_neg (by rw [hv]; decide), if_neg (by decide)]
        refine J_callV (c_at hL) dX6_letter_17 ml_X6_141 mkX4_at rfl (by first | with_reducible assumption | (simp only [hK_sI, hK_sJ, hK_sR, hK_tI, hK_tJ, hK_tR]; with_reducible assumption)) (by decide) rfl rfl (Nat.le_of_ble_eq_true rfl) ⟨Nat.le_of_ble_eq_true rfl, Nat.le_of_ble_eq_true rfl⟩ ⟨Nat.le_of_ble_eq_true rfl, Nat.le_of_ble_eq_true rfl⟩ (fun v17 hp17 q17 => ?_)
        obtain ⟨rfl, z17⟩ := q17
        rw [z17]
        rw [hi]
        refine J_astore_n dX6_letter_20 rfl isR_r (by decide) ?_
        refine J_aload_n dX6_letter_21 rfl rfl isR_r ?_
        refine J_ifnonnull_r (tgt := 27) dX6_letter_22 (by decide) ?_
        refine J_iload_n dX6_letter_27 rfl rfl ?_
        by_cases s28_0 : v = 0
        · refine J_st (st' := [.int 0]) (by rw [s28_0] <;> rfl) ?_
          refine J_tswIn (off := 32) (tgt := 60) dX6_letter_28 (by decide) (by decide) (by decide) (by decide) ?_
          refine J_aload_n dX6_letter_60 rfl rfl isR_r ?_
          refine J_getRr dX6_letter_61 g_X6_167 (by first | with_reducible assumption | (simp only [hK_sI, hK_sJ, hK_sR, hK_tI, hK_tJ, hK_tR]; with_reducible assumption)) (by first | with_reducible assumption | (simp only [hR_sI, hR_sJ, hR_tI, hR_tJ, hR_tR]; with_reducible assumption)) ?_
          refine J_callS (c_idOf_r q1) dX6_letter_64 ml_X6_118 mkX6_idOf rfl rfl (Nat.le_of_ble_eq_true rfl) ⟨Nat.le_of_ble_eq_true rfl, Nat.le_of_ble_eq_true rfl⟩ ⟨Nat.le_of_ble_eq_true rfl, Nat.le_of_ble_eq_true rfl⟩ (fun v64 hp64 q64 => ?_)
          obtain ⟨rfl, z64⟩ := q64
          rw [z64]
          exact J_ireturn dX6_letter_67 rfl ⟨by rw [if_pos s28_0, q0.2.1, ← hak.1], rfl⟩ (Nat.le_of_ble_eq_true rfl) (Nat.le_of_ble_eq_true rfl)
        -- else
        by_cases s28_1 : v = 1
        · refine J_st (st' := [.int 1]) (by rw [s28_1] <;> rfl) ?_
          refine J_tswIn (off := 40) (tgt := 68) dX6_letter_28 (by decide) (by decide) (by decide) (by decide) ?_
          refine J_aload_n dX6_letter_68 rfl rfl isR_r ?_
          refine J_getI dX6_letter_69 g_X6_170 (by first | with_reducible assumption | (simp only [hK_sI, hK_sJ, hK_sR, hK_tI, hK_tJ, hK_tR]; with_reducible assumption)) ?_
          refine J_if_eq (tgt := 79) dX6_letter_72 (by decide) (fun c72 => ?_) (fun c72 => ?_)
          · refine J_iconst (v := 0) dX6_letter_79 (by decide) ?_
            exact J_ireturn dX6_letter_80 rfl ⟨by rw [if_neg s28_0, if_pos s28_1, if_pos (by rw [← l2]; exact c72)], rfl⟩ (Nat.le_of_ble_eq_true rfl) (Nat.le_of_ble_eq_true rfl)
          · refine J_iconst (v := 1) dX6_letter_75 (by decide) ?_
            refine J_goto (tgt := 80) dX6_letter_76 (by decide) ?_
            exact J_ireturn dX6_letter_80 rfl ⟨by rw [if_neg s28_0, if_pos s28_1, if_neg (by rw [← l2]; exact c72)], rfl⟩ (Nat.le_of_ble_eq_true rfl) (Nat.le_of_ble_eq_true rfl)
        -- else
        by_cases s28_2 : v = 2
        · refine J_st (st' := [.int 2]) (by rw [s28_2] <;> rfl) ?_
          refine J_tswIn (off := 53) (tgt := 81) dX6_letter_28 (by decide) (by decide) (by decide) (by decide) ?_
          refine J_aload_n dX6_letter_81 rfl rfl isR_r ?_
          refine J_getI dX6_letter_82 g_X6_170 (by first | with_reducible assumption | (simp only [hK_sI, hK_sJ, hK_sR, hK_tI, hK_tJ, hK_tR]; with_reducible assumption)) ?_
          refine J_if_eq (tgt := 92) dX6_letter_85 (by decide) (fun c85 => ?_) (fun c85 => ?_)
          · refine J_aload_n dX6_letter_92 rfl rfl isR_r ?_
            refine J_getI dX6_letter_93 g_X6_173 (by first | with_reducible assumption | (simp only [hK_sI, hK_sJ, hK_sR, hK_tI, hK_tJ, hK_tR]; with_reducible assumption)) ?_
            exact J_ireturn dX6_letter_96 rfl ⟨by rw [if_neg s28_0, if_neg s28_1, if_pos s28_2, l5 (by rw [← l2]; exact c85)], rfl⟩ (Nat.le_of_ble_eq_true rfl) (Nat.le_of_ble_eq_true rfl)
          · refine J_iconst (v := -1) dX6_letter_88 (by decide) ?_
            refine J_goto (tgt := 96) dX6_letter_89 (by decide) ?_
            exact J_ireturn dX6_letter_96 rfl ⟨by rw [if_neg s28_0, if_neg s28_1, if_pos s28_2, ((hW.2.2.2.2.2.2.1 _ ht).2 (by rw [← l2]; exact c85)).1], rfl⟩ (Nat.le_of_ble_eq_true rfl) (Nat.le_of_ble_eq_true rfl)
        -- else
        by_cases s28_3 : v = 3
        · refine J_st (st' := [.int 3]) (by rw [s28_3] <;> rfl) ?_
          refine J_tswIn (off := 69) (tgt := 97) dX6_letter_28 (by decide) (by decide) (by decide) (by decide) ?_
          refine J_aload_n dX6_letter_97 rfl rfl isR_r ?_
          refine J_getI dX6_letter_98 g_X6_164 (by first | with_reducible assumption | (simp only [hK_sI, hK_sJ, hK_sR, hK_tI, hK_tJ, hK_tR]; with_reducible assumption)) ?_
          refine J_if_eq (tgt := 108) dX6_letter_101 (by decide) (fun c101 => ?_) (fun c101 => ?_)
          · refine J_iconst (v := 0) dX6_letter_108 (by decide) ?_
            exact J_ireturn dX6_letter_109 rfl ⟨by rw [if_neg s28_0, if_neg s28_1, if_neg s28_2, if_pos s28_3, if_pos (by rw [← l4]; exact c101)], rfl⟩ (Nat.le_of_ble_eq_true rfl) (Nat.le_of_ble_eq_true rfl)
          · refine J_iconst (v := 1) dX6_letter_104 (by decide) ?_
            refine J_goto (tgt := 109) dX6_letter_105 (by decide) ?_
            exact J_ireturn dX6_letter_109 rfl ⟨by rw [if_neg s28_0, if_neg s28_1, if_neg s28_2, if_pos s28_3, if_neg (by rw [← l4]; exact c101)], rfl⟩ (Nat.le_of_ble_eq_true rfl) (Nat.le_of_ble_eq_true rfl)
        -- else
        have tt : (v).toInt ≠ 0 ∧ (v).toInt ≠ 1 ∧ (v).toInt ≠ 2 ∧ (v).toInt ≠ 3 := ⟨fun z => s28_0 (Int32.toInt_inj.mp (z.trans (by decide))), fun z => s28_1 (Int32.toInt_inj.mp (z.trans (by decide))), fun z => s28_2 (Int32.toInt_inj.mp (z.trans (by decide))), fun z => s28_3 (Int32.toInt_inj.mp (z.trans (by decide)))⟩
        refine J_tswOut (tgt := 110) dX6_letter_28 (by omega) (by decide) ?_
        refine J_aload_n dX6_letter_110 rfl rfl isR_r ?_
        refine J_pc (pc' := 111) rfl ?_
        refine J_getI dX6_letter_111 g_X6_176 (by first | with_reducible assumption | (simp only [hK_sI, hK_sJ, hK_sR, hK_tI, hK_tJ, hK_tR]; with_reducible assumption)) ?_
        refine J_if_eq (tgt := 121) dX6_letter_114 (by decide) (fun c114 => ?_) (fun c114 => ?_)
        · refine J_iconst (v := 0) dX6_letter_121 (by decide) ?_
          exact J_ireturn dX6_letter_122 rfl ⟨by rw [if_neg s28_0, if_neg s28_1, if_neg s28_2, if_neg s28_3, ← l3, c114], rfl⟩ (Nat.le_of_ble_eq_true rfl) (Nat.le_of_ble_eq_true rfl)
        · refine J_iconst (v := 1) dX6_letter_117 (by decide) ?_
          refine J_goto (tgt := 122) dX6_letter_118 (by decide) ?_
          exact J_ireturn dX6_letter_122 rfl ⟨by rw [if_neg s28_0, if_neg s28_1, if_neg s28_2, if_neg s28_3, if_pos (Decidable.byContradiction fun z => c114 (by rw [l3, if_neg z]))], rfl⟩ (Nat.le_of_ble_eq_true rfl) (Nat.le_of_ble_eq_true rfl)
      · refine J_ldc dX6_letter_9 lc_X6_55 ?_
        exact J_ireturn dX6_letter_11 rfl ⟨by rw [if_pos (inN_big (n := 5) (by decide) (by rw [n_le] at c6 ⊢; rw [show (nI 5).toInt = 5 from rfl]; rw [show (4 : Int32).toInt = 4 from rfl] at c6; omega))], rfl⟩ (Nat.le_of_ble_eq_true rfl) (Nat.le_of_ble_eq_true rfl)
end LT
