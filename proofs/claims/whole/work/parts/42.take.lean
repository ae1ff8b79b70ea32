/-! a letter taken, lost, doubled; an end falls -/
section TK
variable {x : om_x} {w : om_w} {h : Hp} {as : Nat → Nat} {S : Ms} {g : Nat}
def piS (f i s : Nat) : Nat := if s = f then (f + i) % 128 else if 0 < (s + 128 - f) % 128 ∧ (s + 128 - f) % 128 ≤ i then (s + 127) % 128 else s
theorem shL_pi (lt : Nat → Nat) (f i s : Nat) : shL lt f i s = lt (piS f i s) := by
  unfold shL shP piS
  split
  · rfl
  · split <;> rfl
theorem piS_lt {f i s : Nat} (hs : s < 128) : piS f i s < 128 := by
  unfold piS
  split
  · exact Nat.mod_lt _ (by decide)
  · split
    · exact Nat.mod_lt _ (by decide)
    · exact hs
theorem piS_inj {f i s t : Nat} (hf : f < 128) (hi : i < 128) (hs : s < 128) (ht : t < 128) (e : piS f i s = piS f i t) : s = t := by
  unfold piS at e
  split at e
  · split at e
    · omega
    · split at e
      · omega
      · omega
  · split at e
    · split at e
      · omega
      · split at e
        · omega
        · omega
    · split at e
      · omega
      · split at e
        · omega
        · omega
theorem piS_at {f i j : Nat} (hf : f < 128) (hi : i < 128) (hj : j + 1 < 128) : piS f i (((f + 1) % 128 + j) % 128) = (f + (if i ≤ j then j + 1 else j)) % 128 := by
  unfold piS
  split
  · omega
  · split
    · split <;> omega
    · split <;> omega
theorem SX_remove (i : Nat) : SX [468, 469, 470, 471, 472, 473] S (removeF S i) := fun f hf => by
  simp only [List.mem_cons, List.not_mem_nil, or_false, not_or] at hf
  exact ⟨remove_I i (by omega), by rw [remove_T i (by simp only [List.mem_cons, List.not_mem_nil, or_false, not_or]; omega)], by rw [remove_J i (by omega)]⟩
theorem c_takeR {i : Int32} (hr : Rep w as S h) (hW : WF1 S) : Mt x 2 kX4_take 0 0 [.ref (w 4 0), .int i] h (fun z h' => if inN i (nL S) then ∃ b, z = some (.ref b) ∧ hK h' b = 3 ∧ LetOK as S h' (tn i) b ∧ Rep w as (removeF S (tn i)) h' ∧ HX [256, 259, 323] h h' else z = some .null ∧ h' = h) := by
  obtain ⟨f, lt, hL, hk3, hinj, hok⟩ := hr.lr hW
  refine Mt.weak (fun z h' q => ?_) (c_take hL hk3)
  cases hi : inN i (nL S) with
  | false =>
    rw [hi] at q
    exact q
  | true =>
    rw [hi] at q
    simp only [if_true] at q ⊢
    obtain ⟨q1, q2, q3, q4, q5⟩ := q
    have ht := (inN_tn hi).2.1
    have hl : nL S < 121 := (inN_tn hW.1.2.1).2.1
    have hs : (f + tn i) % 128 < 128 := Nat.mod_lt _ (by decide)
    have hH := q2.x
    have hf : f < 128 := hL.2.2.2.2.2.1
    have k0 : hK h (w 0 0) ≠ 0 := by rw [hr.1.1.1]; decide
    have k4 : hK h (w 4 0) ≠ 0 := by rw [hL.1]; decide
    have hS := SX_remove (S := S) (tn i)
    obtain ⟨n1, n2⟩ := rm_n hW ht
    refine ⟨_, q1, by rw [(hH.1 _ (by rw [hk3 _ hs]; decide)).1]; exact hk3 _ hs, (hok _ ht).x (SX.rf (L := [])) hH (by decide) (by decide) (hk3 _ hs), ?_, hH⟩
    obtain ⟨a1, a2, a3, a4, a5, a6, a7⟩ := hr
    refine ⟨a1.x hH (by decide), ?_, a3.x hS hH (by decide) (by decide) a1, a4.x hS hH (by decide) (by decide) a1, ?_, a6.x hS hH (by decide) (by decide) a1, a7.x hS hH (by decide) (by decide) a1⟩
    · obtain ⟨t1, t2, t3, t4, t5, t6⟩ := a2
      unfold RTop
      rw [(hH.2.1 384 _ (by decide) k0).1, (hH.2.1 389 _ (by decide) k0).1, (hH.2.1 390 _ (by decide) k0).1, q4, n1, (hH.2.1 257 _ (by decide) k4).1, (hH.2.1 258 _ (by decide) k4).1, (hS 448 (by decide)).1, (hS 453 (by decide)).1, (hS 484 (by decide)).1, (hS 482 (by decide)).1, (hS 483 (by decide)).1]
      exact ⟨t1, t2, t3, rfl, t5, t6⟩
    · refine ⟨(f + 1) % 128, fun s => shL lt f (tn i) s, q3, Nat.mod_lt _ (by decide), fun s hs2 => ⟨q5 s hs2, ?_⟩, fun s t hs2 ht2 e => ?_, fun j hj => ?_⟩
      · show hK h' (shL lt f (tn i) s) = 3
        rw [shL_pi, (hH.1 _ (by rw [hk3 _ (piS_lt hs2)]; decide)).1]
        exact hk3 _ (piS_lt hs2)
      · simp only [shL_pi] at e
        exact piS_inj hf (by omega) hs2 ht2 (hinj _ _ (piS_lt hs2) (piS_lt ht2) e)
      · rw [n2] at hj
        show LetOK as (removeF S (tn i)) h' j (shL lt f (tn i) (((f + 1) % 128 + j) % 128))
        rw [shL_pi, piS_at hf (by omega) (by omega)]
        obtain ⟨m1, m2⟩ := remove_at (S := S) ht
        have hx := (hok (if tn i ≤ j then j + 1 else j) (by split <;> omega)).x (SX.rf (L := [])) hH (by decide) (by decide) (hk3 _ (Nat.mod_lt _ (by decide)))
        unfold LetOK at hx ⊢
        rw [m1 469 (by decide) j, m1 470 (by decide) j, m1 471 (by decide) j, m1 473 (by decide) j, m2 j]
        by_cases e : tn i ≤ j
        · rw [if_pos e] at hx ⊢
          simp only [if_pos (show tn i ≤ j ∧ j < nL S - 1 from ⟨e, hj⟩)]
          exact hx
        · rw [if_neg e] at hx ⊢
          simp only [if_neg (show ¬ (tn i ≤ j ∧ j < nL S - 1) from fun z => e z.1)]
          exact hx
theorem Rep_483 {u : Int32} (hr : Rep w as S h) : Rep w as (pI S 483 u) (sI h 258 (w 4 0) u) := by
  have hS : SX [483] S (pI S 483 u) := SX_pI (by decide)
  have hH : HX [258] h (sI h 258 (w 4 0) u) := HX_sI (by decide)
  obtain ⟨a1, a2, a3, a4, a5, a6, a7⟩ := hr
  refine ⟨a1.x hH (by decide), ?_, a3.x hS hH (by decide) (by decide) a1, a4.x hS hH (by decide) (by decide) a1, a5.x hS hH (by decide) (by decide) a1, a6.x hS hH (by decide) (by decide) a1, a7.x hS hH (by decide) (by decide) a1⟩
  obtain ⟨t1, t2, t3, t4, t5, t6⟩ := a2
  exact ⟨by rw [hI_ne 384 (by decide)]; exact t1, by rw [hI_ne 389 (by decide)]; exact t2, by rw [hI_ne 390 (by decide)]; exact t3, by rw [hI_ne 256 (by decide)]; exact t4, by rw [hI_ne 257 (by decide)]; exact t5, by rw [hI_sI, if_pos ⟨rfl, rfl⟩, mI_pI, if_pos rfl]⟩
theorem Rep_482 {u : Int32} (hr : Rep w as S h) : Rep w as (pI S 482 u) (sI h 257 (w 4 0) u) := by
  have hS : SX [482] S (pI S 482 u) := SX_pI (by decide)
  have hH : HX [257] h (sI h 257 (w 4 0) u) := HX_sI (by decide)
  obtain ⟨a1, a2, a3, a4, a5, a6, a7⟩ := hr
  refine ⟨a1.x hH (by decide), ?_, a3.x hS hH (by decide) (by decide) a1, a4.x hS hH (by decide) (by decide) a1, a5.x hS hH (by decide) (by decide) a1, a6.x hS hH (by decide) (by decide) a1, a7.x hS hH (by decide) (by decide) a1⟩
  obtain ⟨t1, t2, t3, t4, t5, t6⟩ := a2
  exact ⟨by rw [hI_ne 384 (by decide)]; exact t1, by rw [hI_ne 389 (by decide)]; exact t2, by rw [hI_ne 390 (by decide)]; exact t3, by rw [hI_ne 256 (by decide)]; exact t4, by rw [hI_sI, if_pos ⟨rfl, rfl⟩, mI_pI, if_pos rfl], by rw [hI_ne 258 (by decide)]; exact t6⟩
/-- the marks that the class has no field for -/
theorem Rep_pI {f : Nat} {u : Int32} (hf : f = 485 ∨ f = 486 ∨ f = 487) (hr : Rep w as S h) : Rep w as (pI S f u) h := by
  have hS : SX [485, 486, 487] S (pI S f u) := SX_pI (by simp only [List.mem_cons, List.not_mem_nil, or_false]; exact hf)
  have hH : HX [] h h := HX.rf
  obtain ⟨a1, a2, a3, a4, a5, a6, a7⟩ := hr
  exact ⟨a1, a2.x hS hH (by decide) (by decide) a1, a3.x hS hH (by decide) (by decide) a1, a4.x hS hH (by decide) (by decide) a1, a5.x hS hH (by decide) (by decide) a1, a6.x hS hH (by decide) (by decide) a1, a7.x hS hH (by decide) (by decide) a1⟩
set_option maxRecDepth 100000 in
set_option maxHeartbeats 4000000 in
theorem c_lose {i : Int32} (hr : Rep w as S h) (hW : WF1 S) : Mt x 3 kX6_lose 0 0 [.ref (w 0 0), .int i] h (fun z h' => z = some (.int (loseP S i).1) ∧ Rep w as (loseP S i).2 h' ∧ HX [256, 258, 259, 323] h h') := by
  refine Mt.ofJ mkX6_lose.1 (Nat.le_of_ble_eq_true rfl) ?_
  have o1 := hr.1.1.1
  have o5 := hr.1.1.2.2.2.2
  have r1 := hr.1.2.1.2.2.2.1.1
  unfold loseP
  cases hi : inN i (nL S) with
  | false =>
    rw [if_pos rfl]
    refine J_aload_n dX6_lose_0 rfl rfl isR_r ?_
    refine J_getRr dX6_lose_1 g_X6_30 (by first | with_reducible assumption | (simp only [hK_sI, hK_sJ, hK_sR, hK_tI, hK_tJ, hK_tR]; with_reducible assumption)) (by first | with_reducible assumption | (simp only [hR_sI, hR_sJ, hR_tI, hR_tJ, hR_tR]; with_reducible assumption)) ?_
    refine J_iload_n dX6_lose_4 rfl rfl ?_
    refine J_callV (c_takeR hr hW) dX6_lose_5 ml_X6_148 mkX4_take rfl (by first | with_reducible assumption | (simp only [hK_sI, hK_sJ, hK_sR, hK_tI, hK_tJ, hK_tR]; with_reducible assumption)) (by decide) rfl rfl (Nat.le_of_ble_eq_true rfl) ⟨Nat.le_of_ble_eq_true rfl, Nat.le_of_ble_eq_true rfl⟩ ⟨Nat.le_of_ble_eq_true rfl, Nat.le_of_ble_eq_true rfl⟩ (fun v5 hp5 q5 => ?_)
    rw [hi] at q5
    obtain ⟨rfl, z5⟩ := q5
    rw [z5]
    refine J_ifnonnull_n dX6_lose_8 ?_
    refine J_ldc dX6_lose_11 lc_X6_55 ?_
    exact J_ireturn dX6_lose_13 rfl ⟨rfl, hr, HX.rf⟩ (Nat.le_of_ble_eq_true rfl) (Nat.le_of_ble_eq_true rfl)
  | true =>
    rw [if_neg (by decide)]
    refine J_aload_n dX6_lose_0 rfl rfl isR_r ?_
    refine J_getRr dX6_lose_1 g_X6_30 (by first | with_reducible assumption | (simp only [hK_sI, hK_sJ, hK_sR, hK_tI, hK_tJ, hK_tR]; with_reducible assumption)) (by first | with_reducible assumption | (simp only [hR_sI, hR_sJ, hR_tI, hR_tJ, hR_tR]; with_reducible assumption)) ?_
    refine J_iload_n dX6_lose_4 rfl rfl ?_
    refine J_callV (c_takeR hr hW) dX6_lose_5 ml_X6_148 mkX4_take rfl (by first | with_reducible assumption | (simp only [hK_sI, hK_sJ, hK_sR, hK_tI, hK_tJ, hK_tR]; with_reducible assumption)) (by decide) rfl rfl (Nat.le_of_ble_eq_true rfl) ⟨Nat.le_of_ble_eq_true rfl, Nat.le_of_ble_eq_true rfl⟩ ⟨Nat.le_of_ble_eq_true rfl, Nat.le_of_ble_eq_true rfl⟩ (fun v5 hp5 q5 => ?_)
    rw [hi] at q5
    obtain ⟨b, rfl, z1, z2, z3, z4⟩ := q5
    have o1' := z3.1.1.1
    have o5' := z3.1.1.2.2.2.2
    have r1' := z3.1.2.1.2.2.2.1.1
    refine J_ifnonnull_r (tgt := 14) dX6_lose_8 (by decide) ?_
    refine J_aload_n dX6_lose_14 rfl rfl isR_r ?_
    refine J_getRr dX6_lose_15 g_X6_30 (by first | with_reducible assumption | (simp only [hK_sI, hK_sJ, hK_sR, hK_tI, hK_tJ, hK_tR]; with_reducible assumption)) (by first | with_reducible assumption | (simp only [hR_sI, hR_sJ, hR_tI, hR_tJ, hR_tR]; with_reducible assumption)) ?_
    refine J_dup dX6_lose_18 rfl ?_
    refine J_getI dX6_lose_19 g_X6_151 (by first | with_reducible assumption | (simp only [hK_sI, hK_sJ, hK_sR, hK_tI, hK_tJ, hK_tR]; with_reducible assumption)) ?_
    refine J_pc (pc' := 22) rfl ?_
    refine J_iconst (v := 1) dX6_lose_22 (by decide) ?_
    refine J_iadd dX6_lose_23 ?_
    refine J_putI dX6_lose_24 p_X6_151 (by first | with_reducible assumption | (simp only [hK_sI, hK_sJ, hK_sR, hK_tI, hK_tJ, hK_tR]; with_reducible assumption)) ?_
    refine J_aload_n dX6_lose_27 rfl rfl isR_r ?_
    refine J_getRr dX6_lose_28 g_X6_30 (by first | with_reducible assumption | (simp only [hK_sI, hK_sJ, hK_sR, hK_tI, hK_tJ, hK_tR]; with_reducible assumption)) (by first | with_reducible assumption | (simp only [hR_sI, hR_sJ, hR_tI, hR_tJ, hR_tR]; with_reducible assumption)) ?_
    refine J_getI dX6_lose_31 g_X6_99 (by first | with_reducible assumption | (simp only [hK_sI, hK_sJ, hK_sR, hK_tI, hK_tJ, hK_tR]; with_reducible assumption)) ?_
    exact J_ireturn dX6_lose_34 rfl (by
     have e8 : hI hp5 258 (w 4 0) = mI (removeF S (tn i)) 483 := z3.2.1.2.2.2.2.2
     have q := Rep_483 (u := hI hp5 258 (w 4 0) + 1) z3
     refine ⟨by rw [q.2.1.2.2.2.1, e8], by rw [← e8]; exact q, (z4.sub (by decide)).tr (HX_sI (by decide))⟩) (Nat.le_of_ble_eq_true rfl) (Nat.le_of_ble_eq_true rfl)
theorem Rep_down {n : Nat} (hI1 : Inj w) (hn : n < 10) (hr : Rep w as S h) : Rep w as (pI (pT S 449 n 1) 484 (mI S 484 + 1)) (sI (sI h 65 (w 6 n) 0) 390 (w 0 0) (hI (sI h 65 (w 6 n) 0) 390 (w 0 0) + 1)) := by
  have hS : SX [449, 484] S (pI (pT S 449 n 1) 484 (mI S 484 + 1)) := (SX_pT (by decide)).tr (SX_pI (by decide))
  have hH : HX [65, 390] h (sI (sI h 65 (w 6 n) 0) 390 (w 0 0) (hI (sI h 65 (w 6 n) 0) 390 (w 0 0) + 1)) := (HX_sI (by decide)).tr (HX_sI (by decide))
  obtain ⟨a1, a2, a3, a4, a5, a6, a7⟩ := hr
  refine ⟨a1.x hH (by decide), ?_, ?_, a4.x hS hH (by decide) (by decide) a1, a5.x hS hH (by decide) (by decide) a1, a6.x hS hH (by decide) (by decide) a1, a7.x hS hH (by decide) (by decide) a1⟩
  · obtain ⟨t1, t2, t3, t4, t5, t6⟩ := a2
    exact ⟨by rw [hI_ne 384 (by decide), hI_ne 384 (by decide)]; exact t1, by rw [hI_ne 389 (by decide), hI_ne 389 (by decide)]; exact t2, by rw [hI_sI, if_pos ⟨rfl, rfl⟩, hI_ne 390 (by decide), t3, mI_pI, if_pos rfl], by rw [hI_ne 256 (by decide), hI_ne 256 (by decide)]; exact t4, by rw [hI_ne 257 (by decide), hI_ne 257 (by decide)]; exact t5, by rw [hI_ne 258 (by decide), hI_ne 258 (by decide)]; exact t6⟩
  · intro i hi
    obtain ⟨⟨r1, r1b, r1c⟩, r2, r3⟩ := a3 i hi
    rw [hI_ne 65 (by decide), hI_ne 66 (by decide), hI_ne 66 (by decide), hI_ne 67 (by decide), hI_ne 67 (by decide), aR_sI, aR_sI, nA_pI (by decide), nA_pT, (hS 450 (by decide)).2.1, (hS 451 (by decide)).2.1, (hS 454 (by decide)).2.1, (hS 456 (by decide)).2.1, (hS 463 (by decide)).2.1, hI_ne 68 (by decide), hI_ne 68 (by decide)]
    refine ⟨⟨?_, r1b, r1c⟩, r2, r3⟩
    rw [hI_sI, mT_pI, mT_pT]
    by_cases e : i = n
    · subst e
      simp
    · have w1 : w 6 i ≠ w 6 n := fun z => e (hI1 6 i n (Or.inl ⟨rfl, hi, hn⟩) z)
      simp only [w1, e, and_false, if_false]
      exact r1
set_option maxRecDepth 100000 in
set_option maxHeartbeats 4000000 in
theorem c_bringDown {n : Nat} (hI1 : Inj w) (hn : n < 10) (hr : Rep w as S h) : Mt x 0 kX6_bringDown 0 0 [.ref (w 0 0), .ref (w 6 n)] h (fun z h' => z = none ∧ Rep w as (pI (pT S 449 n 1) 484 (mI S 484 + 1)) h' ∧ HX [65, 390] h h') := by
  refine Mt.ofJ mkX6_bringDown.1 (Nat.le_of_ble_eq_true rfl) ?_
  have o1 := hr.1.1.1
  have k6 := (hr.1.2.2.1 n hn).2.1
  refine J_aload_n dX6_bringDown_0 rfl rfl isR_r ?_
  refine J_iconst (v := 0) dX6_bringDown_1 (by decide) ?_
  refine J_putZ dX6_bringDown_2 p_X6_68 (by first | with_reducible assumption | (simp only [hK_sI, hK_sJ, hK_sR, hK_tI, hK_tJ, hK_tR]; with_reducible assumption)) (by first | exact Or.inl rfl | exact Or.inr rfl) ?_
  refine J_aload_n dX6_bringDown_5 rfl rfl isR_r ?_
  refine J_dup dX6_bringDown_6 rfl ?_
  refine J_getI dX6_bringDown_7 g_X6_238 (by first | with_reducible assumption | (simp only [hK_sI, hK_sJ, hK_sR, hK_tI, hK_tJ, hK_tR]; with_reducible assumption)) ?_
  refine J_iconst (v := 1) dX6_bringDown_10 (by decide) ?_
  refine J_iadd dX6_bringDown_11 ?_
  refine J_pc (pc' := 12) rfl ?_
  refine J_putI dX6_bringDown_12 p_X6_238 (by first | with_reducible assumption | (simp only [hK_sI, hK_sJ, hK_sR, hK_tI, hK_tJ, hK_tR]; with_reducible assumption)) ?_
  exact J_return dX6_bringDown_15 rfl ⟨rfl, Rep_down hI1 hn hr, (HX_sI (by decide)).tr (HX_sI (by decide))⟩ (Nat.le_of_ble_eq_true rfl) (Nat.le_of_ble_eq_true rfl)
theorem up_iff {n : Nat} (hE : REnd w as S h) (hn : n < 10) : (hI h 65 (w 6 n) = 0 ↔ mT S 449 n ≠ 0) := by
  rw [(hE n hn).1.1]
  constructor
  · intro z e; rw [if_pos e] at z; exact absurd z (by decide)
  · intro z; rw [if_neg z]
set_option maxRecDepth 100000 in
set_option maxHeartbeats 4000000 in
theorem c_fall {n : Int32} (hI1 : Inj w) (hr : Rep w as S h) : Mt x 1 kX6_fall 0 0 [.ref (w 0 0), .int n] h (fun z h' => z = some (.int (fallP S n).1) ∧ Rep w as (fallP S n).2 h' ∧ HX [65, 390] h h') := by
  refine Mt.ofJ mkX6_fall.1 (Nat.le_of_ble_eq_true rfl) ?_
  have o1 := hr.1.1.1
  unfold fallP
  cases hi : inN n 10 with
  | false =>
    rw [if_pos rfl]
    refine J_aload_n dX6_fall_0 rfl rfl isR_r ?_
    refine J_iload_n dX6_fall_1 rfl rfl ?_
    refine J_callV (c_endOf hr.1) dX6_fall_2 ml_X6_64 mkX6_endOf rfl (by first | with_reducible assumption | (simp only [hK_sI, hK_sJ, hK_sR, hK_tI, hK_tJ, hK_tR]; with_reducible assumption)) (by decide) rfl rfl (Nat.le_of_ble_eq_true rfl) ⟨Nat.le_of_ble_eq_true rfl, Nat.le_of_ble_eq_true rfl⟩ ⟨Nat.le_of_ble_eq_true rfl, Nat.le_of_ble_eq_true rfl⟩ (fun v2 hp2 q2 => ?_)
    obtain ⟨rfl, z2⟩ := q2
    rw [z2]
    rw [hi]
    refine J_astore_n dX6_fall_5 rfl isR_n (by decide) ?_
    refine J_aload_n dX6_fall_6 rfl rfl isR_n ?_
    refine J_ifnonnull_n dX6_fall_7 ?_
    refine J_ldc dX6_fall_10 lc_X6_55 ?_
    exact J_ireturn dX6_fall_12 rfl ⟨rfl, hr, HX.rf⟩ (Nat.le_of_ble_eq_true rfl) (Nat.le_of_ble_eq_true rfl)
  | true =>
    have ht := (inN_tn hi).2.1
    have k6 := (hr.1.2.2.1 _ ht).2.1
    rw [if_neg (by decide)]
    refine J_aload_n dX6_fall_0 rfl rfl isR_r ?_
    refine J_iload_n dX6_fall_1 rfl rfl ?_
    refine J_callV (c_endOf hr.1) dX6_fall_2 ml_X6_64 mkX6_endOf rfl (by first | with_reducible assumption | (simp only [hK_sI, hK_sJ, hK_sR, hK_tI, hK_tJ, hK_tR]; with_reducible assumption)) (by decide) rfl rfl (Nat.le_of_ble_eq_true rfl) ⟨Nat.le_of_ble_eq_true rfl, Nat.le_of_ble_eq_true rfl⟩ ⟨Nat.le_of_ble_eq_true rfl, Nat.le_of_ble_eq_true rfl⟩ (fun v2 hp2 q2 => ?_)
    obtain ⟨rfl, z2⟩ := q2
    rw [z2]
    rw [hi]
    refine J_astore_n dX6_fall_5 rfl isR_r (by decide) ?_
    refine J_aload_n dX6_fall_6 rfl rfl isR_r ?_
    refine J_ifnonnull_r (tgt := 13) dX6_fall_7 (by decide) ?_
    refine J_aload_n dX6_fall_13 rfl rfl isR_r ?_
    refine J_getI dX6_fall_14 g_X6_68 (by first | with_reducible assumption | (simp only [hK_sI, hK_sJ, hK_sR, hK_tI, hK_tJ, hK_tR]; with_reducible assumption)) ?_
    refine J_if_ne (tgt := 23) dX6_fall_17 (by decide) (fun c17 => ?_) (fun c17 => ?_)
    · refine J_aload_n dX6_fall_23 rfl rfl isR_r ?_
      refine J_aload_n dX6_fall_24 rfl rfl isR_r ?_
      rw [if_neg (fun z => c17 ((up_iff hr.2.2.1 ht).mpr z))]
      refine J_callV (c_bringDown hI1 ht hr) dX6_fall_25 ml_X6_179 mkX6_bringDown rfl (by first | with_reducible assumption | (simp only [hK_sI, hK_sJ, hK_sR, hK_tI, hK_tJ, hK_tR]; with_reducible assumption)) (by decide) rfl rfl (Nat.le_of_ble_eq_true rfl) ⟨Nat.le_of_ble_eq_true rfl, Nat.le_of_ble_eq_true rfl⟩ ⟨Nat.le_of_ble_eq_true rfl, Nat.le_of_ble_eq_true rfl⟩ (fun v25 hp25 q25 => ?_)
      obtain ⟨rfl, z25, z26⟩ := q25
      refine J_iconst (v := 1) dX6_fall_28 (by decide) ?_
      exact J_ireturn dX6_fall_29 rfl ⟨rfl, z25, z26⟩ (Nat.le_of_ble_eq_true rfl) (Nat.le_of_ble_eq_true rfl)
    · refine J_ldc dX6_fall_20 lc_X6_72 ?_
      exact J_ireturn dX6_fall_22 rfl ⟨by rw [if_pos ((up_iff hr.2.2.1 ht).mp c17)], by rw [if_pos ((up_iff hr.2.2.1 ht).mp c17)]; exact hr, HX.rf⟩ (Nat.le_of_ble_eq_true rfl) (Nat.le_of_ble_eq_true rfl)
set_option maxRecDepth 100000 in
set_option maxHeartbeats 4000000 in
theorem c_again {a : Int32} (hr : Rep w as S h) (hI1 : Inj w) (hW : WF2 g S) (h0 : mI S 485 = 0) : Mt x 3 kX6_again 0 0 [.ref (w 0 0), .int a] h (fun z h' => z = some (.int (againP S a).1) ∧ Rep w as (againP S a).2 h' ∧ HX SndX h h') := by
  refine Mt.ofJ mkX6_again.1 (Nat.le_of_ble_eq_true rfl) ?_
  have o1 := hr.1.1.1
  have o5 := hr.1.1.2.2.2.2
  have r1 := hr.1.2.1.2.2.2.1.1
  have hA := hr.2.2.2.1
  unfold againP
  cases ha : inN a (nA S) with
  | false =>
    rw [if_pos rfl]
    refine J_aload_n dX6_again_0 rfl rfl isR_r ?_
    refine J_iload_n dX6_again_1 rfl rfl ?_
    refine J_callV (c_askOf hr.1 hA hW.1.1.1) dX6_again_2 ml_X6_85 mkX6_askOf rfl (by first | with_reducible assumption | (simp only [hK_sI, hK_sJ, hK_sR, hK_tI, hK_tJ, hK_tR]; with_reducible assumption)) (by decide) rfl rfl (Nat.le_of_ble_eq_true rfl) ⟨Nat.le_of_ble_eq_true rfl, Nat.le_of_ble_eq_true rfl⟩ ⟨Nat.le_of_ble_eq_true rfl, Nat.le_of_ble_eq_true rfl⟩ (fun v2 hp2 q2 => ?_)
    obtain ⟨rfl, z2⟩ := q2
    rw [z2]
    rw [ha]
    refine J_astore_n dX6_again_5 rfl isR_n (by decide) ?_
    refine J_aload_n dX6_again_6 rfl rfl isR_n ?_
    refine J_ifnonnull_n dX6_again_7 ?_
    refine J_ldc dX6_again_10 lc_X6_55 ?_
    exact J_ireturn dX6_again_12 rfl ⟨rfl, hr, HX.rf⟩ (Nat.le_of_ble_eq_true rfl) (Nat.le_of_ble_eq_true rfl)
  | true =>
    have hk := (inN_tn ha).2.1
    obtain ⟨q0, q1, q2, q3, q4, q5, q6, q7, q8, q9, q10, q11, q12, q13, q14⟩ := hA.2.2.1 _ hk
    obtain ⟨hn1, hn2⟩ := hW.1.nm ha
    have hn3 := (hW.1.ask ha).1
    have k6 := (hr.1.2.2.1 _ hn2).2.1
    have hd : (120 : Int32) ≤ hI h 256 (w 4 0) ↔ mI S 468 = 120 := by
      have e := inN_tn hW.1.1.2.1
      have e2 : nL S < 121 := e.2.1
      rw [hr.2.1.2.2.2.1, ← hL120 hW.1]
      conv => lhs; rw [e.1]
      show (120 : Int32) ≤ nI (nL S) ↔ _
      rw [show (120 : Int32) = nI 120 from rfl, nI_lei (by decide) (by omega)]
      omega
    rw [if_neg (by decide)]
    refine J_aload_n dX6_again_0 rfl rfl isR_r ?_
    refine J_iload_n dX6_again_1 rfl rfl ?_
    refine J_callV (c_askOf hr.1 hA hW.1.1.1) dX6_again_2 ml_X6_85 mkX6_askOf rfl (by first | with_reducible assumption | (simp only [hK_sI, hK_sJ, hK_sR, hK_tI, hK_tJ, hK_tR]; with_reducible assumption)) (by decide) rfl rfl (Nat.le_of_ble_eq_true rfl) ⟨Nat.le_of_ble_eq_true rfl, Nat.le_of_ble_eq_true rfl⟩ ⟨Nat.le_of_ble_eq_true rfl, Nat.le_of_ble_eq_true rfl⟩ (fun v2 hp2 q2 => ?_)
    obtain ⟨rfl, z2⟩ := q2
    rw [z2]
    rw [ha]
    refine J_astore_n dX6_again_5 rfl isR_r (by decide) ?_
    refine J_aload_n dX6_again_6 rfl rfl isR_r ?_
    refine J_ifnonnull_r (tgt := 13) dX6_again_7 (by decide) ?_
    refine J_aload_n dX6_again_13 rfl rfl isR_r ?_
    refine J_aload_n dX6_again_14 rfl rfl isR_r ?_
    refine J_getI dX6_again_15 g_X6_89 (by first | with_reducible assumption | (simp only [hK_sI, hK_sJ, hK_sR, hK_tI, hK_tJ, hK_tR]; with_reducible assumption)) ?_
    refine J_pc (pc' := 18) rfl ?_
    rw [q2]
    refine J_callV (c_endOf hr.1) dX6_again_18 ml_X6_64 mkX6_endOf rfl (by first | with_reducible assumption | (simp only [hK_sI, hK_sJ, hK_sR, hK_tI, hK_tJ, hK_tR]; with_reducible assumption)) (by decide) rfl rfl (Nat.le_of_ble_eq_true rfl) ⟨Nat.le_of_ble_eq_true rfl, Nat.le_of_ble_eq_true rfl⟩ ⟨Nat.le_of_ble_eq_true rfl, Nat.le_of_ble_eq_true rfl⟩ (fun v18 hp18 q18 => ?_)
    obtain ⟨rfl, z18⟩ := q18
    rw [z18]
    rw [hn3]
    refine J_astore_n dX6_again_21 rfl isR_r (by decide) ?_
    refine J_aload_n dX6_again_22 rfl rfl isR_r ?_
    refine J_ifnull_r dX6_again_23 ?_
    refine J_aload_n dX6_again_26 rfl rfl isR_r ?_
    refine J_getI dX6_again_27 g_X6_68 (by first | with_reducible assumption | (simp only [hK_sI, hK_sJ, hK_sR, hK_tI, hK_tJ, hK_tR]; with_reducible assumption)) ?_
    refine J_if_eq (tgt := 40) dX6_again_30 (by decide) (fun c30 => ?_) (fun c30 => ?_)
    · refine J_ldc dX6_again_40 lc_X6_72 ?_
      exact J_ireturn dX6_again_42 rfl ⟨by rw [if_pos (Or.inr ((up_iff hr.2.2.1 hn2).mp c30))], by rw [if_pos (Or.inr ((up_iff hr.2.2.1 hn2).mp c30))]; exact hr, HX.rf⟩ (Nat.le_of_ble_eq_true rfl) (Nat.le_of_ble_eq_true rfl)
    · refine J_aload_n dX6_again_33 rfl rfl isR_r ?_
      refine J_getI dX6_again_34 g_X6_92 (by first | with_reducible assumption | (simp only [hK_sI, hK_sJ, hK_sR, hK_tI, hK_tJ, hK_tR]; with_reducible assumption)) ?_
      refine J_if_eq (tgt := 43) dX6_again_37 (by decide) (fun c37 => ?_) (fun c37 => ?_)
      · refine J_aload_n dX6_again_43 rfl rfl isR_r ?_
        refine J_getRr dX6_again_44 g_X6_30 (by first | with_reducible assumption | (simp only [hK_sI, hK_sJ, hK_sR, hK_tI, hK_tJ, hK_tR]; with_reducible assumption)) (by first | with_reducible assumption | (simp only [hR_sI, hR_sJ, hR_tI, hR_tJ, hR_tR]; with_reducible assumption)) ?_
        rw [if_neg (fun z => z.elim (fun q => q (by rw [← q10]; exact c37)) (fun q => c30 ((up_iff hr.2.2.1 hn2).mpr q)))]
        refine J_callV (c_isFull r1) dX6_again_47 ml_X6_95 mkX4_isFull rfl (by first | with_reducible assumption | (simp only [hK_sI, hK_sJ, hK_sR, hK_tI, hK_tJ, hK_tR]; with_reducible assumption)) (by decide) rfl rfl (Nat.le_of_ble_eq_true rfl) ⟨Nat.le_of_ble_eq_true rfl, Nat.le_of_ble_eq_true rfl⟩ ⟨Nat.le_of_ble_eq_true rfl, Nat.le_of_ble_eq_true rfl⟩ (fun v47 hp47 q47 => ?_)
        obtain ⟨rfl, z47⟩ := q47
        rw [z47]
        refine J_if_eq (tgt := 56) dX6_again_50 (by decide) (fun c50 => ?_) (fun c50 => ?_)
        · refine J_aload_n dX6_again_56 rfl rfl isR_r ?_
          refine J_aload_n dX6_again_57 rfl rfl isR_r ?_
          refine J_iconst (v := 1) dX6_again_58 (by decide) ?_
          rw [if_neg (fun z => (of_decide_eq_false (bi_0.mp c50)) (hd.mpr z))]
          refine J_callV (c_sendAsk hr hI1 hW.1 hW.life ha (Or.inr ⟨rfl, h0⟩)) dX6_again_59 ml_X6_78 mkX6_sendAsk rfl (by first | with_reducible assumption | (simp only [hK_sI, hK_sJ, hK_sR, hK_tI, hK_tJ, hK_tR]; with_reducible assumption)) (by decide) rfl rfl (Nat.le_of_ble_eq_true rfl) ⟨Nat.le_of_ble_eq_true rfl, Nat.le_of_ble_eq_true rfl⟩ ⟨Nat.le_of_ble_eq_true rfl, Nat.le_of_ble_eq_true rfl⟩ (fun v59 hp59 q59 => ?_)
          obtain ⟨rfl, z59, z60⟩ := q59
          have o1' := z59.1.1.1
          have o5' := z59.1.1.2.2.2.2
          have r1' := z59.1.2.1.2.2.2.1.1
          refine J_pop dX6_again_62 rfl ?_
          refine J_aload_n dX6_again_63 rfl rfl isR_r ?_
          refine J_getRr dX6_again_64 g_X6_30 (by first | with_reducible assumption | (simp only [hK_sI, hK_sJ, hK_sR, hK_tI, hK_tJ, hK_tR]; with_reducible assumption)) (by first | with_reducible assumption | (simp only [hR_sI, hR_sJ, hR_tI, hR_tJ, hR_tR]; with_reducible assumption)) ?_
          refine J_getI dX6_again_67 g_X6_99 (by first | with_reducible assumption | (simp only [hK_sI, hK_sJ, hK_sR, hK_tI, hK_tJ, hK_tR]; with_reducible assumption)) ?_
          refine J_pc (pc' := 70) rfl ?_
          exact J_ireturn dX6_again_70 rfl ⟨by rw [z59.2.1.2.2.2.1], z59, z60⟩ (Nat.le_of_ble_eq_true rfl) (Nat.le_of_ble_eq_true rfl)
        · refine J_ldc dX6_again_53 lc_X6_77 ?_
          exact J_ireturn dX6_again_55 rfl ⟨by rw [if_pos (hd.mp (of_decide_eq_true (bi_1.mp c50)))], by rw [if_pos (hd.mp (of_decide_eq_true (bi_1.mp c50)))]; exact hr, HX.rf⟩ (Nat.le_of_ble_eq_true rfl) (Nat.le_of_ble_eq_true rfl)
      · refine J_ldc dX6_again_40 lc_X6_72 ?_
        exact J_ireturn dX6_again_42 rfl ⟨by rw [if_pos (Or.inl (by rw [← q10]; exact c37))], by rw [if_pos (Or.inl (by rw [← q10]; exact c37))]; exact hr, HX.rf⟩ (Nat.le_of_ble_eq_true rfl) (Nat.le_of_ble_eq_true rfl)
end TK
