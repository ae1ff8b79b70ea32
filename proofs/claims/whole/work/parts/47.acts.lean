/-! hearing; what an act does to an ASK and to the ACCOUNTS -/
section AC
variable {x : om_x} {w : om_w} {h h' : Hp} {as : Nat → Nat} {S S' : Ms} {g : Nat}
theorem Rep_close {k : Nat} {st : Int32} {v : Int64} (hr : Rep w as S h) (hk : k < nA S) (hst : st ≠ 0) (hH : HX [10, 11] h h') (ho : ∀ b, b ≠ as k → hI h' 10 b = hI h 10 b ∧ hJ h' 11 b = hJ h 11 b) (e1 : hI h' 10 (as k) = st) (e2 : st = 1 → hJ h' 11 (as k) = v) : Rep w as (pJ (pT S 463 k st) 464 k v) h' := by
  have hS : SX [463, 464] S (pJ (pT S 463 k st) 464 k v) := (SX_pT (by decide)).tr (SX_pJ (by decide))
  have m463 : ∀ j, mT (pJ (pT S 463 k st) 464 k v) 463 j = if j = k then st else mT S 463 j := fun j => by simp [mT_pJ, mT_pT]
  have m464 : ∀ j, mJ (pJ (pT S 463 k st) 464 k v) 464 j = if j = k then v else mJ S 464 j := fun j => by simp [mJ_pJ, mJ_pT]
  have eA : nA (pJ (pT S 463 k st) 464 k v) = nA S := by rw [nA_pJ, nA_pT]
  obtain ⟨a1, a2, a3, a4, a5, a6, a7⟩ := hr
  refine ⟨a1.x hH (by decide), a2.x hS hH (by decide) (by decide) a1, fun n hn => ?_, ?_, a5.x hS hH (by decide) (by decide) a1, a6.x hS hH (by decide) (by decide) a1, a7.x hS hH (by decide) (by decide) a1⟩
  · obtain ⟨-, q2, -, -, q5, -⟩ := a1.2.2.1 n hn
    have k0 : hK h (w 6 n) ≠ 0 := by rw [q2]; decide
    have k4 : hK h (w 7 n) ≠ 0 := by rw [q5]; decide
    obtain ⟨r1, ⟨lw, nx, r2, r3, r3b, r4, r5, r5b, r6⟩, r7⟩ := a3 n hn
    rw [eA, (hH.2.1 65 _ (by decide) k0).1, (hH.2.1 66 _ (by decide) k0).1, (hH.2.1 67 _ (by decide) k0).1, (hH.2.1 68 _ (by decide) k0).1, (hS 449 (by decide)).2.1, (hS 450 (by decide)).2.1, (hS 451 (by decide)).2.1, (hS 454 (by decide)).2.1, (hS 456 (by decide)).2.1, show aR h' 59 (w 7 n) = aR h 59 (w 7 n) from funext fun j => (hH.2.2 59 _ j (by decide) k4).2.2]
    refine ⟨r1, ⟨lw, nx, r2, r3, r3b, r4, r5, r5b, fun j j1 j2 j3 => r6 j j1 j2 ?_⟩, r7⟩
    rw [m463] at j3
    by_cases e : j = k
    · rw [if_pos e] at j3; exact absurd j3 hst
    · rw [if_neg e] at j3; exact j3
  · obtain ⟨r1, r2, r3, r4⟩ := a4
    have k3 : hK h (w 3 0) ≠ 0 := by rw [a1.2.1.2.2.1.1]; decide
    refine ⟨fun j hj => ?_, fun j hj hj2 => ?_, fun j hj => ?_, fun j l hj hl => r4 j l (eA ▸ hj) (eA ▸ hl)⟩
    · rw [(hH.2.2 43 _ j (by decide) k3).2.2]; exact r1 j (eA ▸ hj)
    · rw [(hH.2.2 43 _ j (by decide) k3).2.2]; exact r2 j (eA ▸ hj) hj2
    · have q := r3 j (eA ▸ hj)
      have k0 : hK h (as j) ≠ 0 := by rw [q.1]; decide
      unfold AskOK at q ⊢
      rw [(hH.1 _ k0).1, (hH.2.1 0 _ (by decide) k0).1, (hH.2.1 1 _ (by decide) k0).1, (hH.2.1 2 _ (by decide) k0).1, (hH.2.1 3 _ (by decide) k0).1, (hH.2.1 4 _ (by decide) k0).1, (hH.2.1 5 _ (by decide) k0).1, (hH.2.1 6 _ (by decide) k0).1, (hH.2.1 7 _ (by decide) k0).1, (hH.2.1 8 _ (by decide) k0).1, (hH.2.1 9 _ (by decide) k0).1, (hH.2.1 12 _ (by decide) k0).1, (hH.2.1 13 _ (by decide) k0).2.2, (hH.2.1 14 _ (by decide) k0).2.2]
      rw [(hS 454 (by decide)).2.1, (hS 455 (by decide)).2.1, (hS 456 (by decide)).2.1, (hS 457 (by decide)).2.1, (hS 458 (by decide)).2.1, (hS 459 (by decide)).2.1, (hS 460 (by decide)).2.1, (hS 461 (by decide)).2.1, (hS 462 (by decide)).2.1, (hS 465 (by decide)).2.1, (hS 466 (by decide)).2.1, (hS 467 (by decide)).2.1, m463, m464]
      obtain ⟨q0, q1, q2, q3, q4, q5, q6, q7, q8, q9, q10, q11, q12, q13, q14⟩ := q
      refine ⟨q0, q1, q2, q3, q4, q5, q6, q7, q8, q9, ?_, ?_, q12, q13, q14⟩
      · by_cases e : j = k
        · rw [e, e1, if_pos rfl]
        · rw [if_neg e, (ho _ (fun z => e (r4 j k (eA ▸ hj) hk z))).1, q10]
      · by_cases e : j = k
        · rw [e, if_pos rfl, if_pos rfl]; exact e2
        · rw [if_neg e, if_neg e, (ho _ (fun z => e (r4 j k (eA ▸ hj) hk z))).2]; exact q11
set_option maxRecDepth 100000 in
set_option maxHeartbeats 4000000 in
theorem c_hear {b : Nat} {k : Int32} {v : Int64} (hr : Rep w as S h) (hb : hK h b = 3) (hk : inN k (nA S) = true) (e1 : hI h 130 b = (if v = -3 then 1 else 0)) (e2 : v ≠ -3 → hJ h 133 b = v) (h4 : mI S 487 ≠ 0 ↔ v = -3) : Mt x 1 kX6_hear 0 0 [.ref (w 0 0), .ref b, .ref (as (tn k))] h (fun z h' => z = none ∧ Rep w as (hearF S k v) h' ∧ HX [10, 11] h h') := by
  refine Mt.ofJ mkX6_hear.1 (Nat.le_of_ble_eq_true rfl) ?_
  have hkk := (inN_tn hk).2.1
  obtain ⟨q0, q1, q2, q3, q4, q5, q6, q7, q8, q9, q10, -⟩ := hr.2.2.2.1.2.2.1 _ hkk
  unfold hearF
  refine J_aload_n dX6_hear_0 rfl rfl isR_r ?_
  refine J_getI dX6_hear_1 g_X6_92 (by first | with_reducible assumption | (simp only [hK_sI, hK_sJ, hK_sR, hK_tI, hK_tJ, hK_tR]; with_reducible assumption)) ?_
  refine J_if_eq (tgt := 8) dX6_hear_4 (by decide) (fun c4 => ?_) (fun c4 => ?_)
  · refine J_aload_n dX6_hear_8 rfl rfl isR_r ?_
    refine J_getI dX6_hear_9 g_X6_176 (by first | with_reducible assumption | (simp only [hK_sI, hK_sJ, hK_sR, hK_tI, hK_tJ, hK_tR]; with_reducible assumption)) ?_
    refine J_if_eq (tgt := 23) dX6_hear_12 (by decide) (fun c12 => ?_) (fun c12 => ?_)
    · refine J_aload_n dX6_hear_23 rfl rfl isR_r ?_
      refine J_aload_n dX6_hear_24 rfl rfl isR_r ?_
      refine J_getJ dX6_hear_25 g_X6_289 (by first | with_reducible assumption | (simp only [hK_sI, hK_sJ, hK_sR, hK_tI, hK_tJ, hK_tR]; with_reducible assumption)) ?_
      have hv : v ≠ -3 := fun z => by rw [if_pos z] at e1; rw [e1] at c12; exact absurd c12 (by decide)
      rw [e2 hv]
      refine J_callV (c_close q0) dX6_hear_28 ml_X6_290 mkX0_close rfl (by first | with_reducible assumption | (simp only [hK_sI, hK_sJ, hK_sR, hK_tI, hK_tJ, hK_tR]; with_reducible assumption)) (by decide) rfl rfl (Nat.le_of_ble_eq_true rfl) ⟨Nat.le_of_ble_eq_true rfl, Nat.le_of_ble_eq_true rfl⟩ ⟨Nat.le_of_ble_eq_true rfl, Nat.le_of_ble_eq_true rfl⟩ (fun v28 hp28 q28 => ?_)
      obtain ⟨rfl, z28⟩ := q28
      rw [z28]
      exact J_return dX6_hear_31 rfl ⟨rfl, (by
       have hv : v ≠ -3 := fun z => by rw [if_pos z] at e1; rw [e1] at c12; exact absurd c12 (by decide)
       rw [if_pos (by rw [← q10]; exact c4), if_neg (fun z => hv z.1)]
       refine Rep_close hr hkk (by decide) ((HX_sI (by decide)).tr (HX_sJ (by decide))) (fun d hd => ?_) ?_ (fun _ => ?_)
       · rw [hI_sJ, hI_sI, if_neg (fun z => hd z.2), hJ_sJ, if_neg (fun z => hd z.2), hJ_sI]; exact ⟨rfl, rfl⟩
       · rw [hI_sJ, hI_sI, if_pos ⟨rfl, rfl⟩]
       · rw [hJ_sJ, if_pos ⟨rfl, rfl⟩]), (HX_sI (by decide)).tr (HX_sJ (by decide))⟩ (Nat.le_of_ble_eq_true rfl) (Nat.le_of_ble_eq_true rfl)
    · refine J_aload_n dX6_hear_15 rfl rfl isR_r ?_
      refine J_iconst (v := 2) dX6_hear_16 (by decide) ?_
      refine J_putI dX6_hear_17 p_X6_92 (by first | with_reducible assumption | (simp only [hK_sI, hK_sJ, hK_sR, hK_tI, hK_tJ, hK_tR]; with_reducible assumption)) ?_
      refine J_goto (tgt := 31) dX6_hear_20 (by decide) ?_
      exact J_return dX6_hear_31 rfl ⟨rfl, (by
       have hv : v = -3 := Decidable.byContradiction fun z => c12 (by rw [e1, if_neg z])
       rw [if_pos (by rw [← q10]; exact c4), if_pos ⟨hv, h4.mpr hv⟩]
       refine Rep_close hr hkk (by decide) (HX_sI (by decide)) (fun d hd => ?_) ?_ (fun z => absurd z (by decide))
       · rw [hI_sI, if_neg (fun z => hd z.2), hJ_sI]; exact ⟨rfl, rfl⟩
       · rw [hI_sI, if_pos ⟨rfl, rfl⟩]), HX_sI (by decide)⟩ (Nat.le_of_ble_eq_true rfl) (Nat.le_of_ble_eq_true rfl)
  · exact J_return dX6_hear_7 rfl ⟨rfl, by rw [if_neg (by rw [← q10]; exact c4)]; exact hr, HX.rf⟩ (Nat.le_of_ble_eq_true rfl) (Nat.le_of_ble_eq_true rfl)
/-- an ASK is marked done, and the ACCOUNTS change -/
theorem Rep_done {k : Nat} (hr : Rep w as S h) (hk : k < nA S) (hS : SX [452, 467] S S') (m467 : ∀ j, mT S' 467 j = if j = k then 1 else mT S 467 j) (hH : HX [12, 335] h h') (ho : ∀ b, b ≠ as k → hI h' 12 b = hI h 12 b) (e1 : hI h' 12 (as k) = 1) (hV : RSrv w S' h') : Rep w as S' h' := by
  have eA : nA S' = nA S := by unfold nA; rw [(hS 453 (by decide)).1]
  obtain ⟨a1, a2, a3, a4, a5, a6, a7⟩ := hr
  refine ⟨a1.x hH (by decide), a2.x hS hH (by decide) (by decide) a1, a3.x hS hH (by decide) (by decide) a1, ?_, a5.x hS hH (by decide) (by decide) a1, hV, a7.x hS hH (by decide) (by decide) a1⟩
  obtain ⟨r1, r2, r3, r4⟩ := a4
  have k3 : hK h (w 3 0) ≠ 0 := by rw [a1.2.1.2.2.1.1]; decide
  refine ⟨fun j hj => ?_, fun j hj hj2 => ?_, fun j hj => ?_, fun j l hj hl => r4 j l (eA ▸ hj) (eA ▸ hl)⟩
  · rw [(hH.2.2 43 _ j (by decide) k3).2.2]; exact r1 j (eA ▸ hj)
  · rw [(hH.2.2 43 _ j (by decide) k3).2.2]; exact r2 j (eA ▸ hj) hj2
  · have q := r3 j (eA ▸ hj)
    have k0 : hK h (as j) ≠ 0 := by rw [q.1]; decide
    unfold AskOK at q ⊢
    rw [(hH.1 _ k0).1, (hH.2.1 0 _ (by decide) k0).1, (hH.2.1 1 _ (by decide) k0).1, (hH.2.1 2 _ (by decide) k0).1, (hH.2.1 3 _ (by decide) k0).1, (hH.2.1 4 _ (by decide) k0).1, (hH.2.1 5 _ (by decide) k0).1, (hH.2.1 6 _ (by decide) k0).1, (hH.2.1 7 _ (by decide) k0).1, (hH.2.1 8 _ (by decide) k0).1, (hH.2.1 9 _ (by decide) k0).1, (hH.2.1 10 _ (by decide) k0).1, (hH.2.1 11 _ (by decide) k0).2.1, (hH.2.1 13 _ (by decide) k0).2.2, (hH.2.1 14 _ (by decide) k0).2.2]
    rw [(hS 454 (by decide)).2.1, (hS 455 (by decide)).2.1, (hS 456 (by decide)).2.1, (hS 457 (by decide)).2.1, (hS 458 (by decide)).2.1, (hS 459 (by decide)).2.1, (hS 460 (by decide)).2.1, (hS 461 (by decide)).2.1, (hS 462 (by decide)).2.1, (hS 463 (by decide)).2.1, (hS 464 (by decide)).2.2, (hS 465 (by decide)).2.1, (hS 466 (by decide)).2.1, m467]
    obtain ⟨q0, q1, q2, q3, q4, q5, q6, q7, q8, q9, q10, q11, q12, q13, q14⟩ := q
    refine ⟨q0, q1, q2, q3, q4, q5, q6, q7, q8, q9, q10, q11, ?_, q13, q14⟩
    by_cases e : j = k
    · rw [e, if_pos rfl, e1]
    · rw [if_neg e, ho _ (fun z => e (r4 j k (eA ▸ hj) hk z)), q12]
/-- account a of server s takes u -/
theorem RSrv_at {s a : Nat} {u : Int64} (hI1 : Inj w) (hs : s < 4) (ha : a < 6) (r : RSrv w S h) : RSrv w (pJ S 452 (6 * s + a) (mJ S 452 (6 * s + a) + u)) (tJ h 65 (w 9 s) a (aJ h 65 (w 9 s) a + u)) := by
  intro i j hi hj
  rw [aJ_tJ, mJ_pJ]
  by_cases e : i = s ∧ j = a
  · rw [e.1, e.2, if_pos ⟨rfl, rfl, rfl⟩, if_pos ⟨rfl, rfl⟩, r s a hs ha]
  · rw [if_neg (fun z => e ⟨hI1 9 i s (by omega) z.2.1, z.2.2⟩), if_neg (fun z => e (by have := z.2; omega))]
    exact r i j hi hj
end AC
