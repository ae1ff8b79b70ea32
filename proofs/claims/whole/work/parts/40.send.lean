/-! what is sent -/
section SN
variable {x : om_x} {w : om_w} {h : Hp} {as : Nat → Nat} {S : Ms} {g : Nat}
theorem sent_L {a : Int32} {ans : Bool} {v : Int64} (hW : WF1 S) (h0 : mI S 485 = 0) (hl : nL S ≠ 120) : mI (sendF S a ans v) 468 = nI (nL S + 1) ∧ nL (sendF S a ans v) = nL S + 1 := by
  have e := inN_tn hW.1.2.1
  have e2 : nL S < 121 := e.2.1
  have e3 : mI (sendF S a ans v) 468 = nI (nL S + 1) := by
    unfold sendF
    rw [if_neg (fun z => z h0), if_neg (fun z => hl (by unfold nL; rw [z]; rfl)), mI_pI, if_pos rfl]
    conv => lhs; rw [e.1]
    exact nI_inc1 _
  refine ⟨e3, ?_⟩
  show tn (mI (sendF S a ans v) 468) = nL S + 1
  rw [e3, tn_nI (by omega)]
theorem sent_at {a : Int32} {ans : Bool} {v : Int64} (h0 : mI S 485 = 0) (hl : mI S 468 ≠ 120) (i : Nat) : mT (sendF S a ans v) 469 i = (if i = nL S then a else mT S 469 i) ∧ mT (sendF S a ans v) 470 i = (if i = nL S then bi ans else mT S 470 i) ∧ mT (sendF S a ans v) 471 i = (if i = nL S then (if ans then -1 else lowS S (mT S 454 (tn a))) else mT S 471 i) ∧ mJ (sendF S a ans v) 472 i = (if i = nL S then v else mJ S 472 i) ∧ mT (sendF S a ans v) 473 i = (if i = nL S then 0 else mT S 473 i) := by
  unfold sendF
  rw [if_neg (fun z => z h0), if_neg hl]
  refine ⟨?_, ?_, ?_, ?_, ?_⟩ <;> simp [mT_pI, mT_pT, mT_pJ, mJ_pI, mJ_pT, mJ_pJ]
theorem SX_sent {a : Int32} {ans : Bool} {v : Int64} (h0 : mI S 485 = 0) (hl : mI S 468 ≠ 120) : SX [468, 469, 470, 471, 472, 473, 486] S (sendF S a ans v) := by
  unfold sendF
  rw [if_neg (fun z => z h0), if_neg hl]
  exact (SX_pI (by decide)).tr ((SX_pT (by decide)).tr ((SX_pT (by decide)).tr ((SX_pT (by decide)).tr ((SX_pJ (by decide)).tr ((SX_pT (by decide)).tr (SX_pI (by decide)))))))
theorem SX_lost {a : Int32} {ans : Bool} {v : Int64} (h0 : mI S 485 = 0) (hl : mI S 468 = 120) : SX [483, 486] S (sendF S a ans v) ∧ mI (sendF S a ans v) 483 = mI S 483 + 1 := by
  unfold sendF
  rw [if_neg (fun z => z h0), if_pos hl]
  exact ⟨(SX_pI (by decide)).tr (SX_pI (by decide)), by rw [mI_pI, if_pos rfl]⟩
theorem sent_z {a : Int32} {ans : Bool} {v : Int64} (h0 : mI S 485 = 0) : mI (sendF S a ans v) 486 - mI S 486 = 1 := by
  have e : mI (sendF S a ans v) 486 = mI S 486 + 1 := by
    unfold sendF
    rw [if_neg (fun z => z h0)]
    split
    · rw [mI_pI, if_neg (by decide), mI_pI, if_pos rfl]
    · rw [mI_pI, if_neg (by decide)]
      simp only [mI_pT, mI_pJ]
      rw [mI_pI, if_pos rfl]
  rw [e, Int32.add_comm, Int32.add_sub_cancel]
theorem Rep_lost {a : Int32} {ans : Bool} {v : Int64} {h2 : Hp} {M : List Nat} (hr : Rep w as S h) (h0 : mI S 485 = 0) (hl : mI S 468 = 120) (hH : HX [258] h h2) (e : hI h2 258 (w 4 0) = hI h 258 (w 4 0) + 1) : Rep w as (sendF S a ans v) h2 := by
  obtain ⟨hS, e2⟩ := SX_lost (a := a) (ans := ans) (v := v) h0 hl
  obtain ⟨a1, a2, a3, a4, a5, a6, a7⟩ := hr
  refine ⟨a1.x hH (by decide), ?_, a3.x hS hH (by decide) (by decide) a1, a4.x hS hH (by decide) (by decide) a1, a5.x hS hH (by decide) (by decide) a1, a6.x hS hH (by decide) (by decide) a1, a7.x hS hH (by decide) (by decide) a1⟩
  obtain ⟨t1, t2, t3, t4, t5, t6⟩ := a2
  have k0 : hK h (w 0 0) ≠ 0 := by rw [a1.1.1]; decide
  have k4 : hK h (w 4 0) ≠ 0 := by rw [a1.2.1.2.2.2.1.1]; decide
  unfold RTop
  rw [(hH.2.1 384 _ (by decide) k0).1, (hH.2.1 389 _ (by decide) k0).1, (hH.2.1 390 _ (by decide) k0).1, (hH.2.1 256 _ (by decide) k4).1, (hH.2.1 257 _ (by decide) k4).1, e, e2, (hS 448 (by decide)).1, (hS 453 (by decide)).1, (hS 484 (by decide)).1, (hS 468 (by decide)).1, (hS 482 (by decide)).1, t6]
  exact ⟨t1, t2, t3, t4, t5, rfl⟩
theorem Rep_sent {a : Int32} {ans : Bool} {v : Int64} {h2 : Hp} {f : Nat} {lt : Nat → Nat} (hr : Rep w as S h) (hW : WF1 S) (hL : LR w as S h f lt) (h0 : mI S 485 = 0) (hl : nL S ≠ 120) (hH : HX [68, 128, 129, 130, 131, 132, 133, 256] h h2) (hE : REnd w as S h2) (e256 : hI h2 256 (w 4 0) = nI (nL S + 1))
    (hne : ∀ b, b ≠ lt ((f + nL S) % 128) → hR h2 128 b = hR h 128 b ∧ hI h2 129 b = hI h 129 b ∧ hI h2 130 b = hI h 130 b ∧ hI h2 131 b = hI h 131 b ∧ hI h2 132 b = hI h 132 b ∧ hJ h2 133 b = hJ h 133 b)
    (hnew : hR h2 128 (lt ((f + nL S) % 128)) = some (as (tn a)) ∧ hI h2 129 (lt ((f + nL S) % 128)) = bi ans ∧ hI h2 130 (lt ((f + nL S) % 128)) = (if ans = true ∧ v = -3 then 1 else 0) ∧ hI h2 131 (lt ((f + nL S) % 128)) = 0 ∧ (ans = false → hI h2 132 (lt ((f + nL S) % 128)) = lowS S (mT S 454 (tn a))) ∧ (ans = true → v ≠ -3 → hJ h2 133 (lt ((f + nL S) % 128)) = v)) : Rep w as (sendF S a ans v) h2 := by
  have hl2 : mI S 468 ≠ 120 := fun z => hl (by unfold nL; rw [z]; rfl)
  have hS := SX_sent (a := a) (ans := ans) (v := v) h0 hl2
  have hlt : nL S < 121 := (inN_tn hW.1.2.1).2.1
  obtain ⟨s1, s2⟩ := sent_L (a := a) (ans := ans) (v := v) hW h0 hl
  obtain ⟨a1, a2, a3, a4, a5, a6, a7⟩ := hr
  have k0 : hK h (w 0 0) ≠ 0 := by rw [a1.1.1]; decide
  have k4 : hK h (w 4 0) ≠ 0 := by rw [a1.2.1.2.2.2.1.1]; decide
  have k5 : hK h (w 5 0) ≠ 0 := by rw [a1.2.1.2.2.2.2.1]; decide
  refine ⟨a1.x hH (by decide), ?_, hE.x (h' := h2) hS (HX.rf (L := [])) (by decide) (by decide) (a1.x hH (by decide)), a4.x hS hH (by decide) (by decide) a1, ?_, a6.x hS hH (by decide) (by decide) a1, a7.x hS hH (by decide) (by decide) a1⟩
  · obtain ⟨t1, t2, t3, t4, t5, t6⟩ := a2
    unfold RTop
    rw [(hH.2.1 384 _ (by decide) k0).1, (hH.2.1 389 _ (by decide) k0).1, (hH.2.1 390 _ (by decide) k0).1, e256, (hH.2.1 257 _ (by decide) k4).1, (hH.2.1 258 _ (by decide) k4).1, s1, (hS 448 (by decide)).1, (hS 453 (by decide)).1, (hS 484 (by decide)).1, (hS 482 (by decide)).1, (hS 483 (by decide)).1]
    exact ⟨t1, t2, t3, rfl, t5, t6⟩
  · obtain ⟨⟨-, -, -, -, u5, u6, -, -, u9⟩, hk3, hinj, hok⟩ := hL
    refine ⟨f, lt, by rw [(hH.2.1 259 _ (by decide) k4).1]; exact u5, u6, fun s hs => ⟨by rw [(hH.2.2 53 _ s (by decide) k5).2.2]; exact u9 s hs, by rw [(hH.1 _ (by rw [hk3 s hs]; decide)).1]; exact hk3 s hs⟩, hinj, fun i hi => ?_⟩
    rw [s2] at hi
    obtain ⟨b1, b2, b3, b4, b5⟩ := sent_at (a := a) (ans := ans) (v := v) h0 hl2 i
    unfold LetOK
    rw [b1, b2, b3, b4, b5]
    by_cases e : i = nL S
    · subst e
      simp only [if_true]
      obtain ⟨n1, n2, n3, n4, n5, n6⟩ := hnew
      refine ⟨n1, n2, ?_, n4, fun z => ?_, fun z => ?_⟩
      · rw [n3]
        cases ans with
        | false => simp [bi]
        | true => simp [bi]
      · cases ans with
        | false => exact n5 rfl
        | true => exact absurd z (by decide)
      · cases ans with
        | false => exact absurd rfl z
        | true => exact n6 rfl
    · simp only [if_neg e]
      obtain ⟨n1, n2, n3, n4, n5, n6⟩ := hne (lt ((f + i) % 128)) (fun z => by
        have := hinj _ _ (Nat.mod_lt _ (by decide)) (Nat.mod_lt _ (by decide)) z
        omega)
      have := hok i (by omega)
      unfold LetOK at this
      rw [n1, n2, n3, n4, n5, n6]
      exact this
end SN
