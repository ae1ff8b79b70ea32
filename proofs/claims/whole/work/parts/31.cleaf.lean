/-! the class's small methods -/
section C1
variable {x : om_x} {w : om_w} {h : Hp}
set_option maxRecDepth 100000 in
set_option maxHeartbeats 4000000 in
theorem c_endOf {v : Int32} (hC : CS w h) : Mt x 0 kX6_endOf 0 0 [.ref (w 0 0), .int v] h (fun z h' => z = some (va_rf (if inN v 10 then some (w 6 (tn v)) else none)) ∧ h' = h) := by
  refine Mt.ofJ mkX6_endOf.1 (Nat.le_of_ble_eq_true rfl) ?_
  obtain ⟨⟨o1, o2, o3, o4, o5⟩, ⟨⟨e1, e2⟩, -⟩, f1, -⟩ := hC
  refine J_iload_n dX6_endOf_0 rfl rfl ?_
  refine J_if_lt (tgt := 22) dX6_endOf_1 (by decide) (fun c1 => ?_) (fun c1 => ?_)
  · refine J_null dX6_endOf_22 ?_
    exact J_areturn dX6_endOf_23 rfl (Or.inl ⟨_, rfl⟩) isR_n ⟨by rw [inN_neg c1]; rfl, rfl⟩ (Nat.le_of_ble_eq_true rfl) (Nat.le_of_ble_eq_true rfl)
  · refine J_iload_n dX6_endOf_4 rfl rfl ?_
    refine J_aload_n dX6_endOf_5 rfl rfl isR_r ?_
    refine J_getRr dX6_endOf_6 g_X6_11 (by assumption) (by assumption) ?_
    refine J_alen dX6_endOf_9 (by assumption) (by decide) (show nI (hN h (w 1 0)) = nI 10 by rw [e2]) ?_
    refine J_icmp_ge (tgt := 22) dX6_endOf_10 (by decide) (fun c10 => ?_) (fun c10 => ?_)
    · refine J_null dX6_endOf_22 ?_
      exact J_areturn dX6_endOf_23 rfl (Or.inl ⟨_, rfl⟩) isR_n ⟨by rw [inN_big (by decide) c10]; rfl, rfl⟩ (Nat.le_of_ble_eq_true rfl) (Nat.le_of_ble_eq_true rfl)
    · have hi := inN_mid (by decide) c1 c10
      have f2 := (f1 _ (inN_tn hi).2.1).1
      refine J_aload_n dX6_endOf_13 rfl rfl isR_r ?_
      refine J_getRr dX6_endOf_14 g_X6_11 (by assumption) (by assumption) ?_
      refine J_iload_n dX6_endOf_17 rfl rfl ?_
      refine J_aaldr dX6_endOf_18 (by assumption) ⟨by decide, by decide⟩ (show inx v (tn v) (hN h (w 1 0)) by rw [e2]; exact inx_v hi) (by assumption) ?_
      refine J_goto (tgt := 23) dX6_endOf_19 (by decide) ?_
      exact J_areturn dX6_endOf_23 rfl (Or.inl ⟨_, rfl⟩) isR_r ⟨by rw [hi]; rfl, rfl⟩ (Nat.le_of_ble_eq_true rfl) (Nat.le_of_ble_eq_true rfl)
set_option maxRecDepth 100000 in
set_option maxHeartbeats 4000000 in
theorem c_serverOf {v : Int32} (hC : CS w h) : Mt x 0 kX6_serverOf 0 0 [.ref (w 0 0), .int v] h (fun z h' => z = some (va_rf (if inN v 4 then some (w 8 (tn v)) else none)) ∧ h' = h) := by
  refine Mt.ofJ mkX6_serverOf.1 (Nat.le_of_ble_eq_true rfl) ?_
  obtain ⟨⟨o1, o2, o3, o4, o5⟩, ⟨-, ⟨e1, e2⟩, -⟩, -, f1, -⟩ := hC
  refine J_iload_n dX6_serverOf_0 rfl rfl ?_
  refine J_if_lt (tgt := 22) dX6_serverOf_1 (by decide) (fun c1 => ?_) (fun c1 => ?_)
  · refine J_null dX6_serverOf_22 ?_
    exact J_areturn dX6_serverOf_23 rfl (Or.inl ⟨_, rfl⟩) isR_n ⟨by rw [inN_neg c1]; rfl, rfl⟩ (Nat.le_of_ble_eq_true rfl) (Nat.le_of_ble_eq_true rfl)
  · refine J_iload_n dX6_serverOf_4 rfl rfl ?_
    refine J_aload_n dX6_serverOf_5 rfl rfl isR_r ?_
    refine J_getRr dX6_serverOf_6 g_X6_17 (by assumption) (by assumption) ?_
    refine J_alen dX6_serverOf_9 (by assumption) (by decide) (show nI (hN h (w 2 0)) = nI 4 by rw [e2]) ?_
    refine J_icmp_ge (tgt := 22) dX6_serverOf_10 (by decide) (fun c10 => ?_) (fun c10 => ?_)
    · refine J_null dX6_serverOf_22 ?_
      exact J_areturn dX6_serverOf_23 rfl (Or.inl ⟨_, rfl⟩) isR_n ⟨by rw [inN_big (by decide) c10]; rfl, rfl⟩ (Nat.le_of_ble_eq_true rfl) (Nat.le_of_ble_eq_true rfl)
    · have hi := inN_mid (by decide) c1 c10
      have f2 := (f1 _ (inN_tn hi).2.1).1
      refine J_aload_n dX6_serverOf_13 rfl rfl isR_r ?_
      refine J_getRr dX6_serverOf_14 g_X6_17 (by assumption) (by assumption) ?_
      refine J_iload_n dX6_serverOf_17 rfl rfl ?_
      refine J_aaldr dX6_serverOf_18 (by assumption) ⟨by decide, by decide⟩ (show inx v (tn v) (hN h (w 2 0)) by rw [e2]; exact inx_v hi) (by assumption) ?_
      refine J_goto (tgt := 23) dX6_serverOf_19 (by decide) ?_
      exact J_areturn dX6_serverOf_23 rfl (Or.inl ⟨_, rfl⟩) isR_r ⟨by rw [hi]; rfl, rfl⟩ (Nat.le_of_ble_eq_true rfl) (Nat.le_of_ble_eq_true rfl)
end C1
