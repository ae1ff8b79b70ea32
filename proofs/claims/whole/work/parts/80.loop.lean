/-! the law: its loop, its beginning -/
section LL
variable {x : om_x} {w : om_w} {y : om_y} {h h' : Hp} {S S' : Ms} {g i b L c sl pc : Nat} {xs : Nat → Int32} {nm : String} {Lc : List (Nat × Value)}
theorem J_lawret (hc : c ≤ 600000) (hsl : sl ≤ 7302250) : J x (rL x) (kL_law nm) 865 Lc [.int 1] h c sl := by
  intro p e s mi args below meth cd H locs ls X hH hS hL
  by_cases hz : (∃ b0, args = #[Value.ref b0]) ∧ s.heap.size ≤ x.2.2.2
  · obtain ⟨⟨b0, rfl⟩, hsz⟩ := hz
    have k : W p x.1 e room_1 s mi #[Value.ref b0] below meth cd H locs c sl (lw_Z below #[Value.ref b0] s) (F0 mi 865 ls [.int 1]) := va_forget (fun q hq => Nat.le_trans hsz (hS.2.2 q hq)) (W.widen hc hsl (lw_ret X.1 X.2.1 X.2.2.2.2.2.2.1 X.2.2.2.2.2.2.2.1 dL_law_865))
    intro T hT X'
    obtain ⟨t, a1, a2⟩ := k T hT X'
    exact ⟨t, a1, fun _ => a2⟩
  · exact fun T hT X' => ⟨_, Steps.refl _, fun z => absurd z hz⟩
theorem sub8 (hL : L ≤ 4097) : (nI L - 8).toInt = (L : Int) - 8 := by
  rw [Int32.toInt_sub, nI_int (by omega), show (8 : Int32).toInt = 8 from by decide]
  exact Int.bmod_eq_of_le (by omega) (by omega)
set_option maxRecDepth 100000 in
set_option maxHeartbeats 4000000 in
theorem law_loop (hI1 : Inj w) (hL : L ≤ 4097) : ∀ m i g (S : Ms) (h : Hp) c sl, i ≤ L + 8 → L < i + 8 * m → LSt w y g S h → g + 200 * m < 1000000 → c + 200 * m ≤ 600000 → sl + 3000 * m ≤ 7302250 → J x (rH x b L xs (rL x)) (kL_law nm) 28 [(0, .ref b), (1, .ref (w 0 0)), (2, .ref y.1), (3, .int (nI i))] [] h c sl := by
  intro m
  induction m with
  | zero =>
    intro i g S h c sl hi hm hs hg hc hsl
    refine J_iload_n dL_law_28 rfl rfl ?_
    refine J_aload_n dL_law_29 rfl rfl isR_r ?_
    refine J_slen dL_law_30 ?_
    refine J_bipush (v := 8) dL_law_31 (by decide) ?_
    refine J_isub dL_law_33 ?_
    refine J_icmp_gt (tgt := 864) dL_law_34 (by decide) (fun c34 => ?_) (fun c34 => (c34 (by rw [n_lt, sub8 hL, nI_int (by omega)]; omega)).elim)
    refine J_iconst (v := 1) dL_law_864 (by decide) ?_
    exact J_drop (J_lawret (by omega) (by omega))
  | succ m ih =>
    intro i g S h c sl hi hm hs hg hc hsl
    have kk : ∀ (S' : Ms) (h' : Hp) (c' sl' : Nat), i + 8 ≤ L → LSt w y (g + 200) S' h' → c' ≤ c + 200 → sl' ≤ sl + 3000 → J x (rH x b L xs (rL x)) (kL_law nm) 858 [(0, .ref b), (1, .ref (w 0 0)), (2, .ref y.1), (3, .int (nI i))] [] h' c' sl' := by
      intro S' h' c' sl' hiL hs' hc' hsl'
      refine J_iinc dL_law_858 rfl ((show nI i + Int32.ofInt 8 = nI (i + 8) from zI_add i 8)) (show _ < 4 by decide) ?_
      refine J_goto (tgt := 28) dL_law_861 (by decide) ?_
      exact J_loc _ rfl (ih (i + 8) (g + 200) S' h' c' sl' (by omega) (by omega) hs' (by omega) (by omega) (by omega))
    refine J_iload_n dL_law_28 rfl rfl ?_
    refine J_aload_n dL_law_29 rfl rfl isR_r ?_
    refine J_slen dL_law_30 ?_
    refine J_bipush (v := 8) dL_law_31 (by decide) ?_
    refine J_isub dL_law_33 ?_
    refine J_icmp_gt (tgt := 864) dL_law_34 (by decide) (fun c34 => ?_) (fun c34 => ?_)
    · refine J_iconst (v := 1) dL_law_864 (by decide) ?_
      exact J_drop (J_lawret (by omega) (by omega))
    · have hiL : i + 8 ≤ L := by
       have c := c34
       rw [n_lt, sub8 hL, nI_int (by omega)] at c
       omega
      have sx0 : inx (nI i) i L := inx_n (by omega) (by omega)
      refine J_aload_n dL_law_37 rfl rfl isR_r ?_
      refine J_iload_n dL_law_38 rfl rfl ?_
      refine J_sld dL_law_39 sx0 ?_
      refine J_bipush (v := 31) dL_law_40 (by decide) ?_
      refine J_iand dL_law_42 ?_
      by_cases s43_0 : xs i &&& 31 = 0
      · refine J_st (st' := [.int 0]) (by rw [s43_0] <;> rfl) ?_
        refine J_tswIn (off := 101) (tgt := 144) dL_law_43 (by decide) (by decide) (by decide) (by decide) ?_
        exact law_c0 hI1 hL hiL hs (by omega) (by omega) (by omega) (fun S' h' c' sl' => kk S' h' c' sl' hiL)
      -- else
      by_cases s43_1 : xs i &&& 31 = 1
      · refine J_st (st' := [.int 1]) (by rw [s43_1] <;> rfl) ?_
        refine J_tswIn (off := 188) (tgt := 231) dL_law_43 (by decide) (by decide) (by decide) (by decide) ?_
        exact law_c1 hI1 hL hiL hs (by omega) (by omega) (by omega) (fun S' h' c' sl' => kk S' h' c' sl' hiL)
      -- else
      by_cases s43_2 : xs i &&& 31 = 2
      · refine J_st (st' := [.int 2]) (by rw [s43_2] <;> rfl) ?_
        refine J_tswIn (off := 211) (tgt := 254) dL_law_43 (by decide) (by decide) (by decide) (by decide) ?_
        exact law_c2 hI1 hL hiL hs (by omega) (by omega) (by omega) (fun S' h' c' sl' => kk S' h' c' sl' hiL)
      -- else
      by_cases s43_3 : xs i &&& 31 = 3
      · refine J_st (st' := [.int 3]) (by rw [s43_3] <;> rfl) ?_
        refine J_tswIn (off := 244) (tgt := 287) dL_law_43 (by decide) (by decide) (by decide) (by decide) ?_
        exact law_c3 hI1 hL hiL hs (by omega) (by omega) (by omega) (fun S' h' c' sl' => kk S' h' c' sl' hiL)
      -- else
      by_cases s43_4 : xs i &&& 31 = 4
      · refine J_st (st' := [.int 4]) (by rw [s43_4] <;> rfl) ?_
        refine J_tswIn (off := 268) (tgt := 311) dL_law_43 (by decide) (by decide) (by decide) (by decide) ?_
        exact law_c4 hI1 hL hiL hs (by omega) (by omega) (by omega) (fun S' h' c' sl' => kk S' h' c' sl' hiL)
      -- else
      by_cases s43_5 : xs i &&& 31 = 5
      · refine J_st (st' := [.int 5]) (by rw [s43_5] <;> rfl) ?_
        refine J_tswIn (off := 301) (tgt := 344) dL_law_43 (by decide) (by decide) (by decide) (by decide) ?_
        exact law_c5 hI1 hL hiL hs (by omega) (by omega) (by omega) (fun S' h' c' sl' => kk S' h' c' sl' hiL)
      -- else
      by_cases s43_6 : xs i &&& 31 = 6
      · refine J_st (st' := [.int 6]) (by rw [s43_6] <;> rfl) ?_
        refine J_tswIn (off := 334) (tgt := 377) dL_law_43 (by decide) (by decide) (by decide) (by decide) ?_
        exact law_c6 hI1 hL hiL hs (by omega) (by omega) (by omega) (fun S' h' c' sl' => kk S' h' c' sl' hiL)
      -- else
      by_cases s43_7 : xs i &&& 31 = 7
      · refine J_st (st' := [.int 7]) (by rw [s43_7] <;> rfl) ?_
        refine J_tswIn (off := 357) (tgt := 400) dL_law_43 (by decide) (by decide) (by decide) (by decide) ?_
        exact law_c7 hI1 hL hiL hs (by omega) (by omega) (by omega) (fun S' h' c' sl' => kk S' h' c' sl' hiL)
      -- else
      by_cases s43_8 : xs i &&& 31 = 8
      · refine J_st (st' := [.int 8]) (by rw [s43_8] <;> rfl) ?_
        refine J_tswIn (off := 380) (tgt := 423) dL_law_43 (by decide) (by decide) (by decide) (by decide) ?_
        exact law_c8 hI1 hL hiL hs (by omega) (by omega) (by omega) (fun S' h' c' sl' => kk S' h' c' sl' hiL)
      -- else
      by_cases s43_9 : xs i &&& 31 = 9
      · refine J_st (st' := [.int 9]) (by rw [s43_9] <;> rfl) ?_
        refine J_tswIn (off := 403) (tgt := 446) dL_law_43 (by decide) (by decide) (by decide) (by decide) ?_
        exact law_c9 hI1 hL hiL hs (by omega) (by omega) (by omega) (fun S' h' c' sl' => kk S' h' c' sl' hiL)
      -- else
      by_cases s43_10 : xs i &&& 31 = 10
      · refine J_st (st' := [.int 10]) (by rw [s43_10] <;> rfl) ?_
        refine J_tswIn (off := 436) (tgt := 479) dL_law_43 (by decide) (by decide) (by decide) (by decide) ?_
        exact law_c10 hI1 hL hiL hs (by omega) (by omega) (by omega) (fun S' h' c' sl' => kk S' h' c' sl' hiL)
      -- else
      by_cases s43_11 : xs i &&& 31 = 11
      · refine J_st (st' := [.int 11]) (by rw [s43_11] <;> rfl) ?_
        refine J_tswIn (off := 459) (tgt := 502) dL_law_43 (by decide) (by decide) (by decide) (by decide) ?_
        exact law_c11 hI1 hL hiL hs (by omega) (by omega) (by omega) (fun S' h' c' sl' => kk S' h' c' sl' hiL)
      -- else
      by_cases s43_12 : xs i &&& 31 = 12
      · refine J_st (st' := [.int 12]) (by rw [s43_12] <;> rfl) ?_
        refine J_tswIn (off := 482) (tgt := 525) dL_law_43 (by decide) (by decide) (by decide) (by decide) ?_
        exact law_c12 hI1 hL hiL hs (by omega) (by omega) (by omega) (fun S' h' c' sl' => kk S' h' c' sl' hiL)
      -- else
      by_cases s43_13 : xs i &&& 31 = 13
      · refine J_st (st' := [.int 13]) (by rw [s43_13] <;> rfl) ?_
        refine J_tswIn (off := 505) (tgt := 548) dL_law_43 (by decide) (by decide) (by decide) (by decide) ?_
        exact law_c13 hI1 hL hiL hs (by omega) (by omega) (by omega) (fun S' h' c' sl' => kk S' h' c' sl' hiL)
      -- else
      by_cases s43_14 : xs i &&& 31 = 14
      · refine J_st (st' := [.int 14]) (by rw [s43_14] <;> rfl) ?_
        refine J_tswIn (off := 539) (tgt := 582) dL_law_43 (by decide) (by decide) (by decide) (by decide) ?_
        exact law_c14 hI1 hL hiL hs (by omega) (by omega) (by omega) (fun S' h' c' sl' => kk S' h' c' sl' hiL)
      -- else
      by_cases s43_15 : xs i &&& 31 = 15
      · refine J_st (st' := [.int 15]) (by rw [s43_15] <;> rfl) ?_
        refine J_tswIn (off := 582) (tgt := 625) dL_law_43 (by decide) (by decide) (by decide) (by decide) ?_
        exact law_c15 hI1 hL hiL hs (by omega) (by omega) (by omega) (fun S' h' c' sl' => kk S' h' c' sl' hiL)
      -- else
      by_cases s43_16 : xs i &&& 31 = 16
      · refine J_st (st' := [.int 16]) (by rw [s43_16] <;> rfl) ?_
        refine J_tswIn (off := 625) (tgt := 668) dL_law_43 (by decide) (by decide) (by decide) (by decide) ?_
        exact law_c16 hI1 hL hiL hs (by omega) (by omega) (by omega) (fun S' h' c' sl' => kk S' h' c' sl' hiL)
      -- else
      by_cases s43_17 : xs i &&& 31 = 17
      · refine J_st (st' := [.int 17]) (by rw [s43_17] <;> rfl) ?_
        refine J_tswIn (off := 658) (tgt := 701) dL_law_43 (by decide) (by decide) (by decide) (by decide) ?_
        exact law_c17 hI1 hL hiL hs (by omega) (by omega) (by omega) (fun S' h' c' sl' => kk S' h' c' sl' hiL)
      -- else
      by_cases s43_18 : xs i &&& 31 = 18
      · refine J_st (st' := [.int 18]) (by rw [s43_18] <;> rfl) ?_
        refine J_tswIn (off := 681) (tgt := 724) dL_law_43 (by decide) (by decide) (by decide) (by decide) ?_
        exact law_c18 hI1 hL hiL hs (by omega) (by omega) (by omega) (fun S' h' c' sl' => kk S' h' c' sl' hiL)
      -- else
      by_cases s43_19 : xs i &&& 31 = 19
      · refine J_st (st' := [.int 19]) (by rw [s43_19] <;> rfl) ?_
        refine J_tswIn (off := 705) (tgt := 748) dL_law_43 (by decide) (by decide) (by decide) (by decide) ?_
        exact law_c19 hI1 hL hiL hs (by omega) (by omega) (by omega) (fun S' h' c' sl' => kk S' h' c' sl' hiL)
      -- else
      by_cases s43_20 : xs i &&& 31 = 20
      · refine J_st (st' := [.int 20]) (by rw [s43_20] <;> rfl) ?_
        refine J_tswIn (off := 729) (tgt := 772) dL_law_43 (by decide) (by decide) (by decide) (by decide) ?_
        exact law_c20 hI1 hL hiL hs (by omega) (by omega) (by omega) (fun S' h' c' sl' => kk S' h' c' sl' hiL)
      -- else
      by_cases s43_21 : xs i &&& 31 = 21
      · refine J_st (st' := [.int 21]) (by rw [s43_21] <;> rfl) ?_
        refine J_tswIn (off := 792) (tgt := 835) dL_law_43 (by decide) (by decide) (by decide) (by decide) ?_
        exact law_c21 hI1 hL hiL hs (by omega) (by omega) (by omega) (fun S' h' c' sl' => kk S' h' c' sl' hiL)
      -- else
      have tt : (xs i &&& 31).toInt ≠ 0 ∧ (xs i &&& 31).toInt ≠ 1 ∧ (xs i &&& 31).toInt ≠ 2 ∧ (xs i &&& 31).toInt ≠ 3 ∧ (xs i &&& 31).toInt ≠ 4 ∧ (xs i &&& 31).toInt ≠ 5 ∧ (xs i &&& 31).toInt ≠ 6 ∧ (xs i &&& 31).toInt ≠ 7 ∧ (xs i &&& 31).toInt ≠ 8 ∧ (xs i &&& 31).toInt ≠ 9 ∧ (xs i &&& 31).toInt ≠ 10 ∧ (xs i &&& 31).toInt ≠ 11 ∧ (xs i &&& 31).toInt ≠ 12 ∧ (xs i &&& 31).toInt ≠ 13 ∧ (xs i &&& 31).toInt ≠ 14 ∧ (xs i &&& 31).toInt ≠ 15 ∧ (xs i &&& 31).toInt ≠ 16 ∧ (xs i &&& 31).toInt ≠ 17 ∧ (xs i &&& 31).toInt ≠ 18 ∧ (xs i &&& 31).toInt ≠ 19 ∧ (xs i &&& 31).toInt ≠ 20 ∧ (xs i &&& 31).toInt ≠ 21 := ⟨fun z => s43_0 (Int32.toInt_inj.mp (z.trans (by decide))), fun z => s43_1 (Int32.toInt_inj.mp (z.trans (by decide))), fun z => s43_2 (Int32.toInt_inj.mp (z.trans (by decide))), fun z => s43_3 (Int32.toInt_inj.mp (z.trans (by decide))), fun z => s43_4 (Int32.toInt_inj.mp (z.trans (by decide))), fun z => s43_5 (Int32.toInt_inj.mp (z.trans (by decide))), fun z => s43_6 (Int32.toInt_inj.mp (z.trans (by decide))), fun z => s43_7 (Int32.toInt_inj.mp (z.trans (by decide))), fun z => s43_8 (Int32.toInt_inj.mp (z.trans (by decide))), fun z => s43_9 (Int32.toInt_inj.mp (z.trans (by decide))), fun z => s43_10 (Int32.toInt_inj.mp (z.trans (by decide))), fun z => s43_11 (Int32.toInt_inj.mp (z.trans (by decide))), fun z => s43_12 (Int32.toInt_inj.mp (z.trans (by decide))), fun z => s43_13 (Int32.toInt_inj.mp (z.trans (by decide))), fun z => s43_14 (Int32.toInt_inj.mp (z.trans (by decide))), fun z => s43_15 (Int32.toInt_inj.mp (z.trans (by decide))), fun z => s43_16 (Int32.toInt_inj.mp (z.trans (by decide))), fun z => s43_17 (Int32.toInt_inj.mp (z.trans (by decide))), fun z => s43_18 (Int32.toInt_inj.mp (z.trans (by decide))), fun z => s43_19 (Int32.toInt_inj.mp (z.trans (by decide))), fun z => s43_20 (Int32.toInt_inj.mp (z.trans (by decide))), fun z => s43_21 (Int32.toInt_inj.mp (z.trans (by decide)))⟩
      refine J_tswOut (tgt := 858) dL_law_43 (by omega) (by decide) ?_
      exact kk S h c sl hiL ⟨hs.1, hs.2.1, Iv_up hs.2.2 (by omega) (by omega)⟩ (by omega) (by omega)
set_option maxRecDepth 100000 in
set_option maxHeartbeats 4000000 in
theorem law_J (hL : L ≤ 4097) (h0 : ∀ a, hK h a = 0) : J x (rH x b L xs (rL x)) (kL_law nm) 0 [(0, .ref b)] [] h 0 0 := by
  refine J_new2 (ci := 6) dL_law_0 cl_L_7 ins_RX6 ini_RX6 hcl6 (by decide) inX6 tyX6_ok (by decide) (Nat.le_of_ble_eq_true rfl) (Nat.le_of_ble_eq_true rfl) (fun a0 g0 e0 n0 k0 z0 => ?_)
  refine J_dup dL_law_3 rfl ?_
  refine J_aload_n dL_law_4 rfl rfl isR_r ?_
  refine J_iconst (v := 0) dL_law_5 (by decide) ?_
  refine J_cell hL dL_law_6 ml_L_9 rfl (Nat.le_of_ble_eq_true rfl) ⟨Nat.le_of_ble_eq_true rfl, Nat.le_of_ble_eq_true rfl⟩ ⟨Nat.le_of_ble_eq_true rfl, Nat.le_of_ble_eq_true rfl⟩ ?_
  refine J_callI (c_init6 k0 z0) dL_law_9 ml_L_15 mkX6_init rfl rfl (Nat.le_of_ble_eq_true rfl) ⟨Nat.le_of_ble_eq_true rfl, Nat.le_of_ble_eq_true rfl⟩ ⟨Nat.le_of_ble_eq_true rfl, Nat.le_of_ble_eq_true rfl⟩ (fun v9 hp9 q9 => ?_)
  obtain ⟨rfl, o9, cg⟩ := q9
  have hnw : New h hp9 := New_Old e0 n0 o9
  obtain ⟨w, as, e0w, hI1, hrep⟩ := Rep_start cg
  rw [← e0w]
  refine J_astore_n dL_law_12 rfl isR_r (show _ < 4 by decide) ?_
  refine J_new2 (ci := 7) dL_law_13 cl_L_18 ins_RX7 ini_RX7 hcl7 (by decide) inX7 tyX7_ok (by decide) (Nat.le_of_ble_eq_true rfl) (Nat.le_of_ble_eq_true rfl) (fun a13 g13 e13 n13 k13 z13 => ?_)
  refine J_dup dL_law_16 rfl ?_
  refine J_aload_n dL_law_17 rfl rfl isR_r ?_
  refine J_iconst (v := 0) dL_law_18 (by decide) ?_
  refine J_cell hL dL_law_19 ml_L_9 rfl (Nat.le_of_ble_eq_true rfl) ⟨Nat.le_of_ble_eq_true rfl, Nat.le_of_ble_eq_true rfl⟩ ⟨Nat.le_of_ble_eq_true rfl, Nat.le_of_ble_eq_true rfl⟩ ?_
  refine J_callI (c_init7 k13 z13) dL_law_22 ml_L_20 mkX7_init rfl rfl (Nat.le_of_ble_eq_true rfl) ⟨Nat.le_of_ble_eq_true rfl, Nat.le_of_ble_eq_true rfl⟩ ⟨Nat.le_of_ble_eq_true rfl, Nat.le_of_ble_eq_true rfl⟩ (fun v22 hp22 q22 => ?_)
  obtain ⟨rfl, o22, yy, hrm⟩ := q22
  have hnw2 : New hp9 hp22 := New_Old e13 n13 o22
  refine J_astore_n dL_law_25 rfl isR_r (show _ < 4 by decide) ?_
  refine J_iconst (v := 1) dL_law_26 (by decide) ?_
  refine J_istore_n dL_law_27 rfl (show _ < 4 by decide) ?_
  have h8 := law_loop (x := x) (b := b) (xs := xs) (nm := nm) (y := (a13, yy)) hI1 hL 513 1 0 (mS0 (clampW (if 0 < L then xs 0 else 0))) hp22 317 11513 (by omega) (by omega) ⟨⟨as, Rep_HX (New_HX hnw2) hrep⟩, hrm, Iv_start _⟩ (by decide) (by decide) (by decide)
  exact J_cs (by decide) (by decide) (J_loc _ rfl h8)
end LL
