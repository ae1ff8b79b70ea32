/-! serve -/
section SV
variable {x : om_x} {w : om_w} {h h' : Hp} {as : Nat → Nat} {S S' : Ms} {g : Nat}
theorem i32_nle {a b : Int32} : ¬ a ≤ b ↔ b < a := by rw [n_lt, n_le]; omega
theorem work2_eq {sv k : Int32} {i : Nat} (hW : WF2 g S) : (fR S (nI i) (mT S 456 (tn k)) = none ∧ work2 S sv (nI i) k = actF S sv (nI i) k) ∨ ∃ e, fR S (nI i) (mT S 456 (tn k)) = some e ∧ RecE S e ∧ work2 S sv (nI i) k = (if e.2.2.1 ≠ 2 then sendF S k true (if e.2.2.1 = 1 then e.2.2.2.1 else -2) else if mT S 463 (tn e.2.2.2.2) = 0 then sendF S e.2.2.2.2 false 0 else S) := by
  rw [fR_fnd]
  unfold work2
  cases e : fnd S (nI i) (mT S 456 (tn k)) with
  | none => exact Or.inl ⟨rfl, rfl⟩
  | some r =>
    right
    have h1 := fnd_at e
    exact ⟨rc S r, rfl, hW.2.2.2.2.2.2.2.2.1 r h1.1, rfl⟩
/-- the record in MIDST is of the ASK itself -/
theorem midst_own {k : Int32} {e : om_rc} (hW : WF2 g S) (hk : inN k (nA S) = true) (he : fR S (nI (rw_ S (tn k))) (mT S 456 (tn k)) = some e) (hE : RecE S e) (h2 : e.2.2.1 = 2) (hlife : mT S 455 (tn k) = mT S 474 (rw_ S (tn k))) : inN e.2.2.2.2 (nA S) = true ∧ mT S 466 (tn k) = e.2.2.2.2 := by
  have hkk := (inN_tn hk).2.1
  obtain ⟨o1, o2, o3, o4, o5⟩ := hE.2.2.2 h2
  obtain ⟨-, f1, f2⟩ := fR_mem he
  have hi := rw_lt hW.1 hkk
  have t1 : tn e.1 = rw_ S (tn k) := by rw [f1, tn_nI (by omega)]
  rw [t1] at o3 o4
  have ho := (inN_tn o1).2.1
  have haw := hW.2.2.2.1 _ ho
  obtain ⟨-, p2, p3, -⟩ := haw.2.2.2.2.1.2 o2
  have hf := (inN_tn p2).2.1
  have m1 := rw_mod hW.1 hf
  have m2 := rw_mod hW.1 hkk
  rw [o3, m2] at m1
  have n1 := (hW.1.2.1 _ hf).1
  have n2 := (hW.1.2.1 _ hkk).1
  have en : mT S 454 (tn (mT S 465 (tn e.2.2.2.2))) = mT S 454 (tn k) := by rw [(inN_tn n1).1, (inN_tn n2).1, m1]
  have u := hW.2.2.2.2.1 _ _ hf hkk en (by rw [o4, hlife]) (by rw [o5, f2])
  rw [u] at p3
  exact ⟨o1, by rw [p3]; exact (inN_tn o1).1.symm⟩
set_option maxRecDepth 100000 in
set_option maxHeartbeats 4000000 in
theorem serve_117 {k b m : Int32} {q i : Nat} {Q : Option Value → Hp → Prop} (hr : Rep w as S h) (hI1 : Inj w) (hW : WF2 g S) (h467 : ∀ k, nA S ≤ k → mT S 467 k = 0) (h7 : nR S + 1 < 700) (hk : inN k (nA S) = true) (hii : rw_ S (tn k) = i) (hlife : mT S 455 (tn k) = mT S 474 i) (hw1 : tn (mT S 475 i) ≤ tn (mT S 456 (tn k))) (hw2 : tn (mT S 456 (tn k)) < tn (mT S 475 i) + tn (mI S 448)) (hb : lv S b)
    (hQ : ∀ (S1 : Ms) (as' : Nat → Nat) (h' : Hp), work2 S (mT S 457 (tn k)) (nI i) k = S1 → (∀ j, j < nA S → as' j = as j) → Rep w as' S1 h' → HX ActX h h' → Q (some (.int (mI S1 486 - mI S 486))) h') : J x (om_m x 5 1 15 Q) kX6_serve 117 [(0, .ref (w 0 0)), (1, .ref q), (2, .ref (as (tn k))), (3, .int m), (4, .ref (w 8 (tn (mT S 457 (tn k))))), (5, .ref (w 11 i)), (6, .int b)] [] h 0 0 := by
  have hkk := (inN_tn hk).2.1
  have hi : i < 40 := by rw [← hii]; exact rw_lt hW.1 hkk
  obtain ⟨q0, q1, q2, q3, q4, q5, q6, q7, q8, q9, q10, q11, q12, q13, q14⟩ := hr.2.2.2.1.2.2.1 _ hkk
  have o1 := hr.1.1.1
  have kM := (Rep.mk hr.1 hi).1
  have hl := hW.lo hi
  have hak := hW.2.2.2.1 _ hkk
  have hnum := (inN_tn hak.1.2.2.1).1
  have hown := hW.own hkk
  rcases work2_eq (sv := mT S 457 (tn k)) (k := k) (i := i) hW with ⟨f1, f2⟩ | ⟨e, f1, f2, f3⟩
  · have st0 : stR (fR S (nI i) (mT S 456 (tn k))) = 0 := by rw [f1]; rfl
    refine J_aload dX6_serve_117 rfl isR_r ?_
    refine J_aload_n dX6_serve_119 rfl rfl isR_r ?_
    refine J_getI dX6_serve_120 g_X6_105 (by first | with_reducible assumption | (simp only [hK_sI, hK_sJ, hK_sR, hK_tI, hK_tJ, hK_tR]; with_reducible assumption)) ?_
    rw [q4]
    refine J_callV (c_stateR hr hW.rw_ hi hl) dX6_serve_123 ml_X6_204 mkX3_stateOf rfl (by first | with_reducible assumption | (simp only [hK_sI, hK_sJ, hK_sR, hK_tI, hK_tJ, hK_tR]; with_reducible assumption)) (by decide) rfl rfl (Nat.le_of_ble_eq_true rfl) ⟨Nat.le_of_ble_eq_true rfl, Nat.le_of_ble_eq_true rfl⟩ ⟨Nat.le_of_ble_eq_true rfl, Nat.le_of_ble_eq_true rfl⟩ (fun v123 hp123 q123 => ?_)
    obtain ⟨rfl, z123⟩ := q123
    rw [z123]
    refine J_st (st' := [.int 0]) (by rw [st0] <;> rfl) ?_
    refine J_lsw (off := 26) (tgt := 152) dX6_serve_126 (by decide) (by decide) (by decide) ?_
    refine J_aload_n dX6_serve_152 rfl rfl isR_r ?_
    refine J_aload dX6_serve_153 rfl isR_r ?_
    refine J_aload dX6_serve_155 rfl isR_r ?_
    refine J_aload_n dX6_serve_157 rfl rfl isR_r ?_
    refine J_iload dX6_serve_158 rfl ?_
    refine J_callV (c_act (num := tn (mT S 456 (tn k))) hr hI1 hW h467 h7 hk hi hb hnum hw1 hw2) dX6_serve_160 ml_X6_300 mkX6_act rfl (by first | with_reducible assumption | (simp only [hK_sI, hK_sJ, hK_sR, hK_tI, hK_tJ, hK_tR]; with_reducible assumption)) (by decide) rfl rfl (Nat.le_of_ble_eq_true rfl) ⟨Nat.le_of_ble_eq_true rfl, Nat.le_of_ble_eq_true rfl⟩ ⟨Nat.le_of_ble_eq_true rfl, Nat.le_of_ble_eq_true rfl⟩ (fun v160 hp160 q160 => ?_)
    obtain ⟨rfl, as', z1, z2, z3⟩ := q160
    exact J_ireturn dX6_serve_163 rfl (hQ _ as' _ f2 z1 z2 z3) (Nat.le_of_ble_eq_true rfl) (Nat.le_of_ble_eq_true rfl)
  · have st1 : stR (fR S (nI i) (mT S 456 (tn k))) = e.2.2.1 := by rw [f1]; rfl
    by_cases e2 : e.2.2.1 = 2
    · obtain ⟨p1, p2⟩ := midst_own hW hk (by rw [hii]; exact f1) f2 e2 (by rw [hii]; exact hlife)
      rw [if_neg (fun z => z e2)] at f3
      have hne : mT S 466 (tn k) ≠ -1 := by
        rw [p2, (inN_tn p1).1]
        intro z
        have e1 := congrArg Int32.toInt z
        rw [nI_int (inN_tn p1).2.2, show (-1 : Int32).toInt = -1 from by decide] at e1
        omega
      rw [← p2] at f3
      have f4 : work2 S (mT S 457 (tn k)) (nI i) k = if mT S 466 (tn k) ≠ -1 ∧ mT S 463 (tn (mT S 466 (tn k))) = 0 then sendF S (mT S 466 (tn k)) false 0 else S := by
        rw [f3]
        by_cases c : mT S 463 (tn (mT S 466 (tn k))) = 0
        · rw [if_pos c, if_pos ⟨hne, c⟩]
        · rw [if_neg c, if_neg (fun z => c z.2)]
      refine J_aload dX6_serve_117 rfl isR_r ?_
      refine J_aload_n dX6_serve_119 rfl rfl isR_r ?_
      refine J_getI dX6_serve_120 g_X6_105 (by first | with_reducible assumption | (simp only [hK_sI, hK_sJ, hK_sR, hK_tI, hK_tJ, hK_tR]; with_reducible assumption)) ?_
      rw [q4]
      refine J_callV (c_stateR hr hW.rw_ hi hl) dX6_serve_123 ml_X6_204 mkX3_stateOf rfl (by first | with_reducible assumption | (simp only [hK_sI, hK_sJ, hK_sR, hK_tI, hK_tJ, hK_tR]; with_reducible assumption)) (by decide) rfl rfl (Nat.le_of_ble_eq_true rfl) ⟨Nat.le_of_ble_eq_true rfl, Nat.le_of_ble_eq_true rfl⟩ ⟨Nat.le_of_ble_eq_true rfl, Nat.le_of_ble_eq_true rfl⟩ (fun v123 hp123 q123 => ?_)
      obtain ⟨rfl, z123⟩ := q123
      rw [z123]
      refine J_st (st' := [.int 2]) (by rw [st1, e2] <;> rfl) ?_
      refine J_lsw (off := 38) (tgt := 164) dX6_serve_126 (by decide) (by decide) (by decide) ?_
      refine J_aload_n dX6_serve_164 rfl rfl isR_r ?_
      refine J_aload_n dX6_serve_165 rfl rfl isR_r ?_
      refine J_getR dX6_serve_166 g_X6_122 (by first | with_reducible assumption | (simp only [hK_sI, hK_sJ, hK_sR, hK_tI, hK_tJ, hK_tR]; with_reducible assumption)) q14 ?_
      refine J_iload dX6_serve_169 rfl ?_
      refine J_callV (c_remind hr hI1 hW.1 hW.life hown hb) dX6_serve_171 ml_X6_304 mkX6_remind rfl (by first | with_reducible assumption | (simp only [hK_sI, hK_sJ, hK_sR, hK_tI, hK_tJ, hK_tR]; with_reducible assumption)) (by decide) rfl rfl (Nat.le_of_ble_eq_true rfl) ⟨Nat.le_of_ble_eq_true rfl, Nat.le_of_ble_eq_true rfl⟩ ⟨Nat.le_of_ble_eq_true rfl, Nat.le_of_ble_eq_true rfl⟩ (fun v171 hp171 q171 => ?_)
      obtain ⟨rfl, z1, z2⟩ := q171
      exact J_ireturn dX6_serve_174 rfl (hQ _ as _ f4 (fun _ _ => rfl) z1 (z2.sub (by decide))) (Nat.le_of_ble_eq_true rfl) (Nat.le_of_ble_eq_true rfl)
    · rw [if_pos e2] at f3
      have e13 : e.2.2.1 = 1 ∨ e.2.2.1 = 3 := by
        rcases f2.2.1 with z | z | z
        · exact Or.inl z
        · exact absurd z e2
        · exact Or.inr z
      have ev : (if e.2.2.1 = 1 then e.2.2.2.1 else (-2 : Int64)) = (if e.2.2.1 = 3 then -2 else e.2.2.2.1) ∧ (if e.2.2.1 = 3 then -2 else e.2.2.2.1) ≠ (-3 : Int64) := by
        rcases e13 with z | z
        · rw [if_pos z, if_neg (by rw [z]; decide)]
          exact ⟨rfl, f2.2.2.1 z⟩
        · rw [if_neg (by rw [z]; decide), if_pos z]
          exact ⟨rfl, by decide⟩
      rw [ev.1] at f3
      have go : J x (om_m x 5 1 15 Q) kX6_serve 175 [(0, .ref (w 0 0)), (1, .ref q), (2, .ref (as (tn k))), (3, .int m), (4, .ref (w 8 (tn (mT S 457 (tn k))))), (5, .ref (w 11 i)), (6, .int b)] [] h 0 0 := by
        refine J_aload_n dX6_serve_175 rfl rfl isR_r ?_
        refine J_aload_n dX6_serve_176 rfl rfl isR_r ?_
        refine J_aload dX6_serve_177 rfl isR_r ?_
        refine J_aload_n dX6_serve_179 rfl rfl isR_r ?_
        refine J_getI dX6_serve_180 g_X6_105 (by first | with_reducible assumption | (simp only [hK_sI, hK_sJ, hK_sR, hK_tI, hK_tJ, hK_tR]; with_reducible assumption)) ?_
        rw [q4]
        refine J_callV (c_answerR hr hW.rw_ hi hl f1 e13) dX6_serve_183 ml_X6_307 mkX3_answerOf rfl (by first | with_reducible assumption | (simp only [hK_sI, hK_sJ, hK_sR, hK_tI, hK_tJ, hK_tR]; with_reducible assumption)) (by decide) rfl rfl (Nat.le_of_ble_eq_true rfl) ⟨Nat.le_of_ble_eq_true rfl, Nat.le_of_ble_eq_true rfl⟩ ⟨Nat.le_of_ble_eq_true rfl, Nat.le_of_ble_eq_true rfl⟩ (fun v183 hp183 q183 => ?_)
        obtain ⟨rfl, z183⟩ := q183
        rw [z183]
        refine J_iload dX6_serve_186 rfl ?_
        refine J_callV (c_sendAnswer (a := k) hr hW.1 hk ev.2 hb) dX6_serve_188 ml_X6_310 mkX6_sendAnswer rfl (by first | with_reducible assumption | (simp only [hK_sI, hK_sJ, hK_sR, hK_tI, hK_tJ, hK_tR]; with_reducible assumption)) (by decide) rfl rfl (Nat.le_of_ble_eq_true rfl) ⟨Nat.le_of_ble_eq_true rfl, Nat.le_of_ble_eq_true rfl⟩ ⟨Nat.le_of_ble_eq_true rfl, Nat.le_of_ble_eq_true rfl⟩ (fun v188 hp188 q188 => ?_)
        obtain ⟨rfl, z1, z2⟩ := q188
        refine J_pc (pc' := 191) rfl ?_
        exact J_ireturn dX6_serve_191 rfl (hQ _ as _ f3 (fun _ _ => rfl) z1 (z2.sub (by decide))) (Nat.le_of_ble_eq_true rfl) (Nat.le_of_ble_eq_true rfl)
      rcases e13 with z | z
      · skip
        refine J_aload dX6_serve_117 rfl isR_r ?_
        refine J_aload_n dX6_serve_119 rfl rfl isR_r ?_
        refine J_getI dX6_serve_120 g_X6_105 (by first | with_reducible assumption | (simp only [hK_sI, hK_sJ, hK_sR, hK_tI, hK_tJ, hK_tR]; with_reducible assumption)) ?_
        rw [q4]
        refine J_callV (c_stateR hr hW.rw_ hi hl) dX6_serve_123 ml_X6_204 mkX3_stateOf rfl (by first | with_reducible assumption | (simp only [hK_sI, hK_sJ, hK_sR, hK_tI, hK_tJ, hK_tR]; with_reducible assumption)) (by decide) rfl rfl (Nat.le_of_ble_eq_true rfl) ⟨Nat.le_of_ble_eq_true rfl, Nat.le_of_ble_eq_true rfl⟩ ⟨Nat.le_of_ble_eq_true rfl, Nat.le_of_ble_eq_true rfl⟩ (fun v123 hp123 q123 => ?_)
        obtain ⟨rfl, z123⟩ := q123
        rw [z123]
        refine J_st (st' := [.int 1]) (by rw [st1, z] <;> rfl) ?_
        refine J_lsw (off := 49) (tgt := 175) dX6_serve_126 (by decide) (by decide) (by decide) ?_
        exact go
      · skip
        refine J_aload dX6_serve_117 rfl isR_r ?_
        refine J_aload_n dX6_serve_119 rfl rfl isR_r ?_
        refine J_getI dX6_serve_120 g_X6_105 (by first | with_reducible assumption | (simp only [hK_sI, hK_sJ, hK_sR, hK_tI, hK_tJ, hK_tR]; with_reducible assumption)) ?_
        rw [q4]
        refine J_callV (c_stateR hr hW.rw_ hi hl) dX6_serve_123 ml_X6_204 mkX3_stateOf rfl (by first | with_reducible assumption | (simp only [hK_sI, hK_sJ, hK_sR, hK_tI, hK_tJ, hK_tR]; with_reducible assumption)) (by decide) rfl rfl (Nat.le_of_ble_eq_true rfl) ⟨Nat.le_of_ble_eq_true rfl, Nat.le_of_ble_eq_true rfl⟩ ⟨Nat.le_of_ble_eq_true rfl, Nat.le_of_ble_eq_true rfl⟩ (fun v123 hp123 q123 => ?_)
        obtain ⟨rfl, z123⟩ := q123
        rw [z123]
        refine J_st (st' := [.int 3]) (by rw [st1, z] <;> rfl) ?_
        refine J_lsw (off := 49) (tgt := 175) dX6_serve_126 (by decide) (by decide) (by decide) ?_
        exact go
theorem SX_learnW {i l : Nat} (hi : i < 40) : SX SMem S (learnW S (nI i) (nI l)) := by
  rw [learnW_F hi]
  split
  · exact SX_lower
  · exact SX.rf
theorem SX_learnL {i : Nat} {k : Int32} (hi : i < 40) : SX SMem S (learnL S (nI i) k) := by
  rw [learnL_F hi]
  split
  · exact SX_life
  · exact SX.rf
set_option maxRecDepth 100000 in
set_option maxHeartbeats 4000000 in
theorem serve_89 {k b m : Int32} {q i l : Nat} {Q : Option Value → Hp → Prop} (hr : Rep w as S h) (hI1 : Inj w) (hW : WF2 g S) (h467 : ∀ k, nA S ≤ k → mT S 467 k = 0) (h7 : nR S + 1 < 700) (hk : inN k (nA S) = true) (hii : rw_ S (tn k) = i) (hlife : mT S 455 (tn k) = mT S 474 i) (hq : hK h q = 3) (hl : hI h 132 q = nI l) (hl1 : l < 400) (hlw : tn (mT S 456 (tn k)) < l + tn (mI S 448)) (hb : lv S b)
    (hQ : ∀ (S1 : Ms) (as' : Nat → Nat) (h' : Hp), (if m = 1 ∨ mT (learnW S (nI i) (nI l)) 456 (tn k) < mT (learnW S (nI i) (nI l)) 475 i then learnW S (nI i) (nI l) else work2 (learnW S (nI i) (nI l)) (mT S 457 (tn k)) (nI i) k) = S1 → (∀ j, j < nA S → as' j = as j) → Rep w as' S1 h' → HX ActX h h' → Q (some (.int (mI S1 486 - mI S 486))) h') : J x (om_m x 5 1 15 Q) kX6_serve 89 [(0, .ref (w 0 0)), (1, .ref q), (2, .ref (as (tn k))), (3, .int m), (4, .ref (w 8 (tn (mT S 457 (tn k))))), (5, .ref (w 11 i)), (6, .int b)] [] h 0 0 := by
  have hkk := (inN_tn hk).2.1
  have hi : i < 40 := by rw [← hii]; exact rw_lt hW.1 hkk
  have o1 := hr.1.1.1
  have kM := (Rep.mk hr.1 hi).1
  have hU := (WF2_learnW hW hi hl1)
  have hX := SX_learnW (S := S) (l := l) hi
  have hm := hW.2.2.2.2.2.2.2.1 _ hi
  have e5 := inN_tn hm.2.1
  have eU : (if tn (mT S 475 i) < l then lowerF S i l else S) = learnW S (nI i) (nI l) := by
    rw [learnW_F hi]
    by_cases c : tn (mT S 475 i) < l
    · rw [if_pos c, if_pos (by rw [e5.1, nI_lti (by omega) (by omega)]; exact c)]
    · rw [if_neg c, if_neg (by rw [e5.1, nI_lti (by omega) (by omega)]; exact c)]
  have hRU : nR (learnW S (nI i) (nI l)) ≤ nR S := (WF1_learnW hW.1 (nI i) (nI l)).2
  have cR := c_raiseR (x := x) (l := l) hr hI1 hW.1 hW.rw_ hi (hW.lo hi) (by omega)
  rw [eU] at cR
  have hL4 : mT (learnW S (nI i) (nI l)) 474 i = mT S 474 i := by
    rw [learnW_F hi]
    split
    · exact (lower_T i).1
    · rfl
  generalize learnW S (nI i) (nI l) = U at *
  have nU : nA U = nA S := by unfold nA; rw [(hX 453 (by decide)).1]
  have e486 : mI U 486 = mI S 486 := (hX 486 (by decide)).1
  have e456 : mT U 456 = mT S 456 := (hX 456 (by decide)).2.1
  have hWU := hU.1
  have leafU : ∀ h', (m = 1 ∨ mT U 456 (tn k) < mT U 475 i) → Rep w as U h' → HX MemX h h' → Q (some (.int 0)) h' := fun h' c z1 z2 => by
    have := hQ U as h' (by rw [if_pos c]) (fun _ _ => rfl) z1 (z2.sub (by decide))
    rw [e486, Int32.sub_self] at this
    exact this
  have hmU := hWU.2.2.2.2.2.2.2.1 _ hi
  have hakU := hWU.2.2.2.1 _ (by rw [nU]; exact hkk)
  refine J_aload dX6_serve_89 rfl isR_r ?_
  refine J_aload_n dX6_serve_91 rfl rfl isR_r ?_
  refine J_getI dX6_serve_92 g_X6_173 (by first | with_reducible assumption | (simp only [hK_sI, hK_sJ, hK_sR, hK_tI, hK_tJ, hK_tR]; with_reducible assumption)) ?_
  rw [hl]
  refine J_callV (cR) dX6_serve_95 ml_X6_297 mkX3_raiseLow rfl (by first | with_reducible assumption | (simp only [hK_sI, hK_sJ, hK_sR, hK_tI, hK_tJ, hK_tR]; with_reducible assumption)) (by decide) rfl rfl (Nat.le_of_ble_eq_true rfl) ⟨Nat.le_of_ble_eq_true rfl, Nat.le_of_ble_eq_true rfl⟩ ⟨Nat.le_of_ble_eq_true rfl, Nat.le_of_ble_eq_true rfl⟩ (fun v95 hp95 q95 => ?_)
  obtain ⟨rfl, z1, z2⟩ := q95
  obtain ⟨q0, q1, q2, q3, q4, -⟩ := z1.2.2.2.1.2.2.1 _ (by rw [nU]; exact hkk)
  have kM' := (Rep.mk z1.1 hi).1
  have o1' := z1.1.1.1
  have m3 := (z1.2.2.2.2.2.2 i hi).2.2.1
  rw [← (inN_tn hmU.2.1).1] at m3
  refine J_iload_n dX6_serve_98 rfl rfl ?_
  refine J_iconst (v := 1) dX6_serve_99 (by decide) ?_
  refine J_icmp_eq (tgt := 115) dX6_serve_100 (by decide) (fun c100 => ?_) (fun c100 => ?_)
  · refine J_iconst (v := 0) dX6_serve_115 (by decide) ?_
    exact J_ireturn dX6_serve_116 rfl (leafU _ (Or.inl c100) z1 z2) (Nat.le_of_ble_eq_true rfl) (Nat.le_of_ble_eq_true rfl)
  · refine J_aload_n dX6_serve_103 rfl rfl isR_r ?_
    refine J_getI dX6_serve_104 g_X6_105 (by first | with_reducible assumption | (simp only [hK_sI, hK_sJ, hK_sR, hK_tI, hK_tJ, hK_tR]; with_reducible assumption)) ?_
    refine J_aload dX6_serve_107 rfl isR_r ?_
    refine J_getI dX6_serve_109 g_X6_198 (by first | with_reducible assumption | (simp only [hK_sI, hK_sJ, hK_sR, hK_tI, hK_tJ, hK_tR]; with_reducible assumption)) ?_
    refine J_icmp_ge (tgt := 117) dX6_serve_112 (by decide) (fun c112 => ?_) (fun c112 => ?_)
    · have ng : ¬ (m = 1 ∨ mT U 456 (tn k) < mT U 475 i) := fun z => z.elim c100 (fun y => by rw [← q4, ← m3] at y; exact (i32_nle.mpr y) c112)
      have hge : tn (mT U 475 i) ≤ tn (mT U 456 (tn k)) := by
       have c := c112
       rw [q4, m3, (inN_tn hmU.2.1).1, (inN_tn hakU.1.2.2.1).1, nI_lei (inN_tn hmU.2.1).2.2 (inN_tn hakU.1.2.2.1).2.2] at c
       exact c
      have hr2 : rw_ U (tn k) = i := by
       unfold rw_
       rw [(hX 457 (by decide)).2.1, (hX 454 (by decide)).2.1]
       exact hii
      have e57 : mT S 457 (tn k) = mT U 457 (tn k) := by rw [(hX 457 (by decide)).2.1]
      rw [e57]
      refine serve_117 z1 hI1 hWU (fun j hj => by rw [(hX 467 (by decide)).2.1]; exact h467 j (nU ▸ hj)) (by omega) (by rw [nU]; exact hk) hr2 (by rw [hL4, (hX 455 (by decide)).2.1]; exact hlife) hge (by rw [(hX 448 (by decide)).1, e456]; have := hU.2; omega) (by unfold lv at hb ⊢; rw [(hX 485 (by decide)).1]; exact hb) (fun S1 as' h' y1 y2 y3 y4 => ?_)
      have := hQ S1 as' h' (by rw [if_neg ng, e57]; exact y1) (fun j hj => y2 j (nU.symm ▸ hj)) y3 ((z2.sub (by decide)).tr y4)
      rw [e486]
      exact this
    · refine J_iconst (v := 0) dX6_serve_115 (by decide) ?_
      exact J_ireturn dX6_serve_116 rfl (leafU _ (Or.inr (by rw [← q4, ← m3]; exact i32_nle.mp c112)) z1 z2) (Nat.le_of_ble_eq_true rfl) (Nat.le_of_ble_eq_true rfl)
set_option maxRecDepth 100000 in
set_option maxHeartbeats 4000000 in
theorem c_serve {k m : Int32} {q l : Nat} (hr : Rep w as S h) (hI1 : Inj w) (hW : WF2 g S) (h467 : ∀ k, nA S ≤ k → mT S 467 k = 0) (h7 : nR S + 1 < 700) (hk : inN k (nA S) = true) (hq : hK h q = 3) (hl : hI h 132 q = nI l) (hl1 : l < 400) (hlw : tn (mT S 456 (tn k)) < l + tn (mI S 448)) (hm : m = 1 ∨ m = 2 ∨ m = 3) (h485 : mI S 485 = bi (decide (m < 3))) : Mt x 5 kX6_serve 1 15 [.ref (w 0 0), .ref q, .ref (as (tn k)), .int m] h (fun z h' => z = some (.int (mI (workF S (mT S 457 (tn k)) k (nI l) (decide (m = 1))) 486 - mI S 486)) ∧ ∃ as' : Nat → Nat, (∀ j, j < nA S → as' j = as j) ∧ Rep w as' (workF S (mT S 457 (tn k)) k (nI l) (decide (m = 1))) h' ∧ HX ActX h h') := by
  refine Mt.ofJ mkX6_serve.1 (Nat.le_of_ble_eq_true rfl) ?_
  have hkk := (inN_tn hk).2.1
  obtain ⟨w1, w2, w3, w4, w5⟩ := hW.1.ask hk
  have ho : 10 * mT S 457 (tn k) + mT S 454 (tn k) = nI (rw_ S (tn k)) := (of_tn w2 w1).2
  generalize hii : rw_ S (tn k) = i at *
  have hi : i < 40 := by rw [← hii]; exact rw_lt hW.1 hkk
  obtain ⟨q0, q1, q2, q3, q4, q5, q6, q7, q8, q9, q10, -⟩ := hr.2.2.2.1.2.2.1 _ hkk
  have o1 := hr.1.1.1
  have kM := (Rep.mk hr.1 hi).1
  have hs4 := (inN_tn w2).2.1
  have m2 := (hr.2.2.2.2.2.2 i hi).2.1
  have hak := hW.2.2.2.1 _ hkk
  have hmw := hW.2.2.2.2.2.2.2.1 _ hi
  obtain ⟨hT1, hT2⟩ := WF2_learnL hW hk
  rw [hii] at hT1 hT2
  generalize hQ : (fun z h' => z = some (Value.int (mI (workF S (mT S 457 (tn k)) k (nI l) (decide (m = 1))) 486 - mI S 486)) ∧ ∃ as' : Nat → Nat, (∀ j, j < nA S → as' j = as j) ∧ Rep w as' (workF S (mT S 457 (tn k)) k (nI l) (decide (m = 1))) h' ∧ HX ActX h h') = Q
  have leaf : ∀ (S1 : Ms) (as' : Nat → Nat) (h' : Hp), workF S (mT S 457 (tn k)) k (nI l) (decide (m = 1)) = S1 → (∀ j, j < nA S → as' j = as j) → Rep w as' S1 h' → HX ActX h h' → Q (some (.int (mI S1 486 - mI S 486))) h' := fun S1 as' h' e z1 z2 z3 => by
    rw [← hQ]
    show _ ∧ _
    rw [e]
    exact ⟨rfl, as', z1, z2, z3⟩
  have hF : workF S (mT S 457 (tn k)) k (nI l) (decide (m = 1)) = if mT S 455 (tn k) < mT S 474 i then (if m = 1 then S else sendF S k true (-3)) else if m = 1 ∨ mT (learnW (learnL S (nI i) k) (nI i) (nI l)) 456 (tn k) < mT (learnW (learnL S (nI i) k) (nI i) (nI l)) 475 i then learnW (learnL S (nI i) k) (nI i) (nI l) else work2 (learnW (learnL S (nI i) k) (nI i) (nI l)) (mT S 457 (tn k)) (nI i) k := by
    unfold workF
    simp only [ho, decide_eq_true_eq, tn_nI (show i < 2147483648 by omega)]
  have hlv : ∀ b : Int32, (b = if m = 3 then 1 else 0) → lv S b := fun b e => by
    unfold lv
    rw [h485, e]
    rcases hm with z | z | z <;> subst z <;> decide
  have tail : ∀ b : Int32, lv S b → J x (om_m x 5 1 15 Q) kX6_serve 46 [(0, .ref (w 0 0)), (1, .ref q), (2, .ref (as (tn k))), (3, .int m), (4, .ref (w 8 (tn (mT S 457 (tn k))))), (5, .ref (w 11 i))] [.int b] h 0 0 := fun b hb => by
    by_cases c1 : mT S 455 (tn k) < mT S 474 i
    · rw [if_pos c1] at hF
      have hF2 : workF S (mT S 457 (tn k)) k (nI l) (decide (m = 1)) = sendF S k true (-3) := by
        rw [hF]
        by_cases z : m = 1
        · rw [if_pos z]
          unfold sendF
          rw [if_pos (by rw [h485, z]; decide)]
        · rw [if_neg z]
      refine J_istore dX6_serve_46 (by decide) ?_
      refine J_aload_n dX6_serve_48 rfl rfl isR_r ?_
      refine J_getI dX6_serve_49 g_X6_102 (by first | with_reducible assumption | (simp only [hK_sI, hK_sJ, hK_sR, hK_tI, hK_tJ, hK_tR]; with_reducible assumption)) ?_
      refine J_aload dX6_serve_52 rfl isR_r ?_
      refine J_getI dX6_serve_54 g_X6_195 (by first | with_reducible assumption | (simp only [hK_sI, hK_sJ, hK_sR, hK_tI, hK_tJ, hK_tR]; with_reducible assumption)) ?_
      refine J_icmp_ge (tgt := 68) dX6_serve_57 (by decide) (fun c57 => ((i32_nle.mpr c1) (by rw [← m2, ← q3]; exact c57)).elim) (fun c57 => ?_)
      refine J_aload_n dX6_serve_60 rfl rfl isR_r ?_
      refine J_aload_n dX6_serve_61 rfl rfl isR_r ?_
      refine J_iload dX6_serve_62 rfl ?_
      refine J_pc (pc' := 64) rfl ?_
      refine J_callV (c_sendOver (a := k) hr hW.1 hk hb) dX6_serve_64 ml_X6_294 mkX6_sendOver rfl (by first | with_reducible assumption | (simp only [hK_sI, hK_sJ, hK_sR, hK_tI, hK_tJ, hK_tR]; with_reducible assumption)) (by decide) rfl rfl (Nat.le_of_ble_eq_true rfl) ⟨Nat.le_of_ble_eq_true rfl, Nat.le_of_ble_eq_true rfl⟩ ⟨Nat.le_of_ble_eq_true rfl, Nat.le_of_ble_eq_true rfl⟩ (fun v64 hp64 q64 => ?_)
      obtain ⟨rfl, z1, z2⟩ := q64
      exact J_ireturn dX6_serve_67 rfl (leaf _ as _ hF2 (fun _ _ => rfl) z1 (z2.sub (by decide))) (Nat.le_of_ble_eq_true rfl) (Nat.le_of_ble_eq_true rfl)
    · rw [if_neg c1] at hF
      have hLF := learnL_F (S := S) (k := k) hi
      by_cases c2 : mT S 474 i < mT S 455 (tn k)
      · rw [if_pos c2] at hLF
        have cL := c_lifeR (x := x) (lv := mT S 455 (tn k)) hr hI1 hW.1 hi (hW.lo hi)
        rw [← hLF] at cL
        have hX := SX_learnL (S := S) (k := k) hi
        have hlf : mT (learnL S (nI i) k) 474 i = mT S 455 (tn k) := by rw [hLF, (life_T i).1, if_pos rfl]
        have hRT : nR (learnL S (nI i) k) ≤ nR S := (WF1_learnL hW.1 (nI i) k).2
        generalize learnL S (nI i) k = T at *
        have nT : nA T = nA S := by unfold nA; rw [(hX 453 (by decide)).1]
        have e57 : mT S 457 (tn k) = mT T 457 (tn k) := by rw [(hX 457 (by decide)).2.1]
        refine J_istore dX6_serve_46 (by decide) ?_
        refine J_aload_n dX6_serve_48 rfl rfl isR_r ?_
        refine J_getI dX6_serve_49 g_X6_102 (by first | with_reducible assumption | (simp only [hK_sI, hK_sJ, hK_sR, hK_tI, hK_tJ, hK_tR]; with_reducible assumption)) ?_
        refine J_aload dX6_serve_52 rfl isR_r ?_
        refine J_getI dX6_serve_54 g_X6_195 (by first | with_reducible assumption | (simp only [hK_sI, hK_sJ, hK_sR, hK_tI, hK_tJ, hK_tR]; with_reducible assumption)) ?_
        refine J_icmp_ge (tgt := 68) dX6_serve_57 (by decide) (fun c57 => ?_) (fun c57 => (c1 (by rw [← m2, ← q3]; exact i32_nle.mp c57)).elim)
        refine J_aload_n dX6_serve_68 rfl rfl isR_r ?_
        refine J_getI dX6_serve_69 g_X6_102 (by first | with_reducible assumption | (simp only [hK_sI, hK_sJ, hK_sR, hK_tI, hK_tJ, hK_tR]; with_reducible assumption)) ?_
        refine J_aload dX6_serve_72 rfl isR_r ?_
        refine J_pc (pc' := 74) rfl ?_
        refine J_getI dX6_serve_74 g_X6_195 (by first | with_reducible assumption | (simp only [hK_sI, hK_sJ, hK_sR, hK_tI, hK_tJ, hK_tR]; with_reducible assumption)) ?_
        refine J_icmp_le (tgt := 89) dX6_serve_77 (by decide) (fun c77 => ((i32_nle.mpr c2) (by rw [← m2, ← q3]; exact c77)).elim) (fun c77 => ?_)
        refine J_aload dX6_serve_80 rfl isR_r ?_
        refine J_aload_n dX6_serve_82 rfl rfl isR_r ?_
        refine J_getI dX6_serve_83 g_X6_102 (by first | with_reducible assumption | (simp only [hK_sI, hK_sJ, hK_sR, hK_tI, hK_tJ, hK_tR]; with_reducible assumption)) ?_
        rw [q3]
        refine J_callV (cL) dX6_serve_86 ml_X6_211 mkX3_beginLife rfl (by first | with_reducible assumption | (simp only [hK_sI, hK_sJ, hK_sR, hK_tI, hK_tJ, hK_tR]; with_reducible assumption)) (by decide) rfl rfl (Nat.le_of_ble_eq_true rfl) ⟨Nat.le_of_ble_eq_true rfl, Nat.le_of_ble_eq_true rfl⟩ ⟨Nat.le_of_ble_eq_true rfl, Nat.le_of_ble_eq_true rfl⟩ (fun v86 hp86 q86 => ?_)
        obtain ⟨rfl, z1, z2⟩ := q86
        rw [e57]
        refine J_loc _ rfl (serve_89 (i := i) (l := l) z1 hI1 hT1 (fun j hj => by rw [(hX 467 (by decide)).2.1]; exact h467 j (nT ▸ hj)) (by omega) (by rw [nT]; exact hk) ?_ (by rw [hlf, (hX 455 (by decide)).2.1]) (by rw [(z2.1 q (by rw [hq]; decide)).1]; exact hq) (by rw [(z2.2.1 132 q (by decide) (by rw [hq]; decide)).1]; exact hl) hl1 (by rw [(hX 456 (by decide)).2.1, (hX 448 (by decide)).1]; exact hlw) (by unfold lv at hb ⊢; rw [(hX 485 (by decide)).1]; exact hb) (fun S1 as' h' y1 y2 y3 y4 => ?_))
        · unfold rw_
          rw [(hX 457 (by decide)).2.1, (hX 454 (by decide)).2.1]
          exact hii
        · rw [← e57] at y1
          have := leaf S1 as' h' (hF.trans y1) (fun j hj => y2 j (nT.symm ▸ hj)) y3 ((z2.sub (by decide)).tr y4)
          rw [(hX 486 (by decide)).1]
          exact this
      · rw [if_neg c2] at hLF
        rw [hLF] at hF
        have heq : mT S 455 (tn k) = mT S 474 i := by
          rw [n_lt] at c1 c2
          rw [n_eq]
          omega
        refine J_istore dX6_serve_46 (by decide) ?_
        refine J_aload_n dX6_serve_48 rfl rfl isR_r ?_
        refine J_getI dX6_serve_49 g_X6_102 (by first | with_reducible assumption | (simp only [hK_sI, hK_sJ, hK_sR, hK_tI, hK_tJ, hK_tR]; with_reducible assumption)) ?_
        refine J_aload dX6_serve_52 rfl isR_r ?_
        refine J_getI dX6_serve_54 g_X6_195 (by first | with_reducible assumption | (simp only [hK_sI, hK_sJ, hK_sR, hK_tI, hK_tJ, hK_tR]; with_reducible assumption)) ?_
        refine J_icmp_ge (tgt := 68) dX6_serve_57 (by decide) (fun c57 => ?_) (fun c57 => (c1 (by rw [← m2, ← q3]; exact i32_nle.mp c57)).elim)
        refine J_aload_n dX6_serve_68 rfl rfl isR_r ?_
        refine J_getI dX6_serve_69 g_X6_102 (by first | with_reducible assumption | (simp only [hK_sI, hK_sJ, hK_sR, hK_tI, hK_tJ, hK_tR]; with_reducible assumption)) ?_
        refine J_aload dX6_serve_72 rfl isR_r ?_
        refine J_pc (pc' := 74) rfl ?_
        refine J_getI dX6_serve_74 g_X6_195 (by first | with_reducible assumption | (simp only [hK_sI, hK_sJ, hK_sR, hK_tI, hK_tJ, hK_tR]; with_reducible assumption)) ?_
        refine J_icmp_le (tgt := 89) dX6_serve_77 (by decide) (fun c77 => ?_) (fun c77 => (c2 (by rw [← m2, ← q3]; exact i32_nle.mp c77)).elim)
        exact J_loc _ rfl (serve_89 (i := i) (l := l) hr hI1 hW h467 h7 hk hii heq hq hl hl1 hlw hb (fun S1 as' h' y1 y2 y3 y4 => leaf S1 as' h' (hF.trans y1) y2 y3 y4))
  refine J_aload_n dX6_serve_0 rfl rfl isR_r ?_
  refine J_aload_n dX6_serve_1 rfl rfl isR_r ?_
  refine J_getI dX6_serve_2 g_X6_108 (by first | with_reducible assumption | (simp only [hK_sI, hK_sJ, hK_sR, hK_tI, hK_tJ, hK_tR]; with_reducible assumption)) ?_
  rw [q5]
  refine J_callV (c_serverOf hr.1) dX6_serve_5 ml_X6_51 mkX6_serverOf rfl (by first | with_reducible assumption | (simp only [hK_sI, hK_sJ, hK_sR, hK_tI, hK_tJ, hK_tR]; with_reducible assumption)) (by decide) rfl rfl (Nat.le_of_ble_eq_true rfl) ⟨Nat.le_of_ble_eq_true rfl, Nat.le_of_ble_eq_true rfl⟩ ⟨Nat.le_of_ble_eq_true rfl, Nat.le_of_ble_eq_true rfl⟩ (fun v5 hp5 q5 => ?_)
  obtain ⟨rfl, z5⟩ := q5
  rw [z5]
  rw [if_pos w2]
  refine J_astore dX6_serve_8 isR_r (by decide) ?_
  refine J_aload_n dX6_serve_10 rfl rfl isR_r ?_
  refine J_aload_n dX6_serve_11 rfl rfl isR_r ?_
  refine J_getI dX6_serve_12 g_X6_108 (by first | with_reducible assumption | (simp only [hK_sI, hK_sJ, hK_sR, hK_tI, hK_tJ, hK_tR]; with_reducible assumption)) ?_
  refine J_pc (pc' := 15) rfl ?_
  refine J_aload_n dX6_serve_15 rfl rfl isR_r ?_
  refine J_getI dX6_serve_16 g_X6_89 (by first | with_reducible assumption | (simp only [hK_sI, hK_sJ, hK_sR, hK_tI, hK_tJ, hK_tR]; with_reducible assumption)) ?_
  rw [q5, q2]
  refine J_callV (c_memoryOf hr.1) dX6_serve_19 ml_X6_191 mkX6_memoryOf rfl (by first | with_reducible assumption | (simp only [hK_sI, hK_sJ, hK_sR, hK_tI, hK_tJ, hK_tR]; with_reducible assumption)) (by decide) rfl rfl (Nat.le_of_ble_eq_true rfl) ⟨Nat.le_of_ble_eq_true rfl, Nat.le_of_ble_eq_true rfl⟩ ⟨Nat.le_of_ble_eq_true rfl, Nat.le_of_ble_eq_true rfl⟩ (fun v19 hp19 q19 => ?_)
  obtain ⟨rfl, z19⟩ := q19
  rw [z19]
  rw [if_pos ⟨w2, w1⟩, show 10 * tn (mT S 457 (tn k)) + tn (mT S 454 (tn k)) = i from hii]
  refine J_astore dX6_serve_22 isR_r (by decide) ?_
  refine J_aload dX6_serve_24 rfl isR_r ?_
  refine J_ifnull_r dX6_serve_26 ?_
  refine J_aload dX6_serve_29 rfl isR_r ?_
  refine J_ifnonnull_r (tgt := 36) dX6_serve_31 (by decide) ?_
  refine J_iload_n dX6_serve_36 rfl rfl ?_
  refine J_pc (pc' := 37) rfl ?_
  refine J_iconst (v := 3) dX6_serve_37 (by decide) ?_
  refine J_icmp_ne (tgt := 45) dX6_serve_38 (by decide) (fun c38 => ?_) (fun c38 => ?_)
  · refine J_iconst (v := 0) dX6_serve_45 (by decide) ?_
    exact J_loc _ rfl (tail 0 (hlv 0 (by rw [if_neg c38])))
  · refine J_iconst (v := 1) dX6_serve_41 (by decide) ?_
    refine J_goto (tgt := 46) dX6_serve_42 (by decide) ?_
    exact J_loc _ rfl (tail 1 (hlv 1 (by rw [if_pos c38])))
end SV
