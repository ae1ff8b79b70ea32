/-! a new ASK -/
section NW
variable {x : om_x} {w : om_w} {h h' : Hp} {as : Nat → Nat} {S S' : Ms} {g : Nat}
theorem new_T {n sv kind a b t amt far : Int32} (j : Nat) : mT (newAskF S n sv kind a b t amt far) 454 j = (if j = nA S then n else mT S 454 j) ∧ mT (newAskF S n sv kind a b t amt far) 455 j = (if j = nA S then mT S 450 (tn n) else mT S 455 j) ∧ mT (newAskF S n sv kind a b t amt far) 456 j = (if j = nA S then mT S 451 (tn n) else mT S 456 j) ∧ mT (newAskF S n sv kind a b t amt far) 451 j = (if j = tn n then mT S 451 (tn n) + 1 else mT S 451 j) ∧ mT (newAskF S n sv kind a b t amt far) 457 j = (if j = nA S then sv else mT S 457 j) ∧ mT (newAskF S n sv kind a b t amt far) 458 j = (if j = nA S then kind else mT S 458 j) ∧ mT (newAskF S n sv kind a b t amt far) 459 j = (if j = nA S then a else mT S 459 j) ∧ mT (newAskF S n sv kind a b t amt far) 460 j = (if j = nA S then b else mT S 460 j) ∧ mT (newAskF S n sv kind a b t amt far) 461 j = (if j = nA S then t else mT S 461 j) ∧ mT (newAskF S n sv kind a b t amt far) 462 j = (if j = nA S then amt else mT S 462 j) ∧ mT (newAskF S n sv kind a b t amt far) 463 j = (if j = nA S then 0 else mT S 463 j) ∧ mT (newAskF S n sv kind a b t amt far) 465 j = (if j = nA S then far else mT S 465 j) ∧ mT (newAskF S n sv kind a b t amt far) 466 j = (if j = nA S then -1 else mT S 466 j) := by
  unfold newAskF
  refine ⟨?_, ?_, ?_, ?_, ?_, ?_, ?_, ?_, ?_, ?_, ?_, ?_, ?_⟩ <;> simp [mT_pT, mT_pI]
theorem SX_new {n sv kind a b t amt far : Int32} : SX [453, 454, 455, 456, 451, 457, 458, 459, 460, 461, 462, 463, 465, 466] S (newAskF S n sv kind a b t amt far) := by
  unfold newAskF
  exact (SX_pI (by decide)).tr ((SX_pT (by decide)).tr ((SX_pT (by decide)).tr ((SX_pT (by decide)).tr ((SX_pT (by decide)).tr ((SX_pT (by decide)).tr ((SX_pT (by decide)).tr ((SX_pT (by decide)).tr ((SX_pT (by decide)).tr ((SX_pT (by decide)).tr ((SX_pT (by decide)).tr ((SX_pT (by decide)).tr ((SX_pT (by decide)).tr (SX_pT (by decide))))))))))))))
theorem new_n {n sv kind a b t amt far : Int32} (hW : WF1 S) (h3 : nA S < 300) : mI (newAskF S n sv kind a b t amt far) 453 = nI (nA S + 1) ∧ nA (newAskF S n sv kind a b t amt far) = nA S + 1 := by
  have e := inN_tn hW.1.1
  have e3 : mI (newAskF S n sv kind a b t amt far) 453 = nI (nA S + 1) := by
    unfold newAskF
    simp only [mI_pT]
    rw [mI_pI, if_pos rfl]
    conv => lhs; rw [e.1]
    exact nI_inc1 _
  refine ⟨e3, ?_⟩
  show tn (mI (newAskF S n sv kind a b t amt far) 453) = _
  rw [e3, tn_nI (by omega)]
def asN (as : Nat → Nat) (S : Ms) (q : Nat) : Nat → Nat := fun k => if k = nA S then q else as k
theorem asN_old {q k : Nat} (hk : k < nA S) : asN as S q k = as k := by unfold asN; rw [if_neg (by omega)]
theorem asN_new {q : Nat} : asN as S q (nA S) = q := by unfold asN; rw [if_pos rfl]
theorem lnk_N {q : Nat} {v : Int32} (hv : v = -1 ∨ inN v (nA S) = true) : lnk (asN as S q) v = lnk as v := by
  by_cases e : v = -1
  · rw [lnk_n e, lnk_n e]
  · have e2 := hv.resolve_left e
    rw [lnk_r e2, lnk_r e2, asN_old (inN_tn e2).2.1]
theorem Rep_new {n q nx m : Nat} {sv kind a b t amt : Int32} (hr : Rep w as S h) (hI1 : Inj w) (hW : WF2 g S) (hn : n < 10) (hq : hK h q = 0) (h3 : nA S < 300) (hH : HX [389, 313, 329, 67] h h') (kq : hK h' q = 1)
    (f0 : hI h' 0 q = nI (nA S)) (f1 : hI h' 1 q = nI n) (f2 : hI h' 2 q = mT S 450 n) (f3 : hI h' 3 q = mT S 451 n) (f4 : hI h' 4 q = sv) (f5 : hI h' 5 q = kind) (f6 : hI h' 6 q = a) (f7 : hI h' 7 q = b) (f8 : hI h' 8 q = t) (f9 : hI h' 9 q = amt) (f10 : hI h' 10 q = 0) (f12 : hI h' 12 q = 0) (f13 : hR h' 13 q = none) (f14 : hR h' 14 q = none)
    (h467 : mT S 467 (nA S) = 0)
    (e389 : hI h' 389 (w 0 0) = nI (nA S + 1)) (a43 : ∀ j, aR h' 43 (w 3 0) j = if j = nA S then some q else aR h 43 (w 3 0) j) (a59 : ∀ j, aR h' 59 (w 7 n) j = if j = nx % 16 then some q else aR h 59 (w 7 n) j) (a59' : ∀ i, i < 10 → i ≠ n → aR h' 59 (w 7 i) = aR h 59 (w 7 i)) (e67 : hI h' 67 (w 6 n) = nI (nx + 1)) (e67' : ∀ i, i < 10 → i ≠ n → hI h' 67 (w 6 i) = hI h 67 (w 6 i)) (hnx : mT S 451 n = nI nx) (hx : nx + 1 < 1000) (hm : hI h 68 (w 6 n) = nI m) (hm2 : m < 1000) (hm3 : nx < m + 16) : Rep w (asN as S q) (newAskF S (nI n) sv kind a b t amt (-1)) h' := by
  have hS := SX_new (S := S) (n := nI n) (sv := sv) (kind := kind) (a := a) (b := b) (t := t) (amt := amt) (far := -1)
  obtain ⟨n1, n2⟩ := new_n (n := nI n) (sv := sv) (kind := kind) (a := a) (b := b) (t := t) (amt := amt) (far := -1) hW.1 h3
  have tnn : tn (nI n) = n := tn_nI (by omega)
  have hnew := fun j => new_T (S := S) (n := nI n) (sv := sv) (kind := kind) (a := a) (b := b) (t := t) (amt := amt) (far := -1) j
  rw [tnn] at hnew
  generalize hS' : newAskF S (nI n) sv kind a b t amt (-1) = S' at *
  obtain ⟨a1, a2, a3, a4, a5, a6, a7⟩ := hr
  have k0 : hK h (w 0 0) ≠ 0 := by rw [a1.1.1]; decide
  have k3 : hK h (w 3 0) ≠ 0 := by rw [a1.2.1.2.2.1.1]; decide
  have k4 : hK h (w 4 0) ≠ 0 := by rw [a1.2.1.2.2.2.1.1]; decide
  refine ⟨a1.x hH (by decide), ?_, fun i hi => ?_, ?_, ?_, a6.x hS hH (by decide) (by decide) a1, a7.x hS hH (by decide) (by decide) a1⟩
  · obtain ⟨t1, t2, t3, t4, t5, t6⟩ := a2
    unfold RTop
    rw [(hH.2.1 384 _ (by decide) k0).1, e389, (hH.2.1 390 _ (by decide) k0).1, (hH.2.1 256 _ (by decide) k4).1, (hH.2.1 257 _ (by decide) k4).1, (hH.2.1 258 _ (by decide) k4).1, n1, (hS 448 (by decide)).1, (hS 484 (by decide)).1, (hS 468 (by decide)).1, (hS 482 (by decide)).1, (hS 483 (by decide)).1]
    exact ⟨t1, rfl, t3, t4, t5, t6⟩
  · obtain ⟨-, u2, -, -, u5, -⟩ := a1.2.2.1 i hi
    have k6 : hK h (w 6 i) ≠ 0 := by rw [u2]; decide
    obtain ⟨⟨r1, r1b, r1c⟩, ⟨lw, nx', r2, r3, r3b, r4, r5, r5b, r6⟩, r7⟩ := a3 i hi
    rw [n2, (hH.2.1 65 _ (by decide) k6).1, (hH.2.1 66 _ (by decide) k6).1, (hH.2.1 68 _ (by decide) k6).1, (hS 449 (by decide)).2.1, (hS 450 (by decide)).2.1]
    by_cases ein : i = n
    · subst ein
      have em : lw = m := by
        have := congrArg tn (r2.symm.trans hm)
        rw [tn_nI (by omega), tn_nI (by omega)] at this
        exact this
      have ex : nx' = nx := by
        have := congrArg tn (r3.symm.trans hnx)
        rw [tn_nI (by omega), tn_nI (by omega)] at this
        exact this
      subst em
      subst ex
      have e451 : mT S' 451 i = nI (nx' + 1) := by rw [(hnew i).2.2.2.1, if_pos rfl, r3, nI_inc1]
      refine ⟨⟨r1, r1b, by rw [e67, e451]⟩, ⟨lw, nx' + 1, r2, e451, hx, r4, by omega, by omega, fun k j1 j2 j3 => ?_⟩, fun j hj => ?_⟩
      · rw [(hnew k).1] at j2
        rw [(hnew k).2.2.2.2.2.2.2.2.2.2.1] at j3
        rw [(hnew k).2.2.1]
        by_cases ek : k = nA S
        · rw [if_pos ek, ek, asN_new]
          exact ⟨nx', r3, by omega, by omega, by rw [a59, if_pos rfl]⟩
        · rw [if_neg ek] at j2 j3 ⊢
          rw [asN_old (by omega)]
          obtain ⟨num, p1, p2, p3, p4⟩ := r6 k (by omega) j2 j3
          exact ⟨num, p1, p2, by omega, by rw [a59, if_neg (by omega)]; exact p4⟩
      · rw [a59]
        by_cases ej : j = nx' % 16
        · right
          exact ⟨nA S, by omega, by rw [if_pos ej, asN_new], by rw [(hnew _).1, if_pos rfl], nx', by rw [(hnew _).2.2.1, if_pos rfl]; exact r3, by omega, ej.symm⟩
        · rw [if_neg ej]
          rcases r7 j hj with e | ⟨k, p1, p2, p3, num, p4, p5, p6⟩
          · exact Or.inl e
          · right
            exact ⟨k, by omega, by rw [asN_old p1]; exact p2, by rw [(hnew _).1, if_neg (by omega)]; exact p3, num, by rw [(hnew _).2.2.1, if_neg (by omega)]; exact p4, p5, p6⟩
    · rw [e67' i hi ein, a59' i hi ein, (hnew i).2.2.2.1, if_neg ein]
      refine ⟨⟨r1, r1b, r1c⟩, ⟨lw, nx', r2, r3, r3b, r4, r5, r5b, fun k j1 j2 j3 => ?_⟩, fun j hj => ?_⟩
      · rw [(hnew k).1] at j2
        rw [(hnew k).2.2.2.2.2.2.2.2.2.2.1] at j3
        rw [(hnew k).2.2.1]
        by_cases ek : k = nA S
        · rw [if_pos ek] at j2
          exact absurd (by have := congrArg tn j2; rw [tn_nI (by omega), tn_nI (by omega)] at this; exact this.symm) ein
        · rw [if_neg ek] at j2 j3 ⊢
          rw [asN_old (by omega)]
          exact r6 k (by omega) j2 j3
      · rcases r7 j hj with e | ⟨k, p1, p2, p3, num, p4, p5, p6⟩
        · exact Or.inl e
        · right
          exact ⟨k, by omega, by rw [asN_old p1]; exact p2, by rw [(hnew _).1, if_neg (by omega)]; exact p3, num, by rw [(hnew _).2.2.1, if_neg (by omega)]; exact p4, p5, p6⟩
  · obtain ⟨r1, r2, r3, r4⟩ := a4
    refine ⟨fun k hk => ?_, fun k hk hk2 => ?_, fun k hk => ?_, fun k l hk hl e => ?_⟩
    · rw [a43]
      by_cases ek : k = nA S
      · rw [if_pos ek, ek, asN_new]
      · rw [if_neg ek, asN_old (by omega)]
        exact r1 k (by omega)
    · rw [a43, if_neg (by omega)]
      exact r2 k (by omega) hk2
    · obtain ⟨m1, m2, m3, m4, m5, m6, m7, m8, m9, m10, m11, m12, m13⟩ := hnew k
      unfold AskOK
      rw [m1, m2, m3, m5, m6, m7, m8, m9, m10, m11, m12, m13, (hS 464 (by decide)).2.2, (hS 467 (by decide)).2.1]
      by_cases ek : k = nA S
      · simp only [if_pos ek]
        rw [ek, asN_new, h467]
        exact ⟨kq, f0, f1, f2, f3, f4, f5, f6, fun _ => ⟨f7, f8⟩, f9, f10, fun z => absurd z (by decide), f12, by rw [f13]; rfl, by rw [f14]; rfl⟩
      · simp only [if_neg ek]
        have hk' : k < nA S := by omega
        have c := r3 k hk'
        have kk : hK h (as k) ≠ 0 := by rw [c.1]; decide
        rw [asN_old hk', lnk_N (hW.far hk'), lnk_N (hW.own hk')]
        rw [(hH.1 _ kk).1, (hH.2.1 0 _ (by decide) kk).1, (hH.2.1 1 _ (by decide) kk).1, (hH.2.1 2 _ (by decide) kk).1, (hH.2.1 3 _ (by decide) kk).1, (hH.2.1 4 _ (by decide) kk).1, (hH.2.1 5 _ (by decide) kk).1, (hH.2.1 6 _ (by decide) kk).1, (hH.2.1 7 _ (by decide) kk).1, (hH.2.1 8 _ (by decide) kk).1, (hH.2.1 9 _ (by decide) kk).1, (hH.2.1 10 _ (by decide) kk).1, (hH.2.1 11 _ (by decide) kk).2.1, (hH.2.1 12 _ (by decide) kk).1, (hH.2.1 13 _ (by decide) kk).2.2, (hH.2.1 14 _ (by decide) kk).2.2]
        exact c
    · have old : ∀ k, k < nA S → as k ≠ q := fun k hk z => by have := (r3 k hk).1; rw [z, hq] at this; exact absurd this (by decide)
      by_cases ek : k = nA S
      · by_cases el : l = nA S
        · omega
        · rw [ek, asN_new, asN_old (by omega)] at e
          exact absurd e.symm (old l (by omega))
      · by_cases el : l = nA S
        · rw [el, asN_new, asN_old (by omega)] at e
          exact absurd e (old k (by omega))
        · rw [asN_old (by omega), asN_old (by omega)] at e
          exact r4 k l (by omega) (by omega) e
  · refine RLet.x hS hH (by decide) (by decide) a1 (Rep_memw (fun k hk => asN_old hk) (fun i hi => ?_) a5)
    exact (inN_tn (hW.1.2.2.1 i hi)).2.1
end NW
