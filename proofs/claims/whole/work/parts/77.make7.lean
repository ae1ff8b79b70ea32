/-! the reference's constructor -/
section M7
variable {x : om_x} {h h' h0 h1 h2 : Hp} {b : Nat}
def MIp (h0 : Hp) (D : List Nat) (y : Nat) (h : Hp) : Prop := Old h0 h y ∧ hK h y = 8 ∧ (∀ f, hI h f y = 0) ∧ ∃ yy : Nat → Nat, ∀ f, f ∈ D → hR h f y = some (yy f) ∧ hK h (yy f) = mr f ∧ hN h (yy f) = ml f ∧ (∀ j, aI h (mr f) (yy f) j = 0 ∧ aJ h (mr f) (yy f) j = 0) ∧ hK h0 (yy f) = 0
theorem MIp_step {D : List Nat} {y a f : Nat} {g : Hp} (m : MIp h0 D y h) (e : hK h a = 0) (n : New h g) (k : hK g a = mr f) (l : hN g a = ml f) (z : ∀ j, aI g (mr f) a j = 0 ∧ aJ g (mr f) a j = 0) (hf : f ∉ D) : MIp h0 (f :: D) y (sR g f y (some a)) := by
  obtain ⟨o, ky, hz, yy, hy⟩ := m
  have ky0 : hK h y ≠ 0 := by rw [ky]; decide
  refine ⟨Old_tr o (Old_tr (Old_New n) Old_sR), by rw [hK_sR, (n y ky0).1]; exact ky, fun g2 => by rw [hI_sR, ((n y ky0).2.2.1 g2).1]; exact hz g2, up1 yy f a, fun f2 hf2 => ?_⟩
  by_cases c : f2 = f
  · rw [c, up1_self, hR_sR, if_pos ⟨rfl, rfl⟩, hK_sR, hN_sR]
    exact ⟨rfl, k, l, fun j => by rw [aI_sR, aJ_sR]; exact z j, fresh_back o ky0 e⟩
  · have hin : f2 ∈ D := (List.mem_cons.mp hf2).resolve_left c
    obtain ⟨u1, u2, u3, u4, u5⟩ := hy f2 hin
    have ky2 : hK h (yy f2) ≠ 0 := by rw [u2]; unfold mr; omega
    have ce := n _ ky2
    rw [up1_ne _ _ c, hR_sR, if_neg (fun z => c z.1), ((n y ky0).2.2.1 f2).2.2, hK_sR, ce.1, hN_sR, ce.2.1]
    exact ⟨u1, u2, u3, fun j => by rw [aI_sR, aJ_sR, (ce.2.2.2 _ j).1, (ce.2.2.2 _ j).2.1]; exact u4 j, u5⟩
def zS : Ms := (fun _ => 0, fun _ _ => 0, fun _ _ => 0)
def lifeI (S : Ms) : Nat → Ms
  | 0 => S
  | j + 1 => pT (pT (lifeI S j) 450 j 1) 451 j 1
def lowI (S : Ms) : Nat → Ms
  | 0 => S
  | j + 1 => pT (lowI S j) 475 j 1
def mS0 (wn : Int32) : Ms := lowI (lifeI (pI zS 448 wn) 10) 40
theorem CE_tI {t a i : Nat} {v : Int32} (hb : b ≠ a) : CE h (tI h t a i v) b := ⟨by rw [hK_tI], by rw [hN_tI], fun g => ⟨by rw [hI_tI], by rw [hJ_tI], by rw [hR_tI]⟩, fun u j => ⟨by rw [aI_tI, if_neg (fun z => hb z.2.1)], by rw [aJ_tI], by rw [aR_tI]⟩⟩
theorem Old_tI {a q t i : Nat} {v : Int32} (e : hK h q = 0) (a1 : Old h h1 a) : Old h (tI h1 t q i v) a := fun b z y => CE_tr (a1 b z y) (CE_tI (fun u => by rw [u] at z; exact z e))
theorem clampW_lo {v : Int32} (c : ¬ (1 : Int32) ≤ v) : clampW v = 1 := by
  unfold clampW
  rw [n_le] at c
  have i1 : (1 : Int32).toInt = 1 := by decide
  have i16 : (16 : Int32).toInt = 16 := by decide
  rw [if_pos (show v < 16 by rw [n_lt]; omega), if_neg (show ¬ (1 : Int32) < v by rw [n_lt]; omega)]
theorem clampW_mid {v : Int32} (c : (1 : Int32) ≤ v) (c2 : v ≤ 16) : clampW v = v := by
  unfold clampW
  rw [n_le] at c c2
  have i1 : (1 : Int32).toInt = 1 := by decide
  have i16 : (16 : Int32).toInt = 16 := by decide
  by_cases d : v < 16
  · rw [if_pos d]
    by_cases d2 : 1 < v
    · rw [if_pos d2]
    · rw [if_neg d2, n_eq]
      rw [n_lt] at d2
      omega
  · rw [if_neg d, if_pos (by decide), n_eq]
    rw [n_lt] at d
    omega
theorem clampW_hi {v : Int32} (c : ¬ v ≤ (16 : Int32)) : clampW v = 16 := by
  unfold clampW
  rw [n_le] at c
  rw [if_neg (show ¬ v < 16 by rw [n_lt]; omega), if_pos (by decide)]
set_option maxRecDepth 100000 in
set_option maxHeartbeats 4000000 in
theorem c_init7 {a : Nat} {v : Int32} (hk : hK h a = 8) (hz : ∀ f, hI h f a = 0 ∧ hJ h f a = 0 ∧ hR h f a = none) : Mt x 1 kX7_init 30 8439 [.ref a, .int v] h (fun z h' => z = none ∧ Old h h' a ∧ ∃ yy, RepM (a, yy) (mS0 (clampW v)) h') := by
  refine Mt.ofJ mkX7_init.1 (Nat.le_of_ble_eq_true rfl) ?_
  generalize hQ : (fun z h' => z = none ∧ Old h h' a ∧ ∃ yy : Nat → Nat, RepM (a, yy) (mS0 (clampW v)) h') = Q
  have lp2 : ∀ (yy : Nat → Nat) (S : Ms), hK h (yy 475) = 0 → lowI S 40 = mS0 (clampW v) → ∀ m j hc, j + m = 40 → Old h hc a → RepM (a, yy) (lowI S j) hc → J x (om_m x 1 30 8439 Q) kX7_init 318 [(0, .ref a), (1, .int v), (2, .int (nI j))] [] hc 30 8439 := by
    intro yy S f475 hS m
    induction m with
    | zero =>
      intro j hc hj ho hr
      have : j = 40 := by omega
      subst this
      refine J_iload_n dX7_init_318 rfl rfl ?_
      refine J_bipush (v := 40) dX7_init_319 (by decide) ?_
      refine J_icmp_ge (tgt := 337) dX7_init_321 (by decide) (fun c321 => ?_) (fun c321 => (c321 (by decide)).elim)
      exact J_return dX7_init_337 rfl (by
       rw [← hQ, ← hS]
       exact ⟨rfl, ho, yy, hr⟩) (Nat.le_of_ble_eq_true rfl) (Nat.le_of_ble_eq_true rfl)
    | succ m ih =>
      intro j hc hj ho hr
      have ka : hK hc a = 8 := hr.1.1
      have q := hr.1.2 475 (by decide)
      have q1 : hR hc 475 a = some (yy 475) := q.1
      have q2 : hK hc (yy 475) = mr 475 := q.2.1
      refine J_iload_n dX7_init_318 rfl rfl ?_
      refine J_bipush (v := 40) dX7_init_319 (by decide) ?_
      refine J_icmp_ge (tgt := 337) dX7_init_321 (by decide) (fun c321 => ((show False by have c321 : nI 40 ≤ nI j := c321; rw [nI_lei (by decide) (by omega)] at c321; omega)).elim) (fun c321 => ?_)
      refine J_aload_n dX7_init_324 rfl rfl isR_r ?_
      refine J_getRr dX7_init_325 g_X7_84 (by first | with_reducible assumption | (simp only [hK_sI, hK_sJ, hK_sR, hK_tI, hK_tJ, hK_tR]; with_reducible assumption)) q1 ?_
      refine J_iload_n dX7_init_328 rfl rfl ?_
      refine J_iconst (v := 1) dX7_init_329 (by decide) ?_
      refine J_iast dX7_init_330 q2 ⟨by decide, by decide⟩ (by rw [show hN hc (yy 475) = 40 from q.2.2]; exact inx_n (by omega) (by decide)) ?_
      refine J_iinc dX7_init_331 rfl (nI_inc _) (by decide) ?_
      refine J_pc (pc' := 334) rfl ?_
      refine J_goto (tgt := 318) dX7_init_334 (by decide) ?_
      have h8 := ih (j + 1) _ (by omega) (Old_tI (t := mr 475) (i := j) (v := 1) f475 ho) (RepM_tI (f := 475) (j := j) (v := 1) (by decide) hr)
      exact J_loc _ rfl h8
  have lp1 : ∀ (yy : Nat → Nat) (S : Ms), hK h (yy 450) = 0 → hK h (yy 451) = 0 → hK h (yy 475) = 0 → lowI (lifeI S 10) 40 = mS0 (clampW v) → ∀ m j hc, j + m = 10 → Old h hc a → RepM (a, yy) (lifeI S j) hc → J x (om_m x 1 30 8439 Q) kX7_init 290 [(0, .ref a), (1, .int v), (2, .int (nI j))] [] hc 30 8439 := by
    intro yy S f450 f451 f475 hS m
    induction m with
    | zero =>
      intro j hc hj ho hr
      have : j = 10 := by omega
      subst this
      refine J_iload_n dX7_init_290 rfl rfl ?_
      refine J_bipush (v := 10) dX7_init_291 (by decide) ?_
      refine J_icmp_ge (tgt := 316) dX7_init_293 (by decide) (fun c293 => ?_) (fun c293 => (c293 (by decide)).elim)
      refine J_iconst (v := 0) dX7_init_316 (by decide) ?_
      refine J_istore_n dX7_init_317 rfl (by decide) ?_
      exact J_loc _ rfl (lp2 yy (lifeI S 10) f475 hS 40 0 hc rfl ho hr)
    | succ m ih =>
      intro j hc hj ho hr
      have ka : hK hc a = 8 := hr.1.1
      have q := hr.1.2 450 (by decide)
      have p := hr.1.2 451 (by decide)
      have q1 : hR hc 450 a = some (yy 450) := q.1
      have q2 : hK hc (yy 450) = mr 450 := q.2.1
      have p1 : hR hc 451 a = some (yy 451) := p.1
      have p2 : hK hc (yy 451) = mr 451 := p.2.1
      refine J_iload_n dX7_init_290 rfl rfl ?_
      refine J_bipush (v := 10) dX7_init_291 (by decide) ?_
      refine J_icmp_ge (tgt := 316) dX7_init_293 (by decide) (fun c293 => ((show False by have c293 : nI 10 ≤ nI j := c293; rw [nI_lei (by decide) (by omega)] at c293; omega)).elim) (fun c293 => ?_)
      refine J_aload_n dX7_init_296 rfl rfl isR_r ?_
      refine J_getRr dX7_init_297 g_X7_13 (by first | with_reducible assumption | (simp only [hK_sI, hK_sJ, hK_sR, hK_tI, hK_tJ, hK_tR]; with_reducible assumption)) q1 ?_
      refine J_iload_n dX7_init_300 rfl rfl ?_
      refine J_iconst (v := 1) dX7_init_301 (by decide) ?_
      refine J_iast dX7_init_302 q2 ⟨by decide, by decide⟩ (by rw [show hN hc (yy 450) = 10 from q.2.2]; exact inx_n (by omega) (by decide)) ?_
      refine J_aload_n dX7_init_303 rfl rfl isR_r ?_
      refine J_pc (pc' := 304) rfl ?_
      refine J_getRr dX7_init_304 g_X7_17 (by first | with_reducible assumption | (simp only [hK_sI, hK_sJ, hK_sR, hK_tI, hK_tJ, hK_tR]; with_reducible assumption)) (by rw [hR_tI]; exact p1) ?_
      refine J_iload_n dX7_init_307 rfl rfl ?_
      refine J_iconst (v := 1) dX7_init_308 (by decide) ?_
      refine J_iast dX7_init_309 ((congrFun (hK_tI _ _ _ _ _) _).trans p2) ⟨by decide, by decide⟩ (by rw [hN_tI, show hN hc (yy 451) = 10 from p.2.2]; exact inx_n (by omega) (by decide)) ?_
      refine J_iinc dX7_init_310 rfl (nI_inc _) (by decide) ?_
      refine J_goto (tgt := 290) dX7_init_313 (by decide) ?_
      have h8 := ih (j + 1) _ (by omega) (Old_tI (t := mr 451) (i := j) (v := 1) f451 (Old_tI (t := mr 450) (i := j) (v := 1) f450 ho)) (RepM_tI (f := 451) (j := j) (v := 1) (by decide) (RepM_tI (f := 450) (j := j) (v := 1) (by decide) hr))
      exact J_loc _ rfl h8
  have tail : ∀ hc, MIp h [481, 480, 479, 478, 477, 475, 474, 473, 472, 471, 470, 469, 467, 466, 465, 464, 463, 462, 461, 460, 459, 458, 457, 456, 455, 454, 452, 451, 450, 449] a hc → J x (om_m x 1 30 8439 Q) kX7_init 285 [(0, .ref a), (1, .int v)] [.int (clampW v), .ref a] hc 30 8439 := by
    intro hc mi
    obtain ⟨o, ky, hz0, yy, hy⟩ := mi
    have sub : ∀ f, f ∈ mAs → f ∈ [481, 480, 479, 478, 477, 475, 474, 473, 472, 471, 470, 469, 467, 466, 465, 464, 463, 462, 461, 460, 459, 458, 457, 456, 455, 454, 452, 451, 450, 449] := by decide
    refine J_putI (hin := fun _ => rfl) dX7_init_285 p_X7_102 (by first | with_reducible assumption | (simp only [hK_sI, hK_sJ, hK_sR, hK_tI, hK_tJ, hK_tR]; with_reducible assumption)) ?_
    refine J_iconst (v := 0) dX7_init_288 (by decide) ?_
    refine J_istore_n dX7_init_289 rfl (by decide) ?_
    have hr : RepM (a, yy) (pI zS 448 (clampW v)) (sI hc 448 a (clampW v)) := by
     refine ⟨⟨by rw [hK_sI]; exact ky, fun f hf => ?_⟩, fun f _ => ?_, fun f j hf => ?_, fun f j hf => ?_⟩
     · obtain ⟨u1, u2, u3, -⟩ := hy f (sub f hf)
       rw [hR_sI, hK_sI, hN_sI]
       exact ⟨u1, u2, u3⟩
     · rw [hI_sI, mI_pI]
       by_cases c : f = 448
       · rw [if_pos ⟨c, rfl⟩, if_pos c]
       · rw [if_neg (fun z => c z.1), if_neg c]
         exact hz0 f
     · rw [aI_sI, mT_pI]
       exact ((hy f (sub f hf)).2.2.2.1 j).1
     · rw [aJ_sI]
       exact ((hy f (sub f hf)).2.2.2.1 j).2
    have h8 := lp1 yy (pI zS 448 (clampW v)) (hy 450 (by decide)).2.2.2.2 (hy 451 (by decide)).2.2.2.2 (hy 475 (by decide)).2.2.2.2 rfl 10 0 _ rfl (Old_tr o Old_sI) hr
    exact J_loc _ rfl h8
  have m0 : MIp h [] a h := ⟨Old_rf, hk, fun f => (hz f).1, fun _ => 0, fun f hf => absurd hf List.not_mem_nil⟩
  refine J_aload_n dX7_init_0 rfl rfl isR_r ?_
  refine J_obj dX7_init_1 ml_X7_1 (Nat.le_of_ble_eq_true rfl) (Nat.le_of_ble_eq_true rfl) ?_
  refine J_aload_n dX7_init_4 rfl rfl isR_r ?_
  refine J_bipush (v := 10) dX7_init_5 (by decide) ?_
  refine J_newa2 3610 dX7_init_7 arc_boolean ⟨by decide, rfl, by decide⟩ ⟨rfl, by decide⟩ (by decide) (Nat.le_of_ble_eq_true rfl) (Nat.le_of_ble_eq_true rfl) (fun a7 g7 e7 n7 k7 l7 z7 => ?_)
  refine J_putRr (hin := fun _ => rfl) dX7_init_9 p_X7_7 (Or.inr ⟨_, rfl⟩) ((n7 a (by rw [hk]; decide)).1.trans hk) ?_
  have m1 := MIp_step (f := 449) m0 e7 n7 (k7.trans (by decide)) (l7.trans (by decide)) (fun j => ⟨(z7 _ j).1, (z7 _ j).2.1⟩) (by decide)
  generalize sR g7 449 a (some a7) = hh1 at m1 ⊢
  have kk1 : hK hh1 a = 8 := m1.2.1
  refine J_aload_n dX7_init_12 rfl rfl isR_r ?_
  refine J_bipush (v := 10) dX7_init_13 (by decide) ?_
  refine J_pc (pc' := 15) rfl ?_
  refine J_newa2 3616 dX7_init_15 arc_int ⟨by decide, rfl, by decide⟩ ⟨rfl, by decide⟩ (by decide) (Nat.le_of_ble_eq_true rfl) (Nat.le_of_ble_eq_true rfl) (fun a15 g15 e15 n15 k15 l15 z15 => ?_)
  refine J_putRr (hin := fun _ => rfl) dX7_init_17 p_X7_13 (Or.inr ⟨_, rfl⟩) ((n15 a (by rw [kk1]; decide)).1.trans kk1) ?_
  have m2 := MIp_step (f := 450) m1 e15 n15 (k15.trans (by decide)) (l15.trans (by decide)) (fun j => ⟨(z15 _ j).1, (z15 _ j).2.1⟩) (by decide)
  generalize sR g15 450 a (some a15) = hh2 at m2 ⊢
  have kk2 : hK hh2 a = 8 := m2.2.1
  refine J_aload_n dX7_init_20 rfl rfl isR_r ?_
  refine J_bipush (v := 10) dX7_init_21 (by decide) ?_
  refine J_newa2 3624 dX7_init_23 arc_int ⟨by decide, rfl, by decide⟩ ⟨rfl, by decide⟩ (by decide) (Nat.le_of_ble_eq_true rfl) (Nat.le_of_ble_eq_true rfl) (fun a23 g23 e23 n23 k23 l23 z23 => ?_)
  refine J_putRr (hin := fun _ => rfl) dX7_init_25 p_X7_17 (Or.inr ⟨_, rfl⟩) ((n23 a (by rw [kk2]; decide)).1.trans kk2) ?_
  have m3 := MIp_step (f := 451) m2 e23 n23 (k23.trans (by decide)) (l23.trans (by decide)) (fun j => ⟨(z23 _ j).1, (z23 _ j).2.1⟩) (by decide)
  generalize sR g23 451 a (some a23) = hh3 at m3 ⊢
  have kk3 : hK hh3 a = 8 := m3.2.1
  refine J_aload_n dX7_init_28 rfl rfl isR_r ?_
  refine J_bipush (v := 24) dX7_init_29 (by decide) ?_
  refine J_pc (pc' := 31) rfl ?_
  refine J_newa2 3633 dX7_init_31 arc_long ⟨by decide, rfl, by decide⟩ ⟨rfl, by decide⟩ (by decide) (Nat.le_of_ble_eq_true rfl) (Nat.le_of_ble_eq_true rfl) (fun a31 g31 e31 n31 k31 l31 z31 => ?_)
  refine J_putRr (hin := fun _ => rfl) dX7_init_33 p_X7_20 (Or.inr ⟨_, rfl⟩) ((n31 a (by rw [kk3]; decide)).1.trans kk3) ?_
  have m4 := MIp_step (f := 452) m3 e31 n31 (k31.trans (by decide)) (l31.trans (by decide)) (fun j => ⟨(z31 _ j).1, (z31 _ j).2.1⟩) (by decide)
  generalize sR g31 452 a (some a31) = hh4 at m4 ⊢
  have kk4 : hK hh4 a = 8 := m4.2.1
  refine J_aload_n dX7_init_36 rfl rfl isR_r ?_
  refine J_sipush (v := 300) dX7_init_37 (by decide) ?_
  refine J_newa2 3648 dX7_init_40 arc_int ⟨by decide, rfl, by decide⟩ ⟨rfl, by decide⟩ (by decide) (Nat.le_of_ble_eq_true rfl) (Nat.le_of_ble_eq_true rfl) (fun a40 g40 e40 n40 k40 l40 z40 => ?_)
  refine J_putRr (hin := fun _ => rfl) dX7_init_42 p_X7_24 (Or.inr ⟨_, rfl⟩) ((n40 a (by rw [kk4]; decide)).1.trans kk4) ?_
  have m5 := MIp_step (f := 454) m4 e40 n40 (k40.trans (by decide)) (l40.trans (by decide)) (fun j => ⟨(z40 _ j).1, (z40 _ j).2.1⟩) (by decide)
  generalize sR g40 454 a (some a40) = hh5 at m5 ⊢
  have kk5 : hK hh5 a = 8 := m5.2.1
  refine J_aload_n dX7_init_45 rfl rfl isR_r ?_
  refine J_sipush (v := 300) dX7_init_46 (by decide) ?_
  refine J_pc (pc' := 49) rfl ?_
  refine J_newa2 3656 dX7_init_49 arc_int ⟨by decide, rfl, by decide⟩ ⟨rfl, by decide⟩ (by decide) (Nat.le_of_ble_eq_true rfl) (Nat.le_of_ble_eq_true rfl) (fun a49 g49 e49 n49 k49 l49 z49 => ?_)
  refine J_putRr (hin := fun _ => rfl) dX7_init_51 p_X7_27 (Or.inr ⟨_, rfl⟩) ((n49 a (by rw [kk5]; decide)).1.trans kk5) ?_
  have m6 := MIp_step (f := 455) m5 e49 n49 (k49.trans (by decide)) (l49.trans (by decide)) (fun j => ⟨(z49 _ j).1, (z49 _ j).2.1⟩) (by decide)
  generalize sR g49 455 a (some a49) = hh6 at m6 ⊢
  have kk6 : hK hh6 a = 8 := m6.2.1
  refine J_aload_n dX7_init_54 rfl rfl isR_r ?_
  refine J_sipush (v := 300) dX7_init_55 (by decide) ?_
  refine J_newa2 3664 dX7_init_58 arc_int ⟨by decide, rfl, by decide⟩ ⟨rfl, by decide⟩ (by decide) (Nat.le_of_ble_eq_true rfl) (Nat.le_of_ble_eq_true rfl) (fun a58 g58 e58 n58 k58 l58 z58 => ?_)
  refine J_putRr (hin := fun _ => rfl) dX7_init_60 p_X7_30 (Or.inr ⟨_, rfl⟩) ((n58 a (by rw [kk6]; decide)).1.trans kk6) ?_
  have m7 := MIp_step (f := 456) m6 e58 n58 (k58.trans (by decide)) (l58.trans (by decide)) (fun j => ⟨(z58 _ j).1, (z58 _ j).2.1⟩) (by decide)
  generalize sR g58 456 a (some a58) = hh7 at m7 ⊢
  have kk7 : hK hh7 a = 8 := m7.2.1
  refine J_aload_n dX7_init_63 rfl rfl isR_r ?_
  refine J_sipush (v := 300) dX7_init_64 (by decide) ?_
  refine J_pc (pc' := 67) rfl ?_
  refine J_newa2 3672 dX7_init_67 arc_int ⟨by decide, rfl, by decide⟩ ⟨rfl, by decide⟩ (by decide) (Nat.le_of_ble_eq_true rfl) (Nat.le_of_ble_eq_true rfl) (fun a67 g67 e67 n67 k67 l67 z67 => ?_)
  refine J_putRr (hin := fun _ => rfl) dX7_init_69 p_X7_33 (Or.inr ⟨_, rfl⟩) ((n67 a (by rw [kk7]; decide)).1.trans kk7) ?_
  have m8 := MIp_step (f := 457) m7 e67 n67 (k67.trans (by decide)) (l67.trans (by decide)) (fun j => ⟨(z67 _ j).1, (z67 _ j).2.1⟩) (by decide)
  generalize sR g67 457 a (some a67) = hh8 at m8 ⊢
  have kk8 : hK hh8 a = 8 := m8.2.1
  refine J_aload_n dX7_init_72 rfl rfl isR_r ?_
  refine J_sipush (v := 300) dX7_init_73 (by decide) ?_
  refine J_newa2 3680 dX7_init_76 arc_int ⟨by decide, rfl, by decide⟩ ⟨rfl, by decide⟩ (by decide) (Nat.le_of_ble_eq_true rfl) (Nat.le_of_ble_eq_true rfl) (fun a76 g76 e76 n76 k76 l76 z76 => ?_)
  refine J_putRr (hin := fun _ => rfl) dX7_init_78 p_X7_36 (Or.inr ⟨_, rfl⟩) ((n76 a (by rw [kk8]; decide)).1.trans kk8) ?_
  have m9 := MIp_step (f := 458) m8 e76 n76 (k76.trans (by decide)) (l76.trans (by decide)) (fun j => ⟨(z76 _ j).1, (z76 _ j).2.1⟩) (by decide)
  generalize sR g76 458 a (some a76) = hh9 at m9 ⊢
  have kk9 : hK hh9 a = 8 := m9.2.1
  refine J_aload_n dX7_init_81 rfl rfl isR_r ?_
  refine J_sipush (v := 300) dX7_init_82 (by decide) ?_
  refine J_pc (pc' := 85) rfl ?_
  refine J_newa2 3688 dX7_init_85 arc_int ⟨by decide, rfl, by decide⟩ ⟨rfl, by decide⟩ (by decide) (Nat.le_of_ble_eq_true rfl) (Nat.le_of_ble_eq_true rfl) (fun a85 g85 e85 n85 k85 l85 z85 => ?_)
  refine J_putRr (hin := fun _ => rfl) dX7_init_87 p_X7_39 (Or.inr ⟨_, rfl⟩) ((n85 a (by rw [kk9]; decide)).1.trans kk9) ?_
  have m10 := MIp_step (f := 459) m9 e85 n85 (k85.trans (by decide)) (l85.trans (by decide)) (fun j => ⟨(z85 _ j).1, (z85 _ j).2.1⟩) (by decide)
  generalize sR g85 459 a (some a85) = hh10 at m10 ⊢
  have kk10 : hK hh10 a = 8 := m10.2.1
  refine J_aload_n dX7_init_90 rfl rfl isR_r ?_
  refine J_sipush (v := 300) dX7_init_91 (by decide) ?_
  refine J_newa2 3696 dX7_init_94 arc_int ⟨by decide, rfl, by decide⟩ ⟨rfl, by decide⟩ (by decide) (Nat.le_of_ble_eq_true rfl) (Nat.le_of_ble_eq_true rfl) (fun a94 g94 e94 n94 k94 l94 z94 => ?_)
  refine J_putRr (hin := fun _ => rfl) dX7_init_96 p_X7_42 (Or.inr ⟨_, rfl⟩) ((n94 a (by rw [kk10]; decide)).1.trans kk10) ?_
  have m11 := MIp_step (f := 460) m10 e94 n94 (k94.trans (by decide)) (l94.trans (by decide)) (fun j => ⟨(z94 _ j).1, (z94 _ j).2.1⟩) (by decide)
  generalize sR g94 460 a (some a94) = hh11 at m11 ⊢
  have kk11 : hK hh11 a = 8 := m11.2.1
  refine J_aload_n dX7_init_99 rfl rfl isR_r ?_
  refine J_sipush (v := 300) dX7_init_100 (by decide) ?_
  refine J_pc (pc' := 103) rfl ?_
  refine J_newa2 3704 dX7_init_103 arc_int ⟨by decide, rfl, by decide⟩ ⟨rfl, by decide⟩ (by decide) (Nat.le_of_ble_eq_true rfl) (Nat.le_of_ble_eq_true rfl) (fun a103 g103 e103 n103 k103 l103 z103 => ?_)
  refine J_putRr (hin := fun _ => rfl) dX7_init_105 p_X7_45 (Or.inr ⟨_, rfl⟩) ((n103 a (by rw [kk11]; decide)).1.trans kk11) ?_
  have m12 := MIp_step (f := 461) m11 e103 n103 (k103.trans (by decide)) (l103.trans (by decide)) (fun j => ⟨(z103 _ j).1, (z103 _ j).2.1⟩) (by decide)
  generalize sR g103 461 a (some a103) = hh12 at m12 ⊢
  have kk12 : hK hh12 a = 8 := m12.2.1
  refine J_aload_n dX7_init_108 rfl rfl isR_r ?_
  refine J_sipush (v := 300) dX7_init_109 (by decide) ?_
  refine J_newa2 3712 dX7_init_112 arc_int ⟨by decide, rfl, by decide⟩ ⟨rfl, by decide⟩ (by decide) (Nat.le_of_ble_eq_true rfl) (Nat.le_of_ble_eq_true rfl) (fun a112 g112 e112 n112 k112 l112 z112 => ?_)
  refine J_putRr (hin := fun _ => rfl) dX7_init_114 p_X7_48 (Or.inr ⟨_, rfl⟩) ((n112 a (by rw [kk12]; decide)).1.trans kk12) ?_
  have m13 := MIp_step (f := 462) m12 e112 n112 (k112.trans (by decide)) (l112.trans (by decide)) (fun j => ⟨(z112 _ j).1, (z112 _ j).2.1⟩) (by decide)
  generalize sR g112 462 a (some a112) = hh13 at m13 ⊢
  have kk13 : hK hh13 a = 8 := m13.2.1
  refine J_aload_n dX7_init_117 rfl rfl isR_r ?_
  refine J_sipush (v := 300) dX7_init_118 (by decide) ?_
  refine J_pc (pc' := 121) rfl ?_
  refine J_newa2 3720 dX7_init_121 arc_int ⟨by decide, rfl, by decide⟩ ⟨rfl, by decide⟩ (by decide) (Nat.le_of_ble_eq_true rfl) (Nat.le_of_ble_eq_true rfl) (fun a121 g121 e121 n121 k121 l121 z121 => ?_)
  refine J_putRr (hin := fun _ => rfl) dX7_init_123 p_X7_51 (Or.inr ⟨_, rfl⟩) ((n121 a (by rw [kk13]; decide)).1.trans kk13) ?_
  have m14 := MIp_step (f := 463) m13 e121 n121 (k121.trans (by decide)) (l121.trans (by decide)) (fun j => ⟨(z121 _ j).1, (z121 _ j).2.1⟩) (by decide)
  generalize sR g121 463 a (some a121) = hh14 at m14 ⊢
  have kk14 : hK hh14 a = 8 := m14.2.1
  refine J_aload_n dX7_init_126 rfl rfl isR_r ?_
  refine J_sipush (v := 300) dX7_init_127 (by decide) ?_
  refine J_newa2 3729 dX7_init_130 arc_long ⟨by decide, rfl, by decide⟩ ⟨rfl, by decide⟩ (by decide) (Nat.le_of_ble_eq_true rfl) (Nat.le_of_ble_eq_true rfl) (fun a130 g130 e130 n130 k130 l130 z130 => ?_)
  refine J_putRr (hin := fun _ => rfl) dX7_init_132 p_X7_54 (Or.inr ⟨_, rfl⟩) ((n130 a (by rw [kk14]; decide)).1.trans kk14) ?_
  have m15 := MIp_step (f := 464) m14 e130 n130 (k130.trans (by decide)) (l130.trans (by decide)) (fun j => ⟨(z130 _ j).1, (z130 _ j).2.1⟩) (by decide)
  generalize sR g130 464 a (some a130) = hh15 at m15 ⊢
  have kk15 : hK hh15 a = 8 := m15.2.1
  refine J_aload_n dX7_init_135 rfl rfl isR_r ?_
  refine J_sipush (v := 300) dX7_init_136 (by decide) ?_
  refine J_pc (pc' := 139) rfl ?_
  refine J_newa2 3736 dX7_init_139 arc_int ⟨by decide, rfl, by decide⟩ ⟨rfl, by decide⟩ (by decide) (Nat.le_of_ble_eq_true rfl) (Nat.le_of_ble_eq_true rfl) (fun a139 g139 e139 n139 k139 l139 z139 => ?_)
  refine J_putRr (hin := fun _ => rfl) dX7_init_141 p_X7_57 (Or.inr ⟨_, rfl⟩) ((n139 a (by rw [kk15]; decide)).1.trans kk15) ?_
  have m16 := MIp_step (f := 465) m15 e139 n139 (k139.trans (by decide)) (l139.trans (by decide)) (fun j => ⟨(z139 _ j).1, (z139 _ j).2.1⟩) (by decide)
  generalize sR g139 465 a (some a139) = hh16 at m16 ⊢
  have kk16 : hK hh16 a = 8 := m16.2.1
  refine J_aload_n dX7_init_144 rfl rfl isR_r ?_
  refine J_sipush (v := 300) dX7_init_145 (by decide) ?_
  refine J_newa2 3744 dX7_init_148 arc_int ⟨by decide, rfl, by decide⟩ ⟨rfl, by decide⟩ (by decide) (Nat.le_of_ble_eq_true rfl) (Nat.le_of_ble_eq_true rfl) (fun a148 g148 e148 n148 k148 l148 z148 => ?_)
  refine J_putRr (hin := fun _ => rfl) dX7_init_150 p_X7_60 (Or.inr ⟨_, rfl⟩) ((n148 a (by rw [kk16]; decide)).1.trans kk16) ?_
  have m17 := MIp_step (f := 466) m16 e148 n148 (k148.trans (by decide)) (l148.trans (by decide)) (fun j => ⟨(z148 _ j).1, (z148 _ j).2.1⟩) (by decide)
  generalize sR g148 466 a (some a148) = hh17 at m17 ⊢
  have kk17 : hK hh17 a = 8 := m17.2.1
  refine J_aload_n dX7_init_153 rfl rfl isR_r ?_
  refine J_sipush (v := 300) dX7_init_154 (by decide) ?_
  refine J_pc (pc' := 157) rfl ?_
  refine J_newa2 3754 dX7_init_157 arc_boolean ⟨by decide, rfl, by decide⟩ ⟨rfl, by decide⟩ (by decide) (Nat.le_of_ble_eq_true rfl) (Nat.le_of_ble_eq_true rfl) (fun a157 g157 e157 n157 k157 l157 z157 => ?_)
  refine J_putRr (hin := fun _ => rfl) dX7_init_159 p_X7_63 (Or.inr ⟨_, rfl⟩) ((n157 a (by rw [kk17]; decide)).1.trans kk17) ?_
  have m18 := MIp_step (f := 467) m17 e157 n157 (k157.trans (by decide)) (l157.trans (by decide)) (fun j => ⟨(z157 _ j).1, (z157 _ j).2.1⟩) (by decide)
  generalize sR g157 467 a (some a157) = hh18 at m18 ⊢
  have kk18 : hK hh18 a = 8 := m18.2.1
  refine J_aload_n dX7_init_162 rfl rfl isR_r ?_
  refine J_bipush (v := 121) dX7_init_163 (by decide) ?_
  refine J_newa2 3768 dX7_init_165 arc_int ⟨by decide, rfl, by decide⟩ ⟨rfl, by decide⟩ (by decide) (Nat.le_of_ble_eq_true rfl) (Nat.le_of_ble_eq_true rfl) (fun a165 g165 e165 n165 k165 l165 z165 => ?_)
  refine J_putRr (hin := fun _ => rfl) dX7_init_167 p_X7_66 (Or.inr ⟨_, rfl⟩) ((n165 a (by rw [kk18]; decide)).1.trans kk18) ?_
  have m19 := MIp_step (f := 469) m18 e165 n165 (k165.trans (by decide)) (l165.trans (by decide)) (fun j => ⟨(z165 _ j).1, (z165 _ j).2.1⟩) (by decide)
  generalize sR g165 469 a (some a165) = hh19 at m19 ⊢
  have kk19 : hK hh19 a = 8 := m19.2.1
  refine J_aload_n dX7_init_170 rfl rfl isR_r ?_
  refine J_bipush (v := 121) dX7_init_171 (by decide) ?_
  refine J_pc (pc' := 173) rfl ?_
  refine J_newa2 3778 dX7_init_173 arc_boolean ⟨by decide, rfl, by decide⟩ ⟨rfl, by decide⟩ (by decide) (Nat.le_of_ble_eq_true rfl) (Nat.le_of_ble_eq_true rfl) (fun a173 g173 e173 n173 k173 l173 z173 => ?_)
  refine J_putRr (hin := fun _ => rfl) dX7_init_175 p_X7_69 (Or.inr ⟨_, rfl⟩) ((n173 a (by rw [kk19]; decide)).1.trans kk19) ?_
  have m20 := MIp_step (f := 470) m19 e173 n173 (k173.trans (by decide)) (l173.trans (by decide)) (fun j => ⟨(z173 _ j).1, (z173 _ j).2.1⟩) (by decide)
  generalize sR g173 470 a (some a173) = hh20 at m20 ⊢
  have kk20 : hK hh20 a = 8 := m20.2.1
  refine J_aload_n dX7_init_178 rfl rfl isR_r ?_
  refine J_bipush (v := 121) dX7_init_179 (by decide) ?_
  refine J_newa2 3784 dX7_init_181 arc_int ⟨by decide, rfl, by decide⟩ ⟨rfl, by decide⟩ (by decide) (Nat.le_of_ble_eq_true rfl) (Nat.le_of_ble_eq_true rfl) (fun a181 g181 e181 n181 k181 l181 z181 => ?_)
  refine J_putRr (hin := fun _ => rfl) dX7_init_183 p_X7_72 (Or.inr ⟨_, rfl⟩) ((n181 a (by rw [kk20]; decide)).1.trans kk20) ?_
  have m21 := MIp_step (f := 471) m20 e181 n181 (k181.trans (by decide)) (l181.trans (by decide)) (fun j => ⟨(z181 _ j).1, (z181 _ j).2.1⟩) (by decide)
  generalize sR g181 471 a (some a181) = hh21 at m21 ⊢
  have kk21 : hK hh21 a = 8 := m21.2.1
  refine J_aload_n dX7_init_186 rfl rfl isR_r ?_
  refine J_bipush (v := 121) dX7_init_187 (by decide) ?_
  refine J_pc (pc' := 189) rfl ?_
  refine J_newa2 3793 dX7_init_189 arc_long ⟨by decide, rfl, by decide⟩ ⟨rfl, by decide⟩ (by decide) (Nat.le_of_ble_eq_true rfl) (Nat.le_of_ble_eq_true rfl) (fun a189 g189 e189 n189 k189 l189 z189 => ?_)
  refine J_putRr (hin := fun _ => rfl) dX7_init_191 p_X7_75 (Or.inr ⟨_, rfl⟩) ((n189 a (by rw [kk21]; decide)).1.trans kk21) ?_
  have m22 := MIp_step (f := 472) m21 e189 n189 (k189.trans (by decide)) (l189.trans (by decide)) (fun j => ⟨(z189 _ j).1, (z189 _ j).2.1⟩) (by decide)
  generalize sR g189 472 a (some a189) = hh22 at m22 ⊢
  have kk22 : hK hh22 a = 8 := m22.2.1
  refine J_aload_n dX7_init_194 rfl rfl isR_r ?_
  refine J_bipush (v := 121) dX7_init_195 (by decide) ?_
  refine J_newa2 3802 dX7_init_197 arc_boolean ⟨by decide, rfl, by decide⟩ ⟨rfl, by decide⟩ (by decide) (Nat.le_of_ble_eq_true rfl) (Nat.le_of_ble_eq_true rfl) (fun a197 g197 e197 n197 k197 l197 z197 => ?_)
  refine J_putRr (hin := fun _ => rfl) dX7_init_199 p_X7_78 (Or.inr ⟨_, rfl⟩) ((n197 a (by rw [kk22]; decide)).1.trans kk22) ?_
  have m23 := MIp_step (f := 473) m22 e197 n197 (k197.trans (by decide)) (l197.trans (by decide)) (fun j => ⟨(z197 _ j).1, (z197 _ j).2.1⟩) (by decide)
  generalize sR g197 473 a (some a197) = hh23 at m23 ⊢
  have kk23 : hK hh23 a = 8 := m23.2.1
  refine J_aload_n dX7_init_202 rfl rfl isR_r ?_
  refine J_bipush (v := 40) dX7_init_203 (by decide) ?_
  refine J_pc (pc' := 205) rfl ?_
  refine J_newa2 3808 dX7_init_205 arc_int ⟨by decide, rfl, by decide⟩ ⟨rfl, by decide⟩ (by decide) (Nat.le_of_ble_eq_true rfl) (Nat.le_of_ble_eq_true rfl) (fun a205 g205 e205 n205 k205 l205 z205 => ?_)
  refine J_putRr (hin := fun _ => rfl) dX7_init_207 p_X7_81 (Or.inr ⟨_, rfl⟩) ((n205 a (by rw [kk23]; decide)).1.trans kk23) ?_
  have m24 := MIp_step (f := 474) m23 e205 n205 (k205.trans (by decide)) (l205.trans (by decide)) (fun j => ⟨(z205 _ j).1, (z205 _ j).2.1⟩) (by decide)
  generalize sR g205 474 a (some a205) = hh24 at m24 ⊢
  have kk24 : hK hh24 a = 8 := m24.2.1
  refine J_aload_n dX7_init_210 rfl rfl isR_r ?_
  refine J_bipush (v := 40) dX7_init_211 (by decide) ?_
  refine J_newa2 3816 dX7_init_213 arc_int ⟨by decide, rfl, by decide⟩ ⟨rfl, by decide⟩ (by decide) (Nat.le_of_ble_eq_true rfl) (Nat.le_of_ble_eq_true rfl) (fun a213 g213 e213 n213 k213 l213 z213 => ?_)
  refine J_putRr (hin := fun _ => rfl) dX7_init_215 p_X7_84 (Or.inr ⟨_, rfl⟩) ((n213 a (by rw [kk24]; decide)).1.trans kk24) ?_
  have m25 := MIp_step (f := 475) m24 e213 n213 (k213.trans (by decide)) (l213.trans (by decide)) (fun j => ⟨(z213 _ j).1, (z213 _ j).2.1⟩) (by decide)
  generalize sR g213 475 a (some a213) = hh25 at m25 ⊢
  have kk25 : hK hh25 a = 8 := m25.2.1
  refine J_aload_n dX7_init_218 rfl rfl isR_r ?_
  refine J_sipush (v := 700) dX7_init_219 (by decide) ?_
  refine J_pc (pc' := 222) rfl ?_
  refine J_newa2 3832 dX7_init_222 arc_int ⟨by decide, rfl, by decide⟩ ⟨rfl, by decide⟩ (by decide) (Nat.le_of_ble_eq_true rfl) (Nat.le_of_ble_eq_true rfl) (fun a222 g222 e222 n222 k222 l222 z222 => ?_)
  refine J_putRr (hin := fun _ => rfl) dX7_init_224 p_X7_87 (Or.inr ⟨_, rfl⟩) ((n222 a (by rw [kk25]; decide)).1.trans kk25) ?_
  have m26 := MIp_step (f := 477) m25 e222 n222 (k222.trans (by decide)) (l222.trans (by decide)) (fun j => ⟨(z222 _ j).1, (z222 _ j).2.1⟩) (by decide)
  generalize sR g222 477 a (some a222) = hh26 at m26 ⊢
  have kk26 : hK hh26 a = 8 := m26.2.1
  refine J_aload_n dX7_init_227 rfl rfl isR_r ?_
  refine J_sipush (v := 700) dX7_init_228 (by decide) ?_
  refine J_newa2 3840 dX7_init_231 arc_int ⟨by decide, rfl, by decide⟩ ⟨rfl, by decide⟩ (by decide) (Nat.le_of_ble_eq_true rfl) (Nat.le_of_ble_eq_true rfl) (fun a231 g231 e231 n231 k231 l231 z231 => ?_)
  refine J_putRr (hin := fun _ => rfl) dX7_init_233 p_X7_90 (Or.inr ⟨_, rfl⟩) ((n231 a (by rw [kk26]; decide)).1.trans kk26) ?_
  have m27 := MIp_step (f := 478) m26 e231 n231 (k231.trans (by decide)) (l231.trans (by decide)) (fun j => ⟨(z231 _ j).1, (z231 _ j).2.1⟩) (by decide)
  generalize sR g231 478 a (some a231) = hh27 at m27 ⊢
  have kk27 : hK hh27 a = 8 := m27.2.1
  refine J_aload_n dX7_init_236 rfl rfl isR_r ?_
  refine J_sipush (v := 700) dX7_init_237 (by decide) ?_
  refine J_pc (pc' := 240) rfl ?_
  refine J_newa2 3848 dX7_init_240 arc_int ⟨by decide, rfl, by decide⟩ ⟨rfl, by decide⟩ (by decide) (Nat.le_of_ble_eq_true rfl) (Nat.le_of_ble_eq_true rfl) (fun a240 g240 e240 n240 k240 l240 z240 => ?_)
  refine J_putRr (hin := fun _ => rfl) dX7_init_242 p_X7_93 (Or.inr ⟨_, rfl⟩) ((n240 a (by rw [kk27]; decide)).1.trans kk27) ?_
  have m28 := MIp_step (f := 479) m27 e240 n240 (k240.trans (by decide)) (l240.trans (by decide)) (fun j => ⟨(z240 _ j).1, (z240 _ j).2.1⟩) (by decide)
  generalize sR g240 479 a (some a240) = hh28 at m28 ⊢
  have kk28 : hK hh28 a = 8 := m28.2.1
  refine J_aload_n dX7_init_245 rfl rfl isR_r ?_
  refine J_sipush (v := 700) dX7_init_246 (by decide) ?_
  refine J_newa2 3857 dX7_init_249 arc_long ⟨by decide, rfl, by decide⟩ ⟨rfl, by decide⟩ (by decide) (Nat.le_of_ble_eq_true rfl) (Nat.le_of_ble_eq_true rfl) (fun a249 g249 e249 n249 k249 l249 z249 => ?_)
  refine J_putRr (hin := fun _ => rfl) dX7_init_251 p_X7_96 (Or.inr ⟨_, rfl⟩) ((n249 a (by rw [kk28]; decide)).1.trans kk28) ?_
  have m29 := MIp_step (f := 480) m28 e249 n249 (k249.trans (by decide)) (l249.trans (by decide)) (fun j => ⟨(z249 _ j).1, (z249 _ j).2.1⟩) (by decide)
  generalize sR g249 480 a (some a249) = hh29 at m29 ⊢
  have kk29 : hK hh29 a = 8 := m29.2.1
  refine J_aload_n dX7_init_254 rfl rfl isR_r ?_
  refine J_sipush (v := 700) dX7_init_255 (by decide) ?_
  refine J_pc (pc' := 258) rfl ?_
  refine J_newa2 3864 dX7_init_258 arc_int ⟨by decide, rfl, by decide⟩ ⟨rfl, by decide⟩ (by decide) (Nat.le_of_ble_eq_true rfl) (Nat.le_of_ble_eq_true rfl) (fun a258 g258 e258 n258 k258 l258 z258 => ?_)
  refine J_putRr (hin := fun _ => rfl) dX7_init_260 p_X7_99 (Or.inr ⟨_, rfl⟩) ((n258 a (by rw [kk29]; decide)).1.trans kk29) ?_
  have m30 := MIp_step (f := 481) m29 e258 n258 (k258.trans (by decide)) (l258.trans (by decide)) (fun j => ⟨(z258 _ j).1, (z258 _ j).2.1⟩) (by decide)
  generalize sR g258 481 a (some a258) = hh30 at m30 ⊢
  have kk30 : hK hh30 a = 8 := m30.2.1
  refine J_aload_n dX7_init_263 rfl rfl isR_r ?_
  refine J_iload_n dX7_init_264 rfl rfl ?_
  refine J_iconst (v := 1) dX7_init_265 (by decide) ?_
  refine J_icmp_ge (tgt := 273) dX7_init_266 (by decide) (fun c266 => ?_) (fun c266 => ?_)
  · refine J_iload_n dX7_init_273 rfl rfl ?_
    refine J_bipush (v := 16) dX7_init_274 (by decide) ?_
    refine J_icmp_le (tgt := 284) dX7_init_276 (by decide) (fun c276 => ?_) (fun c276 => ?_)
    · refine J_iload_n dX7_init_284 rfl rfl ?_
      refine J_st (st' := [.int (clampW v), .ref a]) (by rw [clampW_mid c266 c276] <;> rfl) (J_cs (by decide) (by decide) (J_loc _ rfl (tail _ m30)))
    · refine J_bipush (v := 16) dX7_init_279 (by decide) ?_
      refine J_goto (tgt := 285) dX7_init_281 (by decide) ?_
      refine J_st (st' := [.int (clampW v), .ref a]) (by rw [clampW_hi c276] <;> rfl) (J_cs (by decide) (by decide) (J_loc _ rfl (tail _ m30)))
  · refine J_iconst (v := 1) dX7_init_269 (by decide) ?_
    refine J_goto (tgt := 285) dX7_init_270 (by decide) ?_
    refine J_st (st' := [.int (clampW v), .ref a]) (by rw [clampW_lo c266] <;> rfl) (J_cs (by decide) (by decide) (J_loc _ rfl (tail _ m30)))
end M7
