/-! the class's constructor -/
section M2
variable {x : om_x} {h h' h1 h2 : Hp} {b : Nat} {M : List Nat}
def TopG (h : Hp) (a en sv ak ro : Nat) (wn : Int32) : Prop := (hK h a = 7 ∧ hI h 384 a = wn ∧ hI h 389 a = 0 ∧ hI h 390 a = 0 ∧ hR h 385 a = some en ∧ hR h 386 a = some sv ∧ hR h 387 a = some ak ∧ hR h 388 a = some ro) ∧ (hK h en = 28 ∧ hN h en = 10) ∧ (hK h sv = 39 ∧ hN h sv = 4) ∧ hK h ak = 43 ∧ hN h ak = 300 ∧ ∀ j, aR h 43 ak j = none
theorem TopG_x {a en sv ak ro : Nat} {wn : Int32} (hH : HX M h h') (d : dj [384, 385, 386, 387, 388, 389, 390, 313] M) (g : TopG h a en sv ak ro wn) : TopG h' a en sv ak ro wn := by
  have k1 : hK h a ≠ 0 := by rw [g.1.1]; decide
  have k2 : hK h en ≠ 0 := by rw [g.2.1.1]; decide
  have k3 : hK h sv ≠ 0 := by rw [g.2.2.1.1]; decide
  have k4 : hK h ak ≠ 0 := by rw [g.2.2.2.1]; decide
  unfold TopG at g ⊢
  rw [(hH.1 a k1).1, (hH.2.1 384 a d.at k1).1, (hH.2.1 389 a d.at k1).1, (hH.2.1 390 a d.at k1).1, (hH.2.1 385 a d.at k1).2.2, (hH.2.1 386 a d.at k1).2.2, (hH.2.1 387 a d.at k1).2.2, (hH.2.1 388 a d.at k1).2.2, (hH.1 en k2).1, (hH.1 en k2).2, (hH.1 sv k3).1, (hH.1 sv k3).2, (hH.1 ak k4).1, (hH.1 ak k4).2]
  exact ⟨g.1, g.2.1, g.2.2.1, g.2.2.2.1, g.2.2.2.2.1, fun j => by rw [(hH.2.2 43 ak j d.at k4).2.2]; exact g.2.2.2.2.2 j⟩
theorem up1_injM {f : Nat → Nat → Nat} {f2 : Nat → Nat} {j : Nat} (g : InjN (fun i => f (i / 10) (i % 10)) (10 * j)) (g2 : InjN f2 10) (ne : ∀ s k n, s < j → k < 10 → n < 10 → f2 n ≠ f s k) : InjN (fun i => up1 f j f2 (i / 10) (i % 10)) (10 * (j + 1)) := by
  intro s t hs ht e
  have es : up1 f j f2 (s / 10) (s % 10) = up1 f j f2 (t / 10) (t % 10) := e
  by_cases c1 : s / 10 = j
  · by_cases c2 : t / 10 = j
    · rw [c1, c2, up1_self] at es
      have := g2 (s % 10) (t % 10) (Nat.mod_lt _ (by decide)) (Nat.mod_lt _ (by decide)) es
      omega
    · rw [c1, up1_self, up1_ne _ _ c2] at es
      exact absurd es (ne _ _ _ (by omega) (Nat.mod_lt _ (by decide)) (Nat.mod_lt _ (by decide)))
  · by_cases c2 : t / 10 = j
    · rw [up1_ne _ _ c1, c2, up1_self] at es
      exact absurd es.symm (ne _ _ _ (by omega) (Nat.mod_lt _ (by decide)) (Nat.mod_lt _ (by decide)))
    · rw [up1_ne _ _ c1, up1_ne _ _ c2] at es
      exact g s t (by omega) (by omega) es
def EndsG (h : Hp) (en : Nat) (ee eq : Nat → Nat) (n : Nat) : Prop := (∀ i, i < n → aR h 28 en i = some (ee i) ∧ EndG h (ee i) (eq i) i) ∧ InjN ee n ∧ InjN eq n
def SrvsG (h : Hp) (sv : Nat) (ss ac me : Nat → Nat) (mm st an : Nat → Nat → Nat) (wn : Int32) (n : Nat) : Prop := (∀ i, i < n → aR h 39 sv i = some (ss i) ∧ SrvG h (ss i) (ac i) (me i) (mm i) (st i) (an i) wn 10) ∧ InjN ac n ∧ InjN (fun i => mm (i / 10) (i % 10)) (10 * n) ∧ InjN (fun i => st (i / 10) (i % 10)) (10 * n) ∧ InjN (fun i => an (i / 10) (i % 10)) (10 * n)
theorem EndsG_x {en n : Nat} {ee eq : Nat → Nat} (hH : HX M h h') (k : hK h en ≠ 0) (d : dj [298, 64, 65, 66, 67, 68, 69, 329] M) (g : EndsG h en ee eq n) : EndsG h' en ee eq n :=
  ⟨fun i hi => by rw [(hH.2.2 28 en i d.at k).2.2]; exact ⟨(g.1 i hi).1, EndG_x hH (fun f hf => d f (List.mem_cons_of_mem _ hf)) (g.1 i hi).2⟩, g.2⟩
def clampW (v : Int32) : Int32 := if 1 < (if v < 16 then v else 16) then (if v < 16 then v else 16) else 1
def ClsG (h : Hp) (a : Nat) (wn : Int32) : Prop := ∃ (en sv ak ro rg : Nat) (lt ee eq ss ac me : Nat → Nat) (mm st an : Nat → Nat → Nat), TopG h a en sv ak ro wn ∧ RowG h ro rg lt 128 ∧ EndsG h en ee eq 10 ∧ SrvsG h sv ss ac me mm st an wn 4
set_option maxRecDepth 100000 in
set_option maxHeartbeats 4000000 in
theorem c_init6 {a : Nat} {v : Int32} (hk : hK h a = 7) (hz : ∀ f, hI h f a = 0 ∧ hJ h f a = 0 ∧ hR h f a = none) : Mt x 3 kX6_init 285 3027 [.ref a, .int v] h (fun z h' => z = none ∧ Old h h' a ∧ ClsG h' a (clampW v)) := by
  refine Mt.ofJ mkX6_init.1 (Nat.le_of_ble_eq_true rfl) ?_
  generalize hQ : (fun z h' => z = none ∧ Old h h' a ∧ ClsG h' a (clampW v)) = Q
  have lp2 : ∀ en sv ak ro rg lt ee eq, hK h sv = 0 → ∀ m j hc (ss ac me : Nat → Nat) (mm st an : Nat → Nat → Nat), j + m = 4 → Old h hc a → TopG hc a en sv ak ro (clampW v) → RowG hc ro rg lt 128 → EndsG hc en ee eq 10 → SrvsG hc sv ss ac me mm st an (clampW v) j → J x (om_m x 3 285 3027 Q) kX6_init 86 [(0, .ref a), (1, .int v), (2, .int (nI j))] [] hc (153 + 33 * j) (1435 + 398 * j) := by
    intro en sv ak ro rg lt ee eq hsv m
    induction m with
    | zero =>
      intro j hc ss ac me mm st an hj ho hT hRw hE hS
      have : j = 4 := by omega
      subst this
      refine J_iload_n dX6_init_86 rfl rfl ?_
      refine J_iconst (v := 4) dX6_init_87 (by decide) ?_
      refine J_icmp_ge (tgt := 114) dX6_init_88 (by decide) (fun c88 => ?_) (fun c88 => (c88 (by decide)).elim)
      exact J_return dX6_init_114 rfl (by
       rw [← hQ]
       exact ⟨rfl, ho, en, sv, ak, ro, rg, lt, ee, eq, ss, ac, me, mm, st, an, hT, hRw, hE, hS⟩) (by decide) (by decide)
    | succ m ih =>
      intro j hc ss ac me mm st an hj ho hT hRw hE hS
      have kr := hT.1.1
      have ka0 : hK hc a ≠ 0 := by rw [kr]; decide
      have r386 : hR hc 386 a = some sv := hT.1.2.2.2.2.2.1
      have kq := hT.2.2.1.1
      refine J_iload_n dX6_init_86 rfl rfl ?_
      refine J_iconst (v := 4) dX6_init_87 (by decide) ?_
      refine J_icmp_ge (tgt := 114) dX6_init_88 (by decide) (fun c88 => ((show False by have c88 : nI 4 ≤ nI j := c88; rw [nI_lei (by decide) (by omega)] at c88; omega)).elim) (fun c88 => ?_)
      refine J_aload_n dX6_init_91 rfl rfl isR_r ?_
      refine J_getRr dX6_init_92 g_X6_17 (by first | with_reducible assumption | (simp only [hK_sI, hK_sJ, hK_sR, hK_tI, hK_tJ, hK_tR]; with_reducible assumption)) r386 ?_
      refine J_iload_n dX6_init_95 rfl rfl ?_
      refine J_new2 (ci := 5) dX6_init_96 cl_X6_15 ins_RX5 ini_RX5 hcl5 (by decide) inX5 tyX5_ok (by decide) (show 153 + 33 * j + 1 ≤ 285 by omega) (show 1435 + 398 * j + 2 ≤ 3027 by omega) (fun a96 g96 e96 n96 k96 z96 => ?_)
      refine J_dup dX6_init_99 rfl ?_
      refine J_aload_n dX6_init_100 rfl rfl isR_r ?_
      refine J_pc (pc' := 101) rfl ?_
      have kg : hK g96 a = 7 := by rw [(n96 a ka0).1]; exact kr
      refine J_getI dX6_init_101 g_X6_43 (by first | with_reducible assumption | (simp only [hK_sI, hK_sJ, hK_sR, hK_tI, hK_tJ, hK_tR]; with_reducible assumption)) ?_
      rw [((n96 a ka0).2.2.1 384).1, hT.1.2.1]
      refine J_callI (c_init5 k96) dX6_init_104 ml_X6_50 mkX5_init rfl rfl (Nat.le_of_ble_eq_true rfl) ⟨Nat.le_of_ble_eq_true rfl, Nat.le_of_ble_eq_true rfl⟩ ⟨show 153 + 33 * j + 1 + 32 ≤ 285 by omega, show 1435 + 398 * j + 2 + 396 ≤ 3027 by omega⟩ (fun v104 hp104 q104 => ?_)
      obtain ⟨rfl, o104, ac2, me2, mm2, st2, an2, sg, f1, f2, f3, i1, i2, i3⟩ := q104
      have hnw : New hc hp104 := New_Old e96 n96 o104
      have k96' : hK hp104 a96 = 6 := sg.1.1
      have kq2 : hK hp104 sv = 39 := by rw [(hnw sv (by rw [kq]; decide)).1]; exact kq
      refine J_aast dX6_init_107 (by first | with_reducible assumption | (simp only [hK_sI, hK_sJ, hK_sR, hK_tI, hK_tJ, hK_tR]; with_reducible assumption)) ⟨by decide, by decide⟩ (by rw [(hnw sv (by rw [kq]; decide)).2.1, hT.2.2.1.2]; exact inx_n (by omega) (by decide)) (by assumption) ?_
      refine J_iinc dX6_init_108 rfl (nI_inc _) (by decide) ?_
      refine J_goto (tgt := 86) dX6_init_111 (by decide) ?_
      have hx : HX [309] hp104 (tR hp104 39 sv j (some a96)) := HX_tR (by decide)
      have hT2 := TopG_x (New_HX hnw) (by decide) hT
      have h8 := ih (j + 1) (tR hp104 39 sv j (some a96)) (up1 ss j a96) (up1 ac j ac2) (up1 me j me2) (up1 mm j mm2) (up1 st j st2) (up1 an j an2) (by omega) (Old_tR hsv (Old_tr ho (Old_New hnw))) (TopG_x hx (by decide) hT2) (RowG_x hx (by decide) (RowG_x (New_HX hnw) (by decide) hRw)) (EndsG_x hx (by rw [hT2.2.1.1]; decide) (by decide) (EndsG_x (New_HX hnw) (by rw [hT.2.1.1]; decide) (by decide) hE)) ?_
      · exact J_cs (by omega) (by omega) (J_loc _ rfl h8)
      · refine ⟨fun s hs => ?_, fun s t hs ht e => up1_inj (fun i hi => k_ne (new_back n96 f1) (hS.1 i hi).2.2.1.1 (by decide)) hS.2.1 hs ht e, up1_injM hS.2.2.1 i1 (fun s k n hs hk2 hn => k_ne (new_back n96 (f3 n hn).1) ((hS.1 s hs).2.2.2.2 k hk2).2.1.1 (by decide)), up1_injM hS.2.2.2.1 i2 (fun s k n hs hk2 hn => k_ne (new_back n96 (f3 n hn).2.1) ((hS.1 s hs).2.2.2.2 k hk2).2.2.1.1 (by decide)), up1_injM hS.2.2.2.2 i3 (fun s k n hs hk2 hn => k_ne (new_back n96 (f3 n hn).2.2) ((hS.1 s hs).2.2.2.2 k hk2).2.2.2.1 (by decide))⟩
        rw [aR_tR]
        by_cases c : s = j
        · rw [if_pos ⟨rfl, rfl, c⟩, c, up1_self, up1_self, up1_self, up1_self, up1_self, up1_self]
          exact ⟨rfl, SrvG_x hx (by decide) sg⟩
        · rw [if_neg (fun z => c z.2.2), up1_ne _ _ c, up1_ne _ _ c, up1_ne _ _ c, up1_ne _ _ c, up1_ne _ _ c, up1_ne _ _ c]
          obtain ⟨g1, g2⟩ := hS.1 s (by omega)
          exact ⟨by rw [((hnw sv (by rw [kq]; decide)).2.2.2 39 s).2.2]; exact g1, SrvG_x hx (by decide) (SrvG_x (New_HX hnw) (by decide) g2)⟩
  have lp1 : ∀ en sv ak ro rg lt, hK h en = 0 → hK h sv = 0 → ∀ m j hc (ee eq : Nat → Nat), j + m = 10 → Old h hc a → TopG hc a en sv ak ro (clampW v) → RowG hc ro rg lt 128 → EndsG hc en ee eq j → J x (om_m x 3 285 3027 Q) kX6_init 58 [(0, .ref a), (1, .int v), (2, .int (nI j))] [] hc (133 + 2 * j) (1215 + 22 * j) := by
    intro en sv ak ro rg lt hen hsv m
    induction m with
    | zero =>
      intro j hc ee eq hj ho hT hRw hE
      have : j = 10 := by omega
      subst this
      refine J_iload_n dX6_init_58 rfl rfl ?_
      refine J_bipush (v := 10) dX6_init_59 (by decide) ?_
      refine J_icmp_ge (tgt := 84) dX6_init_61 (by decide) (fun c61 => ?_) (fun c61 => (c61 (by decide)).elim)
      refine J_iconst (v := 0) dX6_init_84 (by decide) ?_
      refine J_istore_n dX6_init_85 rfl (by decide) ?_
      have h8 := lp2 en sv ak ro rg lt ee eq hsv 4 0 hc (fun _ => 0) (fun _ => 0) (fun _ => 0) (fun _ _ => 0) (fun _ _ => 0) (fun _ _ => 0) rfl ho hT hRw hE ⟨fun i hi => absurd hi (Nat.not_lt_zero _), fun s t hs => absurd hs (Nat.not_lt_zero _), fun s t hs => absurd hs (Nat.not_lt_zero _), fun s t hs => absurd hs (Nat.not_lt_zero _), fun s t hs => absurd hs (Nat.not_lt_zero _)⟩
      exact J_cs (by decide) (by decide) (J_loc _ rfl h8)
    | succ m ih =>
      intro j hc ee eq hj ho hT hRw hE
      have kr := hT.1.1
      have ka0 : hK hc a ≠ 0 := by rw [kr]; decide
      have r385 : hR hc 385 a = some en := hT.1.2.2.2.2.1
      have kq := hT.2.1.1
      refine J_iload_n dX6_init_58 rfl rfl ?_
      refine J_bipush (v := 10) dX6_init_59 (by decide) ?_
      refine J_icmp_ge (tgt := 84) dX6_init_61 (by decide) (fun c61 => ((show False by have c61 : nI 10 ≤ nI j := c61; rw [nI_lei (by decide) (by omega)] at c61; omega)).elim) (fun c61 => ?_)
      refine J_aload_n dX6_init_64 rfl rfl isR_r ?_
      refine J_getRr dX6_init_65 g_X6_11 (by first | with_reducible assumption | (simp only [hK_sI, hK_sJ, hK_sR, hK_tI, hK_tJ, hK_tR]; with_reducible assumption)) r385 ?_
      refine J_iload_n dX6_init_68 rfl rfl ?_
      refine J_new2 (ci := 1) dX6_init_69 cl_X6_9 ins_RX1 ini_RX1 hcl1 (by decide) inX1 tyX1_ok (by decide) (show 133 + 2 * j + 1 ≤ 285 by omega) (show 1215 + 22 * j + 6 ≤ 3027 by omega) (fun a69 g69 e69 n69 k69 z69 => ?_)
      refine J_dup dX6_init_72 rfl ?_
      refine J_iload_n dX6_init_73 rfl rfl ?_
      refine J_pc (pc' := 74) rfl ?_
      refine J_callI (c_init1 k69) dX6_init_74 ml_X6_47 mkX1_init rfl rfl (Nat.le_of_ble_eq_true rfl) ⟨Nat.le_of_ble_eq_true rfl, Nat.le_of_ble_eq_true rfl⟩ ⟨show 133 + 2 * j + 1 + 1 ≤ 285 by omega, show 1215 + 22 * j + 6 + 16 ≤ 3027 by omega⟩ (fun v74 hp74 q74 => ?_)
      obtain ⟨rfl, o74, q2, f1, eg⟩ := q74
      have hnw : New hc hp74 := New_Old e69 n69 o74
      have k69' : hK hp74 a69 = 2 := eg.1.1
      have kq2 : hK hp74 en = 28 := by rw [(hnw en (by rw [kq]; decide)).1]; exact kq
      refine J_aast dX6_init_77 (by first | with_reducible assumption | (simp only [hK_sI, hK_sJ, hK_sR, hK_tI, hK_tJ, hK_tR]; with_reducible assumption)) ⟨by decide, by decide⟩ (by rw [(hnw en (by rw [kq]; decide)).2.1, hT.2.1.2]; exact inx_n (by omega) (by decide)) (by assumption) ?_
      refine J_iinc dX6_init_78 rfl (nI_inc _) (by decide) ?_
      refine J_goto (tgt := 58) dX6_init_81 (by decide) ?_
      have hx : HX [298] hp74 (tR hp74 28 en j (some a69)) := HX_tR (by decide)
      have hT2 := TopG_x (New_HX hnw) (by decide) hT
      have h8 := ih (j + 1) (tR hp74 28 en j (some a69)) (up1 ee j a69) (up1 eq j q2) (by omega) (Old_tR hen (Old_tr ho (Old_New hnw))) (TopG_x hx (by decide) hT2) (RowG_x hx (by decide) (RowG_x (New_HX hnw) (by decide) hRw)) ?_
      · exact J_cs (by omega) (by omega) (J_loc _ rfl h8)
      · refine ⟨fun s hs => ?_, fun s t hs ht e => up1_inj (fun i hi => k_ne e69 (hE.1 i hi).2.1.1 (by decide)) hE.2.1 hs ht e, fun s t hs ht e => up1_inj (fun i hi => k_ne (new_back n69 f1) (hE.1 i hi).2.2.1 (by decide)) hE.2.2 hs ht e⟩
        rw [aR_tR]
        by_cases c : s = j
        · rw [if_pos ⟨rfl, rfl, c⟩, c, up1_self, up1_self]
          exact ⟨rfl, EndG_x hx (by decide) eg⟩
        · rw [if_neg (fun z => c z.2.2), up1_ne _ _ c, up1_ne _ _ c]
          obtain ⟨g1, g2⟩ := hE.1 s (by omega)
          exact ⟨by rw [((hnw en (by rw [kq]; decide)).2.2.2 28 s).2.2]; exact g1, EndG_x hx (by decide) (EndG_x (New_HX hnw) (by decide) g2)⟩
  refine J_aload_n dX6_init_0 rfl rfl isR_r ?_
  refine J_obj dX6_init_1 ml_X6_1 (Nat.le_of_ble_eq_true rfl) (Nat.le_of_ble_eq_true rfl) ?_
  refine J_aload_n dX6_init_4 rfl rfl isR_r ?_
  refine J_bipush (v := 10) dX6_init_5 (by decide) ?_
  refine J_anew2 28 dX6_init_7 cl_X6_9 ⟨by decide, rfl, by decide⟩ ⟨rfl, by decide⟩ (by decide) (Nat.le_of_ble_eq_true rfl) (Nat.le_of_ble_eq_true rfl) (fun a7 g7 e7 n7 k7 l7 z7 => ?_)
  have c10 := n7 a (by rw [hk]; decide)
  have k10 : hK g7 a = 7 := by rw [c10.1]; exact hk
  refine J_putRr (hin := fun _ => rfl) dX6_init_10 p_X6_11 (Or.inr ⟨_, rfl⟩) (by first | with_reducible assumption | (simp only [hK_sI, hK_sJ, hK_sR, hK_tI, hK_tJ, hK_tR]; with_reducible assumption)) ?_
  refine J_aload_n dX6_init_13 rfl rfl isR_r ?_
  refine J_iconst (v := 4) dX6_init_14 (by decide) ?_
  refine J_pc (pc' := 15) rfl ?_
  refine J_anew2 39 dX6_init_15 cl_X6_15 ⟨by decide, rfl, by decide⟩ ⟨rfl, by decide⟩ (by decide) (Nat.le_of_ble_eq_true rfl) (Nat.le_of_ble_eq_true rfl) (fun a15 g15 e15 n15 k15 l15 z15 => ?_)
  have c18 := n15 a (by rw [hK_sR, k10]; decide)
  have k18 : hK g15 a = 7 := by rw [c18.1, hK_sR]; exact k10
  have d18 := n15 a7 (by rw [hK_sR, k7]; decide)
  refine J_putRr (hin := fun _ => rfl) dX6_init_18 p_X6_17 (Or.inr ⟨_, rfl⟩) (by first | with_reducible assumption | (simp only [hK_sI, hK_sJ, hK_sR, hK_tI, hK_tJ, hK_tR]; with_reducible assumption)) ?_
  refine J_aload_n dX6_init_21 rfl rfl isR_r ?_
  refine J_sipush (v := 300) dX6_init_22 (by decide) ?_
  refine J_anew2 43 dX6_init_25 cl_X6_21 ⟨by decide, rfl, by decide⟩ ⟨rfl, by decide⟩ (by decide) (Nat.le_of_ble_eq_true rfl) (Nat.le_of_ble_eq_true rfl) (fun a25 g25 e25 n25 k25 l25 z25 => ?_)
  have c28 := n25 a (by rw [hK_sR, k18]; decide)
  have k28 : hK g25 a = 7 := by rw [c28.1, hK_sR]; exact k18
  have d28 := n25 a7 (by rw [hK_sR, d18.1, hK_sR, k7]; decide)
  have e28 := n25 a15 (by rw [hK_sR, k15]; decide)
  refine J_putRr (hin := fun _ => rfl) dX6_init_28 p_X6_23 (Or.inr ⟨_, rfl⟩) (by first | with_reducible assumption | (simp only [hK_sI, hK_sJ, hK_sR, hK_tI, hK_tJ, hK_tR]; with_reducible assumption)) ?_
  refine J_aload_n dX6_init_31 rfl rfl isR_r ?_
  refine J_new2 (ci := 4) dX6_init_32 cl_X6_27 ins_RX4 ini_RX4 hcl4 (by decide) inX4 tyX4_ok (by decide) (Nat.le_of_ble_eq_true rfl) (Nat.le_of_ble_eq_true rfl) (fun a32 g32 e32 n32 k32 z32 => ?_)
  refine J_pc (pc' := 35) rfl ?_
  refine J_dup dX6_init_35 rfl ?_
  refine J_callI (c_init4 k32 z32) dX6_init_36 ml_X6_29 mkX4_init rfl rfl (Nat.le_of_ble_eq_true rfl) ⟨Nat.le_of_ble_eq_true rfl, Nat.le_of_ble_eq_true rfl⟩ ⟨Nat.le_of_ble_eq_true rfl, Nat.le_of_ble_eq_true rfl⟩ (fun v36 hp36 q36 => ?_)
  obtain ⟨rfl, o36, rg, lt, rwg⟩ := q36
  have hnw : New (sR g25 387 a (some a25)) hp36 := New_Old e32 n32 o36
  have c39 := hnw a (by rw [hK_sR, k28]; decide)
  have k39 : hK hp36 a = 7 := by rw [c39.1, hK_sR]; exact k28
  have d39 := hnw a7 (by rw [hK_sR, d28.1, hK_sR, d18.1, hK_sR, k7]; decide)
  have e39 := hnw a15 (by rw [hK_sR, e28.1, hK_sR, k15]; decide)
  have f39 := hnw a25 (by rw [hK_sR, k25]; decide)
  refine J_putRr (hin := fun _ => rfl) dX6_init_39 p_X6_30 (Or.inl ⟨_, rfl⟩) (by first | with_reducible assumption | (simp only [hK_sI, hK_sJ, hK_sR, hK_tI, hK_tJ, hK_tR]; with_reducible assumption)) ?_
  refine J_aload_n dX6_init_42 rfl rfl isR_r ?_
  refine J_iconst (v := 1) dX6_init_43 (by decide) ?_
  refine J_bipush (v := 16) dX6_init_44 (by decide) ?_
  refine J_iload_n dX6_init_46 rfl rfl ?_
  refine J_mmin dX6_init_47 ml_X6_34 (Nat.le_of_ble_eq_true rfl) (Nat.le_of_ble_eq_true rfl) (Nat.le_of_ble_eq_true rfl) (Nat.le_of_ble_eq_true rfl) ?_
  refine J_pc (pc' := 50) rfl ?_
  refine J_mmax dX6_init_50 ml_X6_40 (Nat.le_of_ble_eq_true rfl) (Nat.le_of_ble_eq_true rfl) (Nat.le_of_ble_eq_true rfl) (Nat.le_of_ble_eq_true rfl) ?_
  refine J_putI (hin := fun _ => rfl) dX6_init_53 p_X6_43 (by first | with_reducible assumption | (simp only [hK_sI, hK_sJ, hK_sR, hK_tI, hK_tJ, hK_tR]; with_reducible assumption)) ?_
  refine J_iconst (v := 0) dX6_init_56 (by decide) ?_
  refine J_istore_n dX6_init_57 rfl (by decide) ?_
  have fe : hK h a7 = 0 := e7
  have fs : hK h a15 = 0 := by
   rw [hK_sR] at e15
   exact new_back n7 e15
  have hTop : TopG (sI (sR hp36 388 a (some a32)) 384 a (clampW v)) a a7 a15 a25 a32 (clampW v) := by
   unfold TopG
   simp only [hK_sI, hK_sR, hN_sI, hN_sR, hI_sI, hI_sR, hR_sI, hR_sR, aR_sI, aR_sR]
   refine ⟨⟨k39, by simp, ?_, ?_, ?_, ?_, ?_, by simp⟩, ⟨?_, ?_⟩, ⟨?_, ?_⟩, ?_, ?_, fun j => ?_⟩
   · rw [if_neg (by decide), (c39.2.2.1 389).1, hI_sR, (c28.2.2.1 389).1, hI_sR, (c18.2.2.1 389).1, hI_sR, (c10.2.2.1 389).1]; exact (hz 389).1
   · rw [if_neg (by decide), (c39.2.2.1 390).1, hI_sR, (c28.2.2.1 390).1, hI_sR, (c18.2.2.1 390).1, hI_sR, (c10.2.2.1 390).1]; exact (hz 390).1
   · rw [if_neg (by decide), (c39.2.2.1 385).2.2, hR_sR, if_neg (fun z => absurd z.1 (by decide)), (c28.2.2.1 385).2.2, hR_sR, if_neg (fun z => absurd z.1 (by decide)), (c18.2.2.1 385).2.2, hR_sR, if_pos ⟨rfl, rfl⟩]
   · rw [if_neg (by decide), (c39.2.2.1 386).2.2, hR_sR, if_neg (fun z => absurd z.1 (by decide)), (c28.2.2.1 386).2.2, hR_sR, if_pos ⟨rfl, rfl⟩]
   · rw [if_neg (by decide), (c39.2.2.1 387).2.2, hR_sR, if_pos ⟨rfl, rfl⟩]
   · rw [d39.1, hK_sR, d28.1, hK_sR, d18.1, hK_sR]; exact k7
   · rw [d39.2.1, hN_sR, d28.2.1, hN_sR, d18.2.1, hN_sR]; exact l7
   · rw [e39.1, hK_sR, e28.1, hK_sR]; exact k15
   · rw [e39.2.1, hN_sR, e28.2.1, hN_sR]; exact l15
   · rw [f39.1, hK_sR]; exact k25
   · rw [f39.2.1, hN_sR]; exact l25
   · rw [(f39.2.2.2 43 j).2.2, aR_sR]; exact (z25 43 j).2.2
  have hRow : RowG (sI (sR hp36 388 a (some a32)) 384 a (clampW v)) a32 rg lt 128 := RowG_x (M := [388, 384]) ((HX_sR (by decide)).tr (HX_sI (by decide))) (by decide) rwg
  have h8 := lp1 a7 a15 a25 a32 rg lt fe fs 10 0 (sI (sR hp36 388 a (some a32)) 384 a (clampW v)) (fun _ => 0) (fun _ => 0) rfl (Old_tr (Old_tr (Old_tr (Old_New n7) Old_sR) (Old_tr (Old_tr (Old_New n15) Old_sR) (Old_tr (Old_New n25) Old_sR))) (Old_tr (Old_New hnw) (Old_tr Old_sR Old_sI))) hTop hRow ⟨fun i hi => absurd hi (Nat.not_lt_zero _), fun s t hs => absurd hs (Nat.not_lt_zero _), fun s t hs => absurd hs (Nat.not_lt_zero _)⟩
  exact J_cs (by decide) (by decide) (J_loc _ rfl h8)
end M2
