/-! the constructors of the row, a server, the object -/
section MK
variable {x : om_x} {h h' h1 h2 : Hp} {b : Nat} {M : List Nat}
theorem New_HX (a1 : New h h') : HX [] h h' := ⟨fun a z => ⟨(a1 a z).1, (a1 a z).2.1⟩, fun f a _ z => (a1 a z).2.2.1 f, fun t a j _ z => (a1 a z).2.2.2 t j⟩
theorem fresh_back {a q : Nat} (o : Old h h1 a) (ka : hK h1 a ≠ 0) (e : hK h1 q = 0) : hK h q = 0 := Decidable.byContradiction fun z => by
  by_cases y : q = a
  · rw [y] at e; exact ka e
  · rw [(o q z y).1] at e; exact z e
theorem new_back {q : Nat} (o : New h h1) (e : hK h1 q = 0) : hK h q = 0 := Decidable.byContradiction fun z => New_k o z e
theorem k_ne {a q t : Nat} (e : hK h q = 0) (k : hK h a = t) (ht : t ≠ 0) : q ≠ a := fun z => by rw [z, k] at e; exact ht e
theorem up1_inj {f : Nat → Nat} {j q : Nat} (ne : ∀ s, s < j → q ≠ f s) (g : ∀ s t, s < j → t < j → f s = f t → s = t) {s t : Nat} (hs : s < j + 1) (ht : t < j + 1) (e : up1 f j q s = up1 f j q t) : s = t := by
  by_cases c1 : s = j
  · by_cases c2 : t = j
    · omega
    · rw [c1, up1_self, up1_ne _ _ c2] at e
      exact absurd e (ne t (by omega))
  · by_cases c2 : t = j
    · rw [up1_ne _ _ c1, c2, up1_self] at e
      exact absurd e.symm (ne s (by omega))
    · rw [up1_ne _ _ c1, up1_ne _ _ c2] at e
      exact g s t (by omega) (by omega) e
def RowG (h : Hp) (r q : Nat) (lt : Nat → Nat) (n : Nat) : Prop := (hK h r = 5 ∧ hI h 256 r = 0 ∧ hI h 257 r = 0 ∧ hI h 258 r = 0 ∧ hI h 259 r = 0 ∧ hR h 260 r = some q) ∧ (hK h q = 53 ∧ hN h q = 128) ∧ (∀ s, s < n → aR h 53 q s = some (lt s) ∧ hK h (lt s) = 3) ∧ ∀ s t, s < n → t < n → lt s = lt t → s = t
theorem RowG_x {r q n : Nat} {lt : Nat → Nat} (hH : HX M h h') (d : dj [256, 257, 258, 259, 260, 323] M) (g : RowG h r q lt n) : RowG h' r q lt n := by
  obtain ⟨⟨g1, g2⟩, ⟨g3, g4⟩, g5, g6⟩ := g
  have k1 : hK h r ≠ 0 := by rw [g1]; decide
  have k2 : hK h q ≠ 0 := by rw [g3]; decide
  unfold RowG
  rw [(hH.1 r k1).1, (hH.2.1 256 r d.at k1).1, (hH.2.1 257 r d.at k1).1, (hH.2.1 258 r d.at k1).1, (hH.2.1 259 r d.at k1).1, (hH.2.1 260 r d.at k1).2.2, (hH.1 q k2).1, (hH.1 q k2).2]
  refine ⟨⟨g1, g2⟩, ⟨g3, g4⟩, fun s hs => ?_, g6⟩
  rw [(hH.2.2 53 q s d.at k2).2.2, (hH.1 (lt s) (by rw [(g5 s hs).2]; decide)).1]
  exact g5 s hs
theorem MemG_x {m st an : Nat} {wn : Int32} (hH : HX M h h') (d : dj [192, 193, 194, 195, 196, 197, 350] M) (g : MemG h m st an wn) : MemG h' m st an wn := by
  have k1 : hK h m ≠ 0 := by rw [g.1.1]; decide
  have k2 : hK h st ≠ 0 := by rw [g.2.1.1]; decide
  have k3 : hK h an ≠ 0 := by rw [g.2.2.1]; decide
  unfold MemG at g ⊢
  rw [(hH.1 m k1).1, (hH.2.1 192 m d.at k1).1, (hH.2.1 193 m d.at k1).1, (hH.2.1 194 m d.at k1).1, (hH.2.1 195 m d.at k1).1, (hH.2.1 196 m d.at k1).2.2, (hH.2.1 197 m d.at k1).2.2, (hH.1 st k2).1, (hH.1 st k2).2, (hH.1 an k3).1, (hH.1 an k3).2]
  exact ⟨g.1, ⟨g.2.1.1, g.2.1.2.1, fun j => by rw [(hH.2.2 80 st j d.at k2).1]; exact g.2.1.2.2 j⟩, g.2.2⟩
theorem EndG_x {e q n : Nat} (hH : HX M h h') (d : dj [64, 65, 66, 67, 68, 69, 329] M) (g : EndG h e q n) : EndG h' e q n := by
  have k1 : hK h e ≠ 0 := by rw [g.1.1]; decide
  have k2 : hK h q ≠ 0 := by rw [g.2.1]; decide
  unfold EndG at g ⊢
  rw [(hH.1 e k1).1, (hH.2.1 64 e d.at k1).1, (hH.2.1 65 e d.at k1).1, (hH.2.1 66 e d.at k1).1, (hH.2.1 67 e d.at k1).1, (hH.2.1 68 e d.at k1).1, (hH.2.1 69 e d.at k1).2.2, (hH.1 q k2).1, (hH.1 q k2).2]
  exact ⟨g.1, g.2.1, g.2.2.1, fun j => by rw [(hH.2.2 59 q j d.at k2).2.2]; exact g.2.2.2 j⟩
def SrvG (h : Hp) (s ac me : Nat) (mm st an : Nat → Nat) (wn : Int32) (n : Nat) : Prop := (hK h s = 6 ∧ hR h 320 s = some ac ∧ hR h 321 s = some me) ∧ (hK h ac = 65 ∧ hN h ac = 6 ∧ ∀ j, aJ h 65 ac j = 0) ∧ (hK h me = 78 ∧ hN h me = 10) ∧ ∀ i, i < n → aR h 78 me i = some (mm i) ∧ MemG h (mm i) (st i) (an i) wn
theorem SrvG_x {s ac me n : Nat} {mm st an : Nat → Nat} {wn : Int32} (hH : HX M h h') (d : dj [320, 321, 335, 348, 192, 193, 194, 195, 196, 197, 350] M) (g : SrvG h s ac me mm st an wn n) : SrvG h' s ac me mm st an wn n := by
  have k1 : hK h s ≠ 0 := by rw [g.1.1]; decide
  have k2 : hK h ac ≠ 0 := by rw [g.2.1.1]; decide
  have k3 : hK h me ≠ 0 := by rw [g.2.2.1.1]; decide
  unfold SrvG at g ⊢
  rw [(hH.1 s k1).1, (hH.2.1 320 s d.at k1).2.2, (hH.2.1 321 s d.at k1).2.2, (hH.1 ac k2).1, (hH.1 ac k2).2, (hH.1 me k3).1, (hH.1 me k3).2]
  refine ⟨g.1, ⟨g.2.1.1, g.2.1.2.1, fun j => by rw [(hH.2.2 65 ac j d.at k2).2.1]; exact g.2.1.2.2 j⟩, g.2.2.1, fun i hi => ?_⟩
  rw [(hH.2.2 78 me i d.at k3).2.2]
  exact ⟨(g.2.2.2 i hi).1, MemG_x hH (fun f hf => d f (by simp only [List.mem_cons, List.not_mem_nil, or_false] at hf ⊢; omega)) (g.2.2.2 i hi).2⟩
set_option maxRecDepth 100000 in
set_option maxHeartbeats 4000000 in
theorem c_init4 {a : Nat} (hk : hK h a = 5) (hz : ∀ f, hI h f a = 0 ∧ hJ h f a = 0 ∧ hR h f a = none) : Mt x 2 kX4_init 129 896 [.ref a] h (fun z h' => z = none ∧ Old h h' a ∧ ∃ q lt, RowG h' a q lt 128) := by
  refine Mt.ofJ mkX4_init.1 (Nat.le_of_ble_eq_true rfl) ?_
  generalize hQ : (fun z h' => z = none ∧ Old h h' a ∧ ∃ (q : Nat) (lt : Nat → Nat), RowG h' a q lt 128) = Q
  have lp : ∀ q, hK h q = 0 → ∀ m j hc lt, j + m = 128 → Old h hc a → RowG hc a q lt j → J x (om_m x 2 129 896 Q) kX4_init 16 [(0, .ref a), (1, .int (nI j))] [] hc (1 + j) (128 + 6 * j) := by
    intro q hq m
    induction m with
    | zero =>
      intro j hc lt hj ho hg
      have : j = 128 := by omega
      subst this
      refine J_iload_n dX4_init_16 rfl rfl ?_
      refine J_sipush (v := 128) dX4_init_17 (by decide) ?_
      refine J_icmp_ge (tgt := 42) dX4_init_20 (by decide) (fun c20 => ?_) (fun c20 => (c20 (by decide)).elim)
      exact J_return dX4_init_42 rfl (by
       rw [← hQ]
       exact ⟨rfl, ho, q, lt, hg⟩) (by decide) (by decide)
    | succ m ih =>
      intro j hc lt hj ho hg
      have kr := hg.1.1
      have r260 : hR hc 260 a = some q := hg.1.2.2.2.2.2
      have kq := hg.2.1.1
      refine J_iload_n dX4_init_16 rfl rfl ?_
      refine J_sipush (v := 128) dX4_init_17 (by decide) ?_
      refine J_icmp_ge (tgt := 42) dX4_init_20 (by decide) (fun c20 => ((show False by have c20 : nI 128 ≤ nI j := c20; rw [nI_lei (by decide) (by omega)] at c20; omega)).elim) (fun c20 => ?_)
      refine J_aload_n dX4_init_23 rfl rfl isR_r ?_
      refine J_getRr dX4_init_24 g_X4_11 (by first | with_reducible assumption | (simp only [hK_sI, hK_sJ, hK_sR, hK_tI, hK_tJ, hK_tR]; with_reducible assumption)) r260 ?_
      refine J_iload_n dX4_init_27 rfl rfl ?_
      refine J_new2 (ci := 2) dX4_init_28 cl_X4_9 ins_RX2 ini_RX2 hcl2 (by decide) inX2 tyX2_ok (by decide) (show 1 + j + 1 ≤ 129 by omega) (show 128 + 6 * j + 6 ≤ 896 by omega) (fun a28 g28 e28 n28 k28 z28 => ?_)
      refine J_dup dX4_init_31 rfl ?_
      refine J_callIN (c_init2) dX4_init_32 rfl rfl (Nat.le_of_ble_eq_true rfl) ⟨Nat.le_of_ble_eq_true rfl, Nat.le_of_ble_eq_true rfl⟩ ⟨show 1 + j + 1 + 0 ≤ 129 by omega, show 128 + 6 * j + 6 + 0 ≤ 896 by omega⟩ (fun v32 hp32 q32 => ?_)
      obtain ⟨rfl, z32⟩ := q32
      rw [z32]
      refine J_pc (pc' := 35) rfl ?_
      refine J_aast dX4_init_35 (show hK g28 q = 53 by rw [(n28 q (by rw [kq]; decide)).1]; exact kq) ⟨by decide, by decide⟩ (by rw [(n28 q (by rw [kq]; decide)).2.1, hg.2.1.2]; exact inx_n (by omega) (by decide)) k28 ?_
      refine J_iinc dX4_init_36 rfl (nI_inc _) (by decide) ?_
      refine J_goto (tgt := 16) dX4_init_39 (by decide) ?_
      have h8 := ih (j + 1) (tR g28 53 q j (some a28)) (up1 lt j a28) (by omega) (Old_tR hq (Old_tr ho (Old_New n28))) ?_
      · exact J_cs (by omega) (by omega) (J_loc _ rfl h8)
      · obtain ⟨g1, g2, g3, g4⟩ := RowG_x (New_HX n28) (by decide) hg
        have ne : ∀ s, s < j → a28 ≠ lt s := fun s hs => k_ne e28 (hg.2.2.1 s hs).2 (by decide)
        refine ⟨g1, g2, fun s hs => ?_, fun s t hs ht e => ?_⟩
        · rw [aR_tR, hK_tR]
          by_cases c : s = j
          · rw [if_pos ⟨rfl, rfl, c⟩, c, up1_self]
            exact ⟨rfl, k28⟩
          · rw [if_neg (fun z => c z.2.2), up1_ne _ _ c]
            exact g3 s (by omega)
        · exact up1_inj (fun s hs => ne s hs) g4 hs ht e
  refine J_aload_n dX4_init_0 rfl rfl isR_r ?_
  refine J_obj dX4_init_1 ml_X4_3 (Nat.le_of_ble_eq_true rfl) (Nat.le_of_ble_eq_true rfl) ?_
  refine J_aload_n dX4_init_4 rfl rfl isR_r ?_
  refine J_sipush (v := 128) dX4_init_5 (by decide) ?_
  refine J_anew2 53 dX4_init_8 cl_X4_9 ⟨by decide, rfl, by decide⟩ ⟨rfl, by decide⟩ (by decide) (Nat.le_of_ble_eq_true rfl) (Nat.le_of_ble_eq_true rfl) (fun a8 g8 e8 n8 k8 l8 z8 => ?_)
  have c11 := n8 a (by rw [hk]; decide)
  have k11 : hK g8 a = 5 := by rw [c11.1]; exact hk
  refine J_putRr (hin := fun _ => rfl) dX4_init_11 p_X4_11 (Or.inr ⟨_, rfl⟩) (by first | with_reducible assumption | (simp only [hK_sI, hK_sJ, hK_sR, hK_tI, hK_tJ, hK_tR]; with_reducible assumption)) ?_
  refine J_iconst (v := 0) dX4_init_14 (by decide) ?_
  refine J_istore_n dX4_init_15 rfl (by decide) ?_
  have h8 := lp a8 e8 128 0 (sR g8 260 a (some a8)) (fun _ => 0) rfl (Old_tr (Old_New n8) Old_sR) ⟨⟨by rw [hK_sR]; exact k11, by rw [hI_sR, (c11.2.2.1 256).1]; exact (hz 256).1, by rw [hI_sR, (c11.2.2.1 257).1]; exact (hz 257).1, by rw [hI_sR, (c11.2.2.1 258).1]; exact (hz 258).1, by rw [hI_sR, (c11.2.2.1 259).1]; exact (hz 259).1, by rw [hR_sR, if_pos ⟨rfl, rfl⟩]⟩, ⟨by rw [hK_sR]; exact k8, by rw [hN_sR]; exact l8⟩, fun s hs => absurd hs (Nat.not_lt_zero _), fun s t hs => absurd hs (Nat.not_lt_zero _)⟩
  exact J_cs (by decide) (by decide) (J_loc _ rfl h8)
def InjN (f : Nat → Nat) (n : Nat) : Prop := ∀ s t, s < n → t < n → f s = f t → s = t
set_option maxRecDepth 100000 in
set_option maxHeartbeats 4000000 in
theorem c_init5 {a : Nat} {v : Int32} (hk : hK h a = 6) : Mt x 2 kX5_init 32 396 [.ref a, .int v] h (fun z h' => z = none ∧ Old h h' a ∧ ∃ ac me mm st an, SrvG h' a ac me mm st an v 10 ∧ hK h ac = 0 ∧ hK h me = 0 ∧ (∀ i, i < 10 → hK h (mm i) = 0 ∧ hK h (st i) = 0 ∧ hK h (an i) = 0) ∧ InjN mm 10 ∧ InjN st 10 ∧ InjN an 10) := by
  refine Mt.ofJ mkX5_init.1 (Nat.le_of_ble_eq_true rfl) ?_
  generalize hQ : (fun z h' => z = none ∧ Old h h' a ∧ ∃ (ac me : Nat) (mm st an : Nat → Nat), SrvG h' a ac me mm st an v 10 ∧ hK h ac = 0 ∧ hK h me = 0 ∧ (∀ i, i < 10 → hK h (mm i) = 0 ∧ hK h (st i) = 0 ∧ hK h (an i) = 0) ∧ InjN mm 10 ∧ InjN st 10 ∧ InjN an 10) = Q
  have lp : ∀ ac me, hK h ac = 0 → hK h me = 0 → ∀ m j hc (mm st an : Nat → Nat), j + m = 10 → Old h hc a → SrvG hc a ac me mm st an v j → (∀ i, i < j → hK h (mm i) = 0 ∧ hK h (st i) = 0 ∧ hK h (an i) = 0) → InjN mm j → InjN st j → InjN an j → J x (om_m x 2 32 396 Q) kX5_init 23 [(0, .ref a), (1, .int v), (2, .int (nI j))] [] hc (2 + 3 * j) (16 + 38 * j) := by
    intro ac me hac hme m
    induction m with
    | zero =>
      intro j hc mm st an hj ho hg hf i1 i2 i3
      have : j = 10 := by omega
      subst this
      refine J_iload_n dX5_init_23 rfl rfl ?_
      refine J_bipush (v := 10) dX5_init_24 (by decide) ?_
      refine J_icmp_ge (tgt := 49) dX5_init_26 (by decide) (fun c26 => ?_) (fun c26 => (c26 (by decide)).elim)
      exact J_return dX5_init_49 rfl (by
       rw [← hQ]
       exact ⟨rfl, ho, ac, me, mm, st, an, hg, hac, hme, hf, i1, i2, i3⟩) (by decide) (by decide)
    | succ m ih =>
      intro j hc mm st an hj ho hg hf i1 i2 i3
      have kr := hg.1.1
      have r321 : hR hc 321 a = some me := hg.1.2.2
      have kq := hg.2.2.1.1
      have ka0 : hK hc a ≠ 0 := by rw [kr]; decide
      refine J_iload_n dX5_init_23 rfl rfl ?_
      refine J_bipush (v := 10) dX5_init_24 (by decide) ?_
      refine J_icmp_ge (tgt := 49) dX5_init_26 (by decide) (fun c26 => ((show False by have c26 : nI 10 ≤ nI j := c26; rw [nI_lei (by decide) (by omega)] at c26; omega)).elim) (fun c26 => ?_)
      refine J_aload_n dX5_init_29 rfl rfl isR_r ?_
      refine J_getRr dX5_init_30 g_X5_17 (by first | with_reducible assumption | (simp only [hK_sI, hK_sJ, hK_sR, hK_tI, hK_tJ, hK_tR]; with_reducible assumption)) r321 ?_
      refine J_iload_n dX5_init_33 rfl rfl ?_
      refine J_new2 (ci := 3) dX5_init_34 cl_X5_15 ins_RX3 ini_RX3 hcl3 (by decide) inX3 tyX3_ok (by decide) (show 2 + 3 * j + 1 ≤ 32 by omega) (show 16 + 38 * j + 6 ≤ 396 by omega) (fun a34 g34 e34 n34 k34 z34 => ?_)
      refine J_dup dX5_init_37 rfl ?_
      refine J_iload_n dX5_init_38 rfl rfl ?_
      refine J_pc (pc' := 39) rfl ?_
      refine J_callI (c_init3 k34 z34) dX5_init_39 ml_X5_21 mkX3_init rfl rfl (Nat.le_of_ble_eq_true rfl) ⟨Nat.le_of_ble_eq_true rfl, Nat.le_of_ble_eq_true rfl⟩ ⟨show 2 + 3 * j + 1 + 2 ≤ 32 by omega, show 16 + 38 * j + 6 + 32 ≤ 396 by omega⟩ (fun v39 hp39 q39 => ?_)
      obtain ⟨rfl, o39, u1, u2, f1, f2, mg⟩ := q39
      have hnw : New hc hp39 := New_Old e34 n34 o39
      have k34' : hK hp39 a34 = 4 := mg.1.1
      refine J_aast dX5_init_42 (show hK hp39 me = 78 by rw [(hnw me (by rw [kq]; decide)).1]; exact kq) ⟨by decide, by decide⟩ (by rw [(hnw me (by rw [kq]; decide)).2.1, hg.2.2.1.2]; exact inx_n (by omega) (by decide)) k34' ?_
      refine J_iinc dX5_init_43 rfl (nI_inc _) (by decide) ?_
      refine J_goto (tgt := 23) dX5_init_46 (by decide) ?_
      have h8 := ih (j + 1) (tR hp39 78 me j (some a34)) (up1 mm j a34) (up1 st j u1) (up1 an j u2) (by omega) (Old_tR hme (Old_tr ho (Old_New hnw))) ?_ ?_ ?_ ?_ ?_
      · exact J_cs (by omega) (by omega) (J_loc _ rfl h8)
      · obtain ⟨g1, g2, g3, g4⟩ := SrvG_x (New_HX hnw) (by decide) hg
        have hx : HX [348] hp39 (tR hp39 78 me j (some a34)) := HX_tR (by decide)
        refine ⟨g1, g2, g3, fun s hs => ?_⟩
        rw [aR_tR]
        by_cases c : s = j
        · rw [if_pos ⟨rfl, rfl, c⟩, c, up1_self, up1_self, up1_self]
          exact ⟨rfl, MemG_x hx (by decide) mg⟩
        · rw [if_neg (fun z => c z.2.2), up1_ne _ _ c, up1_ne _ _ c, up1_ne _ _ c]
          exact ⟨(g4 s (by omega)).1, MemG_x hx (by decide) (g4 s (by omega)).2⟩
      · intro s hs
        by_cases c : s = j
        · rw [c, up1_self, up1_self, up1_self]
          exact ⟨fresh_back ho ka0 e34, fresh_back ho ka0 (new_back n34 f1), fresh_back ho ka0 (new_back n34 f2)⟩
        · rw [up1_ne _ _ c, up1_ne _ _ c, up1_ne _ _ c]
          exact hf s (by omega)
      · exact fun s t hs ht e => up1_inj (fun i hi => k_ne e34 (hg.2.2.2 i hi).2.1.1 (by decide)) i1 hs ht e
      · exact fun s t hs ht e => up1_inj (fun i hi => k_ne (new_back n34 f1) (hg.2.2.2 i hi).2.2.1.1 (by decide)) i2 hs ht e
      · exact fun s t hs ht e => up1_inj (fun i hi => k_ne (new_back n34 f2) (hg.2.2.2 i hi).2.2.2.1 (by decide)) i3 hs ht e
  refine J_aload_n dX5_init_0 rfl rfl isR_r ?_
  refine J_obj dX5_init_1 ml_X5_3 (Nat.le_of_ble_eq_true rfl) (Nat.le_of_ble_eq_true rfl) ?_
  refine J_aload_n dX5_init_4 rfl rfl isR_r ?_
  refine J_bipush (v := 6) dX5_init_5 (by decide) ?_
  refine J_newa2 65 dX5_init_7 arc_long ⟨by decide, rfl, by decide⟩ ⟨rfl, by decide⟩ (by decide) (Nat.le_of_ble_eq_true rfl) (Nat.le_of_ble_eq_true rfl) (fun a7 g7 e7 n7 k7 l7 z7 => ?_)
  have c9 := n7 a (by rw [hk]; decide)
  have k9 : hK g7 a = 6 := by rw [c9.1]; exact hk
  refine J_putRr (hin := fun _ => rfl) dX5_init_9 p_X5_9 (Or.inr ⟨_, rfl⟩) (by first | with_reducible assumption | (simp only [hK_sI, hK_sJ, hK_sR, hK_tI, hK_tJ, hK_tR]; with_reducible assumption)) ?_
  refine J_aload_n dX5_init_12 rfl rfl isR_r ?_
  refine J_bipush (v := 10) dX5_init_13 (by decide) ?_
  refine J_pc (pc' := 15) rfl ?_
  refine J_anew2 78 dX5_init_15 cl_X5_15 ⟨by decide, rfl, by decide⟩ ⟨rfl, by decide⟩ (by decide) (Nat.le_of_ble_eq_true rfl) (Nat.le_of_ble_eq_true rfl) (fun a15 g15 e15 n15 k15 l15 z15 => ?_)
  have c18 := n15 a (by rw [hK_sR, k9]; decide)
  have k18 : hK g15 a = 6 := by rw [c18.1, hK_sR]; exact k9
  have d18 := n15 a7 (by rw [hK_sR, k7]; decide)
  refine J_putRr (hin := fun _ => rfl) dX5_init_18 p_X5_17 (Or.inr ⟨_, rfl⟩) (by first | with_reducible assumption | (simp only [hK_sI, hK_sJ, hK_sR, hK_tI, hK_tJ, hK_tR]; with_reducible assumption)) ?_
  refine J_iconst (v := 0) dX5_init_21 (by decide) ?_
  refine J_istore_n dX5_init_22 rfl (by decide) ?_
  have hne : a7 ≠ a := fun z => by rw [z] at e7; rw [e7] at hk; exact absurd hk (by decide)
  have f15 : hK h a15 = 0 := by
   rw [hK_sR] at e15
   exact new_back n7 e15
  have h8 := lp a7 a15 e7 f15 10 0 (sR g15 321 a (some a15)) (fun _ => 0) (fun _ => 0) (fun _ => 0) rfl (Old_tr (Old_tr (Old_New n7) Old_sR) (Old_tr (Old_New n15) Old_sR)) ⟨⟨by rw [hK_sR]; exact k18, ?_, by rw [hR_sR, if_pos ⟨rfl, rfl⟩]⟩, ⟨?_, ?_, fun j => ?_⟩, ⟨by rw [hK_sR]; exact k15, by rw [hN_sR]; exact l15⟩, fun s hs => absurd hs (Nat.not_lt_zero _)⟩ (fun s hs => absurd hs (Nat.not_lt_zero _)) (fun s t hs => absurd hs (Nat.not_lt_zero _)) (fun s t hs => absurd hs (Nat.not_lt_zero _)) (fun s t hs => absurd hs (Nat.not_lt_zero _))
  · exact J_cs (by decide) (by decide) (J_loc _ rfl h8)
  · rw [hR_sR, if_neg (fun z => absurd z.1 (by decide)), (c18.2.2.1 320).2.2, hR_sR, if_pos ⟨rfl, rfl⟩]
  · rw [hK_sR, d18.1, hK_sR]; exact k7
  · rw [hN_sR, d18.2.1, hN_sR]; exact l7
  · rw [aJ_sR, (d18.2.2.2 65 j).2.1, aJ_sR]; exact (z7 65 j).2.1
end MK
