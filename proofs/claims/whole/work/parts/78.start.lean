/-! the start; what one side does leaves the other as it is -/
section ST
variable {x : om_x} {w : om_w} {h h' : Hp} {as : Nat → Nat} {S S' : Ms} {g : Nat} {y : om_y}
theorem Rep_HX (hH : HX [] h h') (hr : Rep w as S h) : Rep w as S h' := by
  have hS : SX [] S S := SX.rf
  obtain ⟨a1, a2, a3, a4, a5, a6, a7⟩ := hr
  exact ⟨a1.x hH (by decide), a2.x hS hH (by decide) (by decide) a1, a3.x hS hH (by decide) (by decide) a1, a4.x hS hH (by decide) (by decide) a1, a5.x hS hH (by decide) (by decide) a1, a6.x hS hH (by decide) (by decide) a1, a7.x hS hH (by decide) (by decide) a1⟩
theorem Rep_fm (hy : hK h y.1 = 8) (hF : FM y h h') (hr : Rep w as S h) : Rep w as S h' := by
  obtain ⟨eK, eN, eJ, eR, eA, eI0, eT, eU⟩ := hF
  have eI : ∀ f b, hK h b ≠ 8 → hI h' f b = hI h f b := fun f b z => eI0 f b (fun u => z (by rw [u]; exact hy))
  obtain ⟨a1, a2, a3, a4, a5, a6, a7⟩ := hr
  have k7 : hK h (w 0 0) ≠ 8 := by rw [a1.1.1]; decide
  have k5 : hK h (w 4 0) ≠ 8 := by rw [a1.2.1.2.2.2.1.1]; decide
  have k2 : ∀ n, n < 10 → hK h (w 6 n) ≠ 8 := fun n hn => by rw [(a1.2.2.1 n hn).2.1]; decide
  have k4 : ∀ i, i < 40 → hK h (w 11 i) ≠ 8 := fun i hi => by rw [(a1.2.2.2.2.2 i hi).1]; decide
  refine ⟨?_, ?_, fun n hn => ?_, ?_, ?_, fun s a hs ha => ?_, fun i hi => ?_⟩
  · obtain ⟨b1, b2, b3, b4, b5, b6⟩ := a1
    unfold CS
    rw [eK, eN, eR, eA]
    exact ⟨b1, b2, fun n hn => by rw [eI 64 _ (k2 n hn)]; exact b3 n hn, b4, b5, fun i hi => by rw [eI 192 _ (k4 i hi), eI 384 _ k7]; exact b6 i hi⟩
  · unfold RTop at a2 ⊢
    rw [eI 384 _ k7, eI 389 _ k7, eI 390 _ k7, eI 256 _ k5, eI 257 _ k5, eI 258 _ k5]
    exact a2
  · rw [eA, eI 65 _ (k2 n hn), eI 66 _ (k2 n hn), eI 67 _ (k2 n hn), eI 68 _ (k2 n hn)]
    exact a3 n hn
  · obtain ⟨b1, b2, b3, b4⟩ := a4
    refine ⟨by rw [eA]; exact b1, by rw [eA]; exact b2, fun k hk => ?_, b4⟩
    have q := b3 k hk
    have k1 : hK h (as k) ≠ 8 := by rw [q.1]; decide
    unfold AskOK at q ⊢
    rw [eK, eJ, eR, eI 0 _ k1, eI 1 _ k1, eI 2 _ k1, eI 3 _ k1, eI 4 _ k1, eI 5 _ k1, eI 6 _ k1, eI 7 _ k1, eI 8 _ k1, eI 9 _ k1, eI 10 _ k1, eI 12 _ k1]
    exact q
  · obtain ⟨f, lt, b1, b2, b3, b4, b5⟩ := a5
    refine ⟨f, lt, by rw [eI 259 _ k5]; exact b1, b2, fun s hs => by rw [eA, eK]; exact b3 s hs, b4, fun i hi => ?_⟩
    have q := b5 i hi
    have k3 : hK h (lt ((f + i) % 128)) ≠ 8 := by rw [(b3 _ (Nat.mod_lt _ (by decide))).2]; decide
    unfold LetOK at q ⊢
    rw [eR, eJ, eI 129 _ k3, eI 130 _ k3, eI 131 _ k3, eI 132 _ k3]
    exact q
  · rw [eU 65 _ (by decide)]
    exact a6 s a hs ha
  · have q := a7 i hi
    unfold MR at q ⊢
    rw [eI 192 _ (k4 i hi), eI 193 _ (k4 i hi), eI 194 _ (k4 i hi), eI 195 _ (k4 i hi), eT 80 _ (by decide), eU 89 _ (by decide)]
    exact q
theorem RepM_HX {L : List Nat} (hL : ∀ f ∈ L, f < 448) (hH : HX L h h') (hr : RepM y S h) : RepM y S h' := RepM.fr (HX.c hL hH) hr
theorem lifeI_T (f j : Nat) : ∀ n, mT (lifeI S n) f j = if (f = 450 ∨ f = 451) ∧ j < n then 1 else mT S f j
  | 0 => by rw [if_neg (fun z => absurd z.2 (Nat.not_lt_zero _))]; rfl
  | n + 1 => by
    simp only [lifeI]
    rw [mT_pT, mT_pT, lifeI_T f j n]
    by_cases c : (f = 450 ∨ f = 451) ∧ j < n
    · rw [if_pos c, if_pos (show (f = 450 ∨ f = 451) ∧ j < n + 1 from ⟨c.1, by omega⟩)]
      split
      · rfl
      · split <;> rfl
    · rw [if_neg c]
      by_cases d : (f = 450 ∨ f = 451) ∧ j < n + 1
      · have e : j = n := by
          rcases d with ⟨d1, d2⟩
          by_cases u : j < n
          · exact absurd ⟨d1, u⟩ c
          · omega
        rw [if_pos d]
        rcases d.1 with u | u
        · rw [if_neg (fun z => by omega), if_pos ⟨u, e⟩]
        · rw [if_pos ⟨u, e⟩]
      · rw [if_neg d, if_neg (fun z => d ⟨Or.inr z.1, by omega⟩), if_neg (fun z => d ⟨Or.inl z.1, by omega⟩)]
theorem lowI_T (f j : Nat) : ∀ n, mT (lowI S n) f j = if f = 475 ∧ j < n then 1 else mT S f j
  | 0 => by rw [if_neg (fun z => absurd z.2 (Nat.not_lt_zero _))]; rfl
  | n + 1 => by
    simp only [lowI]
    rw [mT_pT, lowI_T f j n]
    by_cases c : f = 475 ∧ j < n
    · rw [if_pos c, if_pos (show f = 475 ∧ j < n + 1 from ⟨c.1, by omega⟩)]
      split <;> rfl
    · rw [if_neg c]
      by_cases d : f = 475 ∧ j < n + 1
      · rw [if_pos d, if_pos ⟨d.1, by
          have := d.2
          by_cases u : j < n
          · exact absurd ⟨d.1, u⟩ c
          · omega⟩]
      · rw [if_neg d, if_neg (fun z => d ⟨z.1, by omega⟩)]
theorem lifeI_I (f : Nat) : ∀ n, mI (lifeI S n) f = mI S f
  | 0 => rfl
  | n + 1 => by simp only [lifeI]; rw [mI_pT, mI_pT, lifeI_I f n]
theorem lifeI_J (f : Nat) : ∀ n, mJ (lifeI S n) f = mJ S f
  | 0 => rfl
  | n + 1 => by simp only [lifeI]; funext i; rw [mJ_pT, mJ_pT, lifeI_J f n]
theorem lowI_I (f : Nat) : ∀ n, mI (lowI S n) f = mI S f
  | 0 => rfl
  | n + 1 => by simp only [lowI]; rw [mI_pT, lowI_I f n]
theorem lowI_J (f : Nat) : ∀ n, mJ (lowI S n) f = mJ S f
  | 0 => rfl
  | n + 1 => by simp only [lowI]; funext i; rw [mJ_pT, lowI_J f n]
theorem mS0_I (wn : Int32) (f : Nat) : mI (mS0 wn) f = if f = 448 then wn else 0 := by
  unfold mS0
  rw [lowI_I, lifeI_I, mI_pI]
  rfl
theorem mS0_J (wn : Int32) (f j : Nat) : mJ (mS0 wn) f j = 0 := by
  unfold mS0
  rw [lowI_J, lifeI_J]
  rfl
theorem mS0_T (wn : Int32) (f j : Nat) : mT (mS0 wn) f j = if f = 475 ∧ j < 40 then 1 else if (f = 450 ∨ f = 451) ∧ j < 10 then 1 else 0 := by
  unfold mS0
  rw [lowI_T, lifeI_T]
  rfl
theorem clampW_rng (v : Int32) : inN (clampW v) 17 = true ∧ 1 ≤ tn (clampW v) := by
  have i1 : (1 : Int32).toInt = 1 := by decide
  have i16 : (16 : Int32).toInt = 16 := by decide
  have key : 1 ≤ (clampW v).toInt ∧ (clampW v).toInt ≤ 16 := by
    by_cases c : (1 : Int32) ≤ v
    · by_cases c2 : v ≤ 16
      · rw [clampW_mid c c2]
        rw [n_le] at c c2
        omega
      · rw [clampW_hi c2]; omega
    · rw [clampW_lo c]; omega
  have hin : inN (clampW v) 17 = true := by
    unfold inN
    rw [decide_eq_true_iff]
    omega
  refine ⟨hin, ?_⟩
  have := inN_int hin
  omega
theorem mS0_n (wn : Int32) : nA (mS0 wn) = 0 ∧ nL (mS0 wn) = 0 ∧ nR (mS0 wn) = 0 := by
  unfold nA nL nR
  rw [mS0_I, mS0_I, mS0_I]
  exact ⟨rfl, rfl, rfl⟩
theorem mS0_fnd (wn o n : Int32) : fnd (mS0 wn) o n = none := by
  unfold fnd
  rw [(mS0_n wn).2.2]
  rfl
theorem Iv_start (v : Int32) : Iv 0 (mS0 (clampW v)) := by
  obtain ⟨n1, n2, n3⟩ := mS0_n (clampW v)
  obtain ⟨c1, c2⟩ := clampW_rng v
  have t0 : ∀ f j, f ≠ 475 → f ≠ 450 → f ≠ 451 → mT (mS0 (clampW v)) f j = 0 := fun f j z1 z2 z3 => by
    rw [mS0_T, if_neg (fun z => z1 z.1), if_neg (fun z => z.1.elim z2 z3)]
  refine ⟨⟨⟨⟨by rw [mS0_I, if_neg (by decide)]; decide, by rw [mS0_I, if_neg (by decide)]; decide, by rw [mS0_I, if_neg (by decide)]; decide⟩, fun k hk => by omega, fun i hi => by omega, fun i => ⟨Or.inl (t0 470 i (by decide) (by decide) (by decide)), Or.inl (t0 473 i (by decide) (by decide) (by decide))⟩, fun r hr => by omega, fun k hk => by omega⟩, ⟨by decide, by rw [mS0_I, if_pos rfl]; exact c1, by rw [mS0_I, if_pos rfl]; exact c2⟩, fun n hn => ?_, fun k hk => by omega, fun k j hk => by omega, fun k j hk => by omega, fun i hi => by omega, fun i hi => ?_, fun r hr => by omega, fun r s hr => by omega, fun a ha => by rw [mS0_J]; decide⟩, fun k _ => t0 467 k (by decide) (by decide) (by decide), by rw [mS0_I, if_neg (by decide)]⟩
  · unfold EndW
    have e450 : mT (mS0 (clampW v)) 450 n = 1 := by rw [mS0_T, if_neg (fun z => absurd z.1 (by decide)), if_pos ⟨Or.inl rfl, hn⟩]
    have e451 : mT (mS0 (clampW v)) 451 n = 1 := by rw [mS0_T, if_neg (fun z => absurd z.1 (by decide)), if_pos ⟨Or.inr rfl, hn⟩]
    rw [t0 449 n (by decide) (by decide) (by decide), e450, e451, n1]
    exact ⟨Or.inl rfl, by decide, by decide, fun _ => rfl, by decide, by decide⟩
  · unfold MemW
    have e475 : mT (mS0 (clampW v)) 475 i = 1 := by rw [mS0_T, if_pos ⟨rfl, hi⟩]
    rw [t0 474 i (by decide) (by decide) (by decide), e475]
    exact ⟨by decide, by decide, by decide, fun _ => by decide⟩
def wOf (a en sv ak ro rg : Nat) (ee eq ss ac me : Nat → Nat) (mm st an : Nat → Nat → Nat) : om_w := fun c n =>
  if c = 0 then a else if c = 1 then en else if c = 2 then sv else if c = 3 then ak else if c = 4 then ro else if c = 5 then rg else if c = 6 then ee n else if c = 7 then eq n else if c = 8 then ss n else if c = 9 then ac n else if c = 10 then me n else if c = 11 then mm (n / 10) (n % 10) else if c = 12 then st (n / 10) (n % 10) else an (n / 10) (n % 10)
theorem Rep_start {a : Nat} {v : Int32} (hg : ClsG h a (clampW v)) : ∃ w as, w 0 0 = a ∧ Inj w ∧ Rep w as (mS0 (clampW v)) h := by
  obtain ⟨en, sv, ak, ro, rg, lt, ee, eq, ss, ac, me, mm, st, an, hT, hRw, hE, hS⟩ := hg
  obtain ⟨n1, n2, n3⟩ := mS0_n (clampW v)
  obtain ⟨c1, c2⟩ := clampW_rng v
  have t0 : ∀ f j, f ≠ 475 → f ≠ 450 → f ≠ 451 → mT (mS0 (clampW v)) f j = 0 := fun f j z1 z2 z3 => by
    rw [mS0_T, if_neg (fun z => z1 z.1), if_neg (fun z => z.1.elim z2 z3)]
  have i0 : ∀ f, f ≠ 448 → mI (mS0 (clampW v)) f = 0 := fun f z => by rw [mS0_I, if_neg z]
  have d10 : ∀ s n, n < 10 → (10 * s + n) / 10 = s ∧ (10 * s + n) % 10 = n := fun s n hn => ⟨by omega, by omega⟩
  have mem : ∀ i, i < 40 → MemG h (mm (i / 10) (i % 10)) (st (i / 10) (i % 10)) (an (i / 10) (i % 10)) (clampW v) := fun i hi => ((hS.1 (i / 10) (by omega)).2.2.2.2 (i % 10) (Nat.mod_lt _ (by decide))).2
  refine ⟨wOf a en sv ak ro rg ee eq ss ac me mm st an, fun _ => 0, rfl, ?_, ?_, ?_, ?_, ?_, ?_, ?_, ?_⟩
  · intro c n m hc e
    rcases hc with ⟨rfl, h1, h2⟩ | ⟨rfl, h1, h2⟩ | ⟨rfl, h1, h2⟩ | ⟨rfl, h1, h2⟩ | ⟨rfl, h1, h2⟩ | ⟨rfl, h1, h2⟩
    · exact hE.2.1 n m h1 h2 e
    · exact hE.2.2 n m h1 h2 e
    · exact hS.2.1 n m h1 h2 e
    · exact hS.2.2.1 n m h1 h2 e
    · exact hS.2.2.2.1 n m h1 h2 e
    · exact hS.2.2.2.2 n m h1 h2 e
  · refine ⟨⟨hT.1.1, hT.1.2.2.2.2⟩, ⟨hT.2.1, hT.2.2.1, ⟨hT.2.2.2.1, hT.2.2.2.2.1⟩, ⟨hRw.1.1, hRw.1.2.2.2.2.2⟩, hRw.2.1⟩, fun n hn => ?_, fun s hs => ?_, fun s n hs hn => ?_, fun i hi => ?_⟩
    · obtain ⟨g1, g2⟩ := hE.1 n hn
      exact ⟨g1, g2.1.1, g2.1.2.1, g2.1.2.2.2.2.2.2, g2.2.1, g2.2.2.1⟩
    · obtain ⟨g1, g2⟩ := hS.1 s hs
      exact ⟨g1, g2.1.1, g2.1.2.1, g2.2.1.1, g2.2.1.2.1, g2.1.2.2, g2.2.2.1.1, g2.2.2.1.2⟩
    · obtain ⟨g1, g2⟩ := hS.1 s hs
      show aR h 78 (me s) n = some (mm ((10 * s + n) / 10) ((10 * s + n) % 10))
      rw [(d10 s n hn).1, (d10 s n hn).2]
      exact (g2.2.2.2 n hn).1
    · have q := mem i hi
      exact ⟨q.1.1, q.1.2.1.trans hT.1.2.1.symm, q.1.2.2.2.2.2.1, q.2.1.1, q.2.1.2.1, q.1.2.2.2.2.2.2, q.2.2.1, q.2.2.2⟩
  · unfold RTop
    rw [mS0_I, if_pos rfl, i0 453 (by decide), i0 484 (by decide), i0 468 (by decide), i0 482 (by decide), i0 483 (by decide)]
    exact ⟨hT.1.2.1, hT.1.2.2.1, hT.1.2.2.2.1, hRw.1.2.1, hRw.1.2.2.1, hRw.1.2.2.2.1⟩
  · intro n hn
    obtain ⟨-, g2⟩ := hE.1 n hn
    have e450 : mT (mS0 (clampW v)) 450 n = 1 := by rw [mS0_T, if_neg (fun z => absurd z.1 (by decide)), if_pos ⟨Or.inl rfl, hn⟩]
    have e451 : mT (mS0 (clampW v)) 451 n = 1 := by rw [mS0_T, if_neg (fun z => absurd z.1 (by decide)), if_pos ⟨Or.inr rfl, hn⟩]
    refine ⟨?_, ⟨1, 1, g2.1.2.2.2.2.2.1, by rw [e451]; rfl, by decide, by decide, by decide, by decide, fun k hk => by omega⟩, fun j _ => Or.inl (g2.2.2.2 j)⟩
    rw [t0 449 n (by decide) (by decide) (by decide), if_pos rfl, e450, e451]
    exact ⟨g2.1.2.2.1, g2.1.2.2.2.1, g2.1.2.2.2.2.1⟩
  · exact ⟨fun k hk => by omega, fun k _ _ => hT.2.2.2.2.2 k, fun k hk => by omega, fun k j hk => by omega⟩
  · exact ⟨0, lt, hRw.1.2.2.2.2.1, by decide, fun s hs => hRw.2.2.1 s hs, hRw.2.2.2, fun i hi => by omega⟩
  · intro s b hs hb
    obtain ⟨-, g2⟩ := hS.1 s hs
    rw [mS0_J]
    exact g2.2.1.2.2 b
  · intro i hi
    have q := mem i hi
    have e475 : mT (mS0 (clampW v)) 475 i = 1 := by rw [mS0_T, if_pos ⟨rfl, hi⟩]
    have es : ∀ n, stF (mS0 (clampW v)) i n = 0 := fun n => by unfold stF; rw [mS0_fnd]
    unfold MR
    rw [mS0_I, if_pos rfl, e475, t0 474 i (by decide) (by decide) (by decide)]
    refine ⟨q.1.2.1.trans (inN_tn c1).1, q.1.2.2.1, q.1.2.2.2.1, ?_, fun n _ _ => ⟨?_, fun z => ?_⟩, fun j _ _ => q.2.1.2.2 j⟩
    · rw [cntF_zero _ (fun n _ _ => es n)]
      exact q.1.2.2.2.2.1
    · rw [es]
      exact q.2.1.2.2 _
    · rw [es] at z
      rcases z with z | z <;> exact absurd z (by decide)
end ST
