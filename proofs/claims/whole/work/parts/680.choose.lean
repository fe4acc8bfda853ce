/-! ===== the class has chosen ===== -/
def CB (n : Nat) (t : Nat → Int) (W : Int) (s : SS) : Prop := CX1 n t s ∧ CF n t W s ∧ CW n t s ∧ s 0 6 = W ∧ (1 ≤ W ∧ W ≤ 99) ∧ s 0 8 = bI (bestS n t W).isSome ∧ s 0 9 = bI (ovr n t W) ∧ (∀ x, bestS n t W = some x → shAt s 17 0 x) ∧ CL n t W s
/-- what choosing leaves as it was -/
def frZ (s s' : SS) : Prop := ∀ q k, (q = 0 → k ≠ 8 ∧ k ≠ 9) → (q < 10 ∨ q = 22 ∨ (28 ≤ q ∧ q ≤ 34) ∨ 40 < q) → s' q k = s q k
theorem frZ_trans {a b c : SS} (h1 : frZ a b) (h2 : frZ b c) : frZ a c := fun q k x y => by rw [h2 q k x y, h1 q k x y]
theorem frZ_K {s s' : SS} (h : frK s s') : frZ s s' := fun q k x y => h q k (fun e => by omega) (by omega)
section CHS
variable {n : Nat} {t : Nat → Int} {W : Int} {s s' : SS}
theorem CX1_fr (h : CX1 n t s) (f : frZ s s') : CX1 n t s' := by
  refine ⟨h.1, ?_, fun j hj => ?_, h.2.2.2⟩
  · rw [f 1 8 (by omega) (by omega)]; exact h.2.1
  · rw [f 2 j (by omega) (by omega)]; exact h.2.2.1 j hj
theorem CR_fr (h : CR n t s) (f : frZ s s') : CR n t s' := by
  have g : ∀ q k, 1 ≤ q → q ≤ 9 → s' q k = s q k := fun q k _ _ => f q k (by omega) (by omega)
  obtain ⟨a1, a2, a3, a4, a5, a6, a7⟩ := h
  refine ⟨?_, ?_, ?_, fun k hk => ?_, fun j hj => ?_, fun h0 => ?_, fun j h1 h2 => ?_⟩
  · rw [g 1 9 (by decide) (by decide)]; exact a1
  · rw [g 1 10 (by decide) (by decide)]; exact a2
  · rw [g 1 11 (by decide) (by decide)]; exact a3
  · rw [g 3 k (by decide) (by decide), g 9 k (by decide) (by decide), g 7 k (by decide) (by decide), g 8 k (by decide) (by decide)]; exact a4 k hk
  · rw [g 4 j (by decide) (by decide), g 5 j (by decide) (by decide)]; exact a5 j hj
  · rw [g 6 0 (by decide) (by decide)]; exact a6 h0
  · rw [g 6 j (by decide) (by decide)]; exact a7 j h1 h2
theorem CW_fr (h : CW n t s) (f : frZ s s') : CW n t s' := by
  obtain ⟨⟨a1, a2⟩, a3, a4, a5, a6, a7⟩ := h
  refine ⟨⟨?_, fun w hw => shO_ext (a2 w hw) (fun p _ _ => f p w (by omega) (by omega))⟩, ?_, ?_, fun j hj => ?_, a6, a7⟩
  · rw [f 22 6 (by omega) (by omega)]; exact a1
  · rw [f 22 5 (by omega) (by omega)]; exact a3
  · rw [f 22 4 (by omega) (by omega)]; exact a4
  · rw [f 34 j (by omega) (by omega)]; exact a5 j hj
theorem CL_ext (h : CL n t W s) (f : ∀ q k, 35 ≤ q → q ≤ 40 → s' q k = s q k) : CL n t W s' := by
  rcases h with ⟨a, b⟩ | ⟨a, b, c⟩
  · exact Or.inl ⟨a, by rw [f 35 5 (by decide) (by decide)]; exact b⟩
  · exact Or.inr ⟨a, by rw [f 35 5 (by decide) (by decide)]; exact b, PC_ext c (fun q k _ _ => f q k (by omega) (by omega))⟩
theorem CB_of (hX : CX1 n t s) (hR : CR n t s) (hW : CW n t s) (fr : frZ s s') (h6 : s 0 6 = W) (hW1 : 1 ≤ W ∧ W ≤ 99) (hF : MFc W (pN n t) (pK n t) (pU n t) 0 s') (h16 : pN n t = 0 → s' 16 0 = 0) (h8 : s' 0 8 = bI (bestS n t W).isSome) (h9 : s' 0 9 = bI (ovr n t W)) (h17 : ∀ x, bestS n t W = some x → shAt s' 17 0 x) (hL : CL n t W s') : CB n t W s' :=
  ⟨CX1_fr hX fr, ⟨hX.1, hX.2.2.2, CR_fr hR fr, hF, h16⟩, CW_fr hW fr, by rw [fr 0 6 (fun _ => by decide) (by omega)]; exact h6, hW1, h8, h9, h17, hL⟩
theorem X6_keepBest_v (hn : n ≤ 40) {x : Sh} (hb : bestS n t W = some x) (hR : CR n t s) {r : Nat} (hr : r < 2560) (hx : shAt s 11 r x) :
    ∃ s', f_X6_keepBest (r : Int) s = some s' ∧ shAt s' 17 0 x ∧ CL n t W s' ∧ ∀ q k, (q = 35 → k ≠ 5) → (q < 18 ∨ (21 < q ∧ q < 24) ∨ (27 < q ∧ q < 36) ∨ 40 < q) → s' q k = s q k := by
  obtain ⟨p1, p2, p3, p4⟩ := bestS_ok hn hb
  have hsh := bestS_SH hn hb
  have hx64 : x.2.2.2 < 64 := p3.2.2.2
  have hr' : r < shl 11 := by rw [shl11]; exact hr
  unfold f_X6_keepBest
  have t0 : f_X3_tell 11 (r : Int) 0 s = some (x.1 : Int) := by rw [X3_tell_v hr' hx]; rfl
  have t1 : f_X3_tell 11 (r : Int) 1 s = some (x.2.1 : Int) := by rw [X3_tell_v hr' hx]; rfl
  have t2 : f_X3_tell 11 (r : Int) 2 s = some (x.2.2.1 : Int) := by rw [X3_tell_v hr' hx]; rfl
  have t3 : f_X3_tell 11 (r : Int) 3 s = some (x.2.2.2 : Int) := by rw [X3_tell_v hr' hx]; rfl
  have es : f_X3_set 17 0 (x.1 : Int) (x.2.1 : Int) (x.2.2.1 : Int) (x.2.2.2 : Int) s = some (st4 s 17 0 x) := X3_set_v (q := 17) (i := 0) (by rw [shl17]; omega)
  have a17 := st4_at s 17 0 x
  have t4 : f_X3_tell 17 0 3 (st4 s 17 0 x) = some (x.2.2.2 : Int) := by
    have e : f_X3_tell 17 0 3 (st4 s 17 0 x) = _ := X3_tell_v (q := 17) (i := 0) (x := 3) (by rw [shl17]; omega) a17
    rw [e]
    rfl
  have f1 : ∀ q k, (q < 18 ∨ 21 < q) → st4 s 17 0 x q k = s q k := fun q k h => st4_off (by omega)
  have hR9 : st4 s 17 0 x 1 9 = (pN n t : Int) := by rw [f1 1 9 (by omega)]; exact hR.1
  have hCP : CP (pN n t) (pK n t) (pU n t) (st4 s 17 0 x) := CP_fr hR.2.2.2.1 (fun q k hq => f1 q k (by omega))
  obtain ⟨s2, a2, b2, c2⟩ := X5_shapeParts_v hx64 p2 hR9 hCP
  obtain ⟨s3, a3, b3, c3, d3⟩ := X2_place_v p2 p1 hsh rfl (s := s2) (by rw [c2 1 9 (by omega)]; exact hR9) (CP_fr hCP (fun q k hq => c2 q k (by omega))) b2
  rw [t0, bn_t, t1, bn_t, t2, bn_t, t3, bn_t, es, bn_t, t4, bn_t, a2, bn_t, a3, bn_t]
  have eP : PB n t W = PF x.2.2.2 (pN n t) (pK n t) (pU n t) := by unfold PB; rw [hb]
  refine ⟨s3, rfl, shAt_ext a17 (fun p z1 z2 => by rw [d3 p 0 (by omega) (by omega), c2 p 0 (by omega)]), Or.inr ⟨⟨x, hb⟩, c3, by rw [eP]; exact b3⟩, fun q k y z => ?_⟩
  rw [d3 q k y (by omega), c2 q k (by omega), f1 q k (by omega)]
theorem X6_chooseBest_v (hX : CX1 n t s) (hR : CR n t s) (hW : CW n t s) (h6 : s 0 6 = W) (hW1 : 1 ≤ W ∧ W ≤ 99) : ∃ s', f_X6_chooseBest s = some s' ∧ CB n t W s' ∧ frZ s s' := by
  have hn := hX.1
  have hl : pN n t ≤ n := (pts_ok n t).2
  obtain ⟨s1, a1, b1, c1, d1⟩ := X1_make_v (W := W) (D_0 (t := t) hn) hR.1 hR.2.2.2.1
  have z1 := frZ_K c1
  have h19 : s1 1 9 = (pN n t : Int) := by rw [z1 1 9 (by omega) (by omega)]; exact hR.1
  -- the end: 87
  have up2 : ∀ (u : SS) (o z : Int), ∀ q k, (q = 0 → k ≠ 8 ∧ k ≠ 9) → (q = 35 → k ≠ 5) → up (up (up u 0 9 o) 0 8 z) 35 5 0 q k = u q k := by
    intro u o z q k x y
    unfold up
    repeat' split
    all_goals (first | rfl | omega)
  unfold f_X6_chooseBest
  rw [h6, a1, bn_t, h19]
  by_cases h0 : pN n t = 0
  · have hb : bestS n t W = none := by unfold bestS; rw [if_pos h0]
    have ho : ovr n t W = false := by unfold ovr; rw [h0]; rfl
    have ef := (X1_few_v (s := s1) (L := []) (by rw [d1 h0]; rfl) (fun j hj => absurd hj (by simp)) (by simp)).1 rfl
    rw [ef, bn_t, if_pos (by omega)]
    unfold g_X6_chooseBest_43 g_X6_chooseBest_44
    rw [gb_0, sb_t, up_s, if_pos rfl]
    unfold g_X6_chooseBest_76
    rw [if_pos rfl]
    unfold g_X6_chooseBest_87 f_X2_clear
    rw [gb_0, sb_t, sb_t, bn_t, up_q (by decide), up_s, if_pos rfl]
    unfold g_X6_chooseBest_109 g_X6_chooseBest_131
    rw [up_q (by decide), up_k (by decide), up_s, if_pos rfl]
    have fr : frZ s (up (up (up s1 0 9 0) 0 8 0) 35 5 0) := fun q k x y => by rw [up2 s1 0 0 q k x (by omega), z1 q k x y]
    refine ⟨_, rfl, CB_of hX hR hW fr h6 hW1 ⟨?_, ?_, fun k k1 k2 => by omega⟩ (fun _ => ?_) ?_ ?_ (fun x hx => by rw [hb] at hx; cases hx) (Or.inl ⟨hb, up_s⟩), fr⟩
    · rw [up2 s1 0 0 10 2 (by omega) (by omega)]; exact b1.1
    · rw [up2 s1 0 0 10 3 (by omega) (by omega)]; exact b1.2.1
    · rw [up2 s1 0 0 16 0 (by omega) (by omega)]; exact d1 h0
    · rw [up_q (by decide), up_s, hb]; rfl
    · rw [up_q (by decide), up_k (by decide), up_s, ho]; rfl
  · have hd := D_1 (t := t) hn (by omega)
    obtain ⟨f1, f2, f3, f4⟩ := b1.2.2 0 (by omega) (by omega)
    have f2' : rowC s1 0 (FR W (pN n t) (pK n t) (pU n t) 0) := f2
    have ff := X1_few_v f1 f2' f4
    by_cases hE : FR W (pN n t) (pK n t) (pU n t) 0 = []
    · have ho : ovr n t W = true := by
        unfold ovr
        rw [decide_eq_true (by omega), hE]
        rfl
      rw [ff.1 hE, bn_t, if_neg (by omega), if_pos rfl]
      unfold g_X6_chooseBest_44
      rw [gb_1, sb_t, up_s, if_neg (by decide)]
      have u1 : ∀ q k, (q = 0 → k ≠ 9) → up s1 0 9 1 q k = s1 q k := by
        intro q k x
        unfold up
        rw [if_neg (fun z => x z.1 z.2)]
      have h19' : up s1 0 9 1 1 9 = (pN n t : Int) := by rw [up_q (by decide)]; exact h19
      have hCP1 : CP (pN n t) (pK n t) (pU n t) (up s1 0 9 1) := by
        have := CR_fr hR z1
        intro k hk
        rw [up_q (by decide), up_q (by decide), up_q (by decide), up_q (by decide)]
        exact this.2.2.2.1 k hk
      obtain ⟨s2, a2, b2, c2, d2⟩ := X1_make_v (W := 1000) (D_0 (t := t) hn) h19' hCP1
      rw [a2, bn_t]
      obtain ⟨g1, g2, g3, g4⟩ := b2.2.2 0 (by omega) (by omega)
      have eB : FR 1000 (pN n t) (pK n t) (pU n t) 0 = FR 500 (pN n t) (pK n t) (pU n t) 0 := FR_big hd (by decide) (by decide) 0 (by omega)
      rw [eB] at g1 g2 g3 g4
      have g2' : rowC s2 0 (FR 500 (pN n t) (pK n t) (pU n t) 0) := g2
      have gg := X1_les_v g1 g2' g4
      have zz : frZ s s2 := fun q k x y => by
        rw [c2 q k (fun e => by omega) (by omega), u1 q k (fun e => (x e).2), z1 q k x y]
      have h29 : s2 0 9 = 1 := by rw [c2 0 9 (fun e => by omega) (by omega)]; exact up_s
      have v2 : ∀ z : Int, ∀ q k, (q = 0 → k ≠ 8) → (q = 35 → k ≠ 5) → up (up s2 0 8 z) 35 5 0 q k = s2 q k := by
        intro z q k x y
        unfold up
        repeat' split
        all_goals (first | rfl | omega)
      by_cases hE2 : FR 500 (pN n t) (pK n t) (pU n t) 0 = []
      · have hb : bestS n t W = none := by unfold bestS; rw [if_neg h0, if_pos ho, hE2]; rfl
        rw [gg.1 hE2, bn_t]
        unfold g_X6_chooseBest_76
        rw [if_pos rfl]
        unfold g_X6_chooseBest_87 f_X2_clear
        rw [gb_0, sb_t, sb_t, bn_t, up_q (by decide), up_s, if_pos rfl]
        unfold g_X6_chooseBest_109 g_X6_chooseBest_131
        rw [v2 0 0 9 (fun _ => by decide) (by omega), h29, if_neg (by decide), v2 0 0 6 (fun _ => by decide) (by omega), zz 0 6 (fun _ => by decide) (by omega), h6]
        have fr2 : frZ s (up (up s2 0 8 0) 35 5 0) := fun q k x y => by rw [v2 0 q k (fun e => (x e).1) (by omega), zz q k x y]
        have hR2 := CR_fr hR fr2
        obtain ⟨s3, a3, b3, c3, d3⟩ := X1_make_v (W := W) (D_0 (t := t) hn) hR2.1 hR2.2.2.2.1
        rw [a3, bn_t]
        have fr3 := frZ_trans fr2 (frZ_K c3)
        refine ⟨s3, rfl, CB_of hX hR hW fr3 h6 hW1 b3 d3 ?_ ?_ (fun x hx => by rw [hb] at hx; cases hx) (Or.inl ⟨hb, ?_⟩), fr3⟩
        · rw [c3 0 8 (fun e => by omega) (by omega), up_q (by decide), up_s, hb]; rfl
        · rw [c3 0 9 (fun e => by omega) (by omega), v2 0 0 9 (fun _ => by decide) (by omega), h29, ho]; rfl
        · rw [c3 35 5 (fun e => by omega) (by omega)]; exact up_s
      · obtain ⟨r, r1, r2, r3⟩ := gg.2 hE2
        have hb : bestS n t W = some ((FR 500 (pN n t) (pK n t) (pU n t) 0).getD r d0) := by unfold bestS; rw [if_neg h0, if_pos ho]; exact r3
        rw [r1, bn_t]
        unfold g_X6_chooseBest_76
        rw [if_neg (by omega)]
        unfold g_X6_chooseBest_87 f_X2_clear
        rw [gb_1, sb_t, sb_t, bn_t, up_q (by decide), up_s, if_neg (by decide)]
        have fr2 : frZ s (up (up s2 0 8 1) 35 5 0) := fun q k x y => by rw [v2 1 q k (fun e => (x e).1) (by omega), zz q k x y]
        have hR2 := CR_fr hR fr2
        have hxr : shAt (up (up s2 0 8 1) 35 5 0) 11 r ((FR 500 (pN n t) (pK n t) (pU n t) 0).getD r d0) := by
          have := g2' r r2
          rw [Nat.zero_add] at this
          exact shAt_ext this (fun p _ _ => v2 1 p r (by omega) (by omega))
        obtain ⟨s3, a3, b3, c3, d3⟩ := X6_keepBest_v hn hb hR2 (by omega) hxr
        rw [a3, bn_t]
        have fr3 : frZ s s3 := fun q k x y => by rw [d3 q k (by omega) (by omega), fr2 q k x y]
        have h39 : s3 0 9 = 1 := by rw [d3 0 9 (by omega) (by omega), v2 1 0 9 (fun _ => by decide) (by omega), h29]
        unfold g_X6_chooseBest_109 g_X6_chooseBest_131
        rw [h39, if_neg (by decide), fr3 0 6 (fun _ => by decide) (by omega), h6]
        have hR3 := CR_fr hR fr3
        obtain ⟨s4, a4, b4, c4, d4⟩ := X1_make_v (W := W) (D_0 (t := t) hn) hR3.1 hR3.2.2.2.1
        rw [a4, bn_t]
        have fr4 := frZ_trans fr3 (frZ_K c4)
        refine ⟨s4, rfl, CB_of hX hR hW fr4 h6 hW1 b4 d4 ?_ ?_ (fun x hx => ?_) (CL_ext c3 (fun q k _ _ => c4 q k (by omega) (by omega))), fr4⟩
        · rw [c4 0 8 (fun e => by omega) (by omega), d3 0 8 (by omega) (by omega), up_q (by decide), up_s, hb]; rfl
        · rw [c4 0 9 (fun e => by omega) (by omega), h39, ho]; rfl
        · rw [hb] at hx
          injection hx with hx
          rw [← hx]
          exact shAt_ext b3 (fun p _ _ => c4 p 0 (by omega) (by omega))
    · have ho : ovr n t W = false := by
        unfold ovr
        have : (FR W (pN n t) (pK n t) (pU n t) 0).isEmpty = false := by
          cases hq : (FR W (pN n t) (pK n t) (pU n t) 0) with
          | nil => exact absurd hq hE
          | cons _ _ => rfl
        rw [this, Bool.and_false]
      obtain ⟨r, r1, r2, r3⟩ := ff.2 hE
      have hb : bestS n t W = some ((FR W (pN n t) (pK n t) (pU n t) 0).getD r d0) := by unfold bestS; rw [if_neg h0, ho, if_neg (by decide)]; exact r3
      rw [r1, bn_t, if_neg (by omega), if_neg (by omega)]
      unfold g_X6_chooseBest_43 g_X6_chooseBest_44
      rw [gb_0, sb_t, up_s, if_pos rfl]
      unfold g_X6_chooseBest_76
      rw [if_neg (by omega)]
      unfold g_X6_chooseBest_87 f_X2_clear
      rw [gb_1, sb_t, sb_t, bn_t, up_q (by decide), up_s, if_neg (by decide)]
      have fr2 : frZ s (up (up (up s1 0 9 0) 0 8 1) 35 5 0) := fun q k x y => by rw [up2 s1 0 1 q k x (by omega), z1 q k x y]
      have hR2 := CR_fr hR fr2
      have hxr : shAt (up (up (up s1 0 9 0) 0 8 1) 35 5 0) 11 r ((FR W (pN n t) (pK n t) (pU n t) 0).getD r d0) := by
        have := f2' r r2
        rw [Nat.zero_add] at this
        exact shAt_ext this (fun p _ _ => up2 s1 0 1 p r (by omega) (by omega))
      obtain ⟨s3, a3, b3, c3, d3⟩ := X6_keepBest_v hn hb hR2 (by omega) hxr
      rw [a3, bn_t]
      have fr3 : frZ s s3 := fun q k x y => by rw [d3 q k (by omega) (by omega), fr2 q k x y]
      have h39 : s3 0 9 = 0 := by rw [d3 0 9 (by omega) (by omega), up_q (by decide), up_k (by decide), up_s]
      unfold g_X6_chooseBest_109 g_X6_chooseBest_131
      rw [h39, if_pos rfl]
      have e31 : ∀ q k, 10 ≤ q → q ≤ 16 → s3 q k = s1 q k := fun q k _ _ => by rw [d3 q k (by omega) (by omega), up2 s1 0 1 q k (by omega) (by omega)]
      refine ⟨s3, rfl, CB_of hX hR hW fr3 h6 hW1 ⟨?_, ?_, fun k k1 k2 => ?_⟩ (fun z => absurd z h0) ?_ ?_ (fun x hx => ?_) c3, fr3⟩
      · rw [e31 10 2 (by decide) (by decide)]; exact b1.1
      · rw [e31 10 3 (by decide) (by decide)]; exact b1.2.1
      · obtain ⟨y1, y2, y3, y4⟩ := b1.2.2 k k1 k2
        exact ⟨by rw [e31 16 k (by decide) (by decide)]; exact y1, fun j hj => shAt_ext (y2 j hj) (fun p _ _ => e31 p _ (by omega) (by omega)), y3, y4⟩
      · rw [d3 0 8 (by omega) (by omega), up_q (by decide), up_s, hb]; rfl
      · rw [h39, ho]; rfl
      · rw [hb] at hx
        injection hx with hx
        rw [← hx]
        exact b3
/-- the text is read, and the best is chosen -/
theorem X6_rc_v (hX : CX1 n t s) (h6 : s 0 6 = W) (hW1 : 1 ≤ W ∧ W ≤ 99) : ∃ s2 s3, f_X6_readDoc s = some s2 ∧ f_X6_chooseBest s2 = some s3 ∧ CB n t W s3 ∧ (∀ q k, 40 < q → s3 q k = s q k) ∧ s3 0 7 = s 0 7 := by
  obtain ⟨s2, a, b, c, d, e⟩ := X6_readDoc_v hX
  obtain ⟨s3, a3, b3, c3⟩ := X6_chooseBest_v b c d (by rw [e 0 6 (by omega) (by omega)]; exact h6) hW1
  refine ⟨s2, s3, a, a3, b3, fun q k hq => ?_, ?_⟩
  · rw [c3 q k (by omega) (by omega), e q k (by omega) (by omega)]
  · rw [c3 0 7 (fun _ => by decide) (by omega), e 0 7 (by omega) (by omega)]
theorem X6_best_v (h : CB n t W s) (y : Int) : f_X6_best y s = some (if 0 ≤ y ∧ y ≤ 4 then besA n t W y else -2) := by
  obtain ⟨-, -, -, -, -, h8, h9, h17, -⟩ := h
  unfold f_X6_best g_X6_best_9 g_X6_best_38
  by_cases q1 : y < 0
  · rw [if_pos q1, if_neg (by omega)]
  · rw [if_neg q1]
    by_cases q2 : y ≤ 4
    · rw [if_pos q2, if_pos (show 0 ≤ y ∧ y ≤ 4 by omega), h8, h9]
      unfold besA
      cases hb : bestS n t W with
      | none => rw [if_pos (show bI (none : Option Sh).isSome = 0 from rfl)]
      | some x =>
        rw [if_neg (show ¬ bI (some x).isSome = 0 from (by decide : ¬ (1 : Int) = 0))]
        dsimp only
        have e : f_X3_tell 17 0 y s = _ := X3_tell_v (q := 17) (i := 0) (x := y) (by rw [shl17]; omega) (h17 x hb)
        by_cases q3 : y = 4
        · rw [if_pos q3, if_pos q3]
          cases ovr n t W
          · rfl
          · rfl
        · rw [if_neg q3, if_neg q3, e, bn_t]
          rfl
    · rw [if_neg q2, if_neg (by omega)]
theorem X7_best_v (h : TX n t W s) (y : Int) : ∃ s', f_X7_best y s = some (if 0 ≤ y ∧ y ≤ 4 then besA n t W y else -2, s') ∧ frX s s' := by
  unfold f_X7_best g_X7_best_19
  rw [X7_in_v, bn_t]
  by_cases q : 0 ≤ y ∧ y ≤ 4
  · obtain ⟨s1, a, b⟩ := X7_bestOf_v h y
    refine ⟨s1, ?_, b⟩
    rw [if_pos q, if_neg (show ¬ (1 : Int) = 0 by decide), a, cb_t, if_pos q]
  · exact ⟨s, by rw [if_neg q, if_pos rfl, if_neg q], frX_refl s⟩
end CHS
