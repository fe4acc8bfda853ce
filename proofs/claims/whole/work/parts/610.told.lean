/-! ===== what is told of parts and frontiers ===== -/
abbrev pN (n : Nat) (t : Nat → Int) : Nat := (pts n t).length
abbrev pK (n : Nat) (t : Nat → Int) : Nat → Int := kdL (pts n t)
abbrev pU (n : Nat) (t : Nat → Int) : Nat → Int := nuL (pts n t)
abbrev pC (n : Nat) (t : Nat → Int) : Nat := chs (pts n t)
theorem D_0 {n : Nat} {t : Nat → Int} (hn : n ≤ 40) : DOK0 (pN n t) (pK n t) (pU n t) := by
  have h := pts_ok n t
  rcases Nat.eq_zero_or_pos (pts n t).length with h0 | h0
  · exact Or.inl h0
  · have hne : pts n t ≠ [] := fun q => by rw [q] at h0; simp at h0
    exact Or.inr (DOK_of (by omega) (pts_wf hne).1 h.1)
theorem D_1 {n : Nat} {t : Nat → Int} (hn : n ≤ 40) (h : 0 < pN n t) : DOK (pN n t) (pK n t) (pU n t) := by
  rcases D_0 (t := t) hn with h0 | h0
  · omega
  · exact h0
/-- what the model keeps from call to call -/
def frX (s s' : SS) : Prop := ∀ q k, (q = 0 → k = 0 ∨ k = 2 ∨ k = 30) → (q ≤ 1 ∨ (16 ≤ q ∧ q ≤ 19)) → s' q k = s q k
theorem frX_refl (s : SS) : frX s s := fun _ _ _ _ => rfl
theorem frX_trans {a b c : SS} (h1 : frX a b) (h2 : frX b c) : frX a c := fun q k x y => by rw [h2 q k x y, h1 q k x y]
theorem frX_M {s s' : SS} (h : frM s s') : frX s s' := fun q k x y => h q k (fun e => by have := x e; omega) (by omega)
theorem frX_F {s s' : SS} (h : frF2 s s') : frX s s' := fun q k x y => h q k (fun e => by have := x e; omega) (by omega) (by omega)
/-- the model's state is of this text, this width -/
def TX (n : Nat) (t : Nat → Int) (W : Int) (s : SS) : Prop := MT n t s ∧ s 0 2 = W ∧ 1 ≤ W ∧ W ≤ 99
theorem TX_fr {n : Nat} {t : Nat → Int} {W : Int} {s s' : SS} (h : TX n t W s) (f : frX s s') : TX n t W s' := by
  obtain ⟨⟨a, b, c, d⟩, e, g⟩ := h
  exact ⟨⟨a, by rw [f 0 0 (fun _ => Or.inl rfl) (Or.inl (by decide))]; exact b, fun j hj => by rw [f 1 j (fun q => by cases q) (Or.inl (by decide))]; exact c j hj, d⟩, by rw [f 0 2 (fun _ => Or.inr (Or.inl rfl)) (Or.inl (by decide))]; exact e, g⟩
theorem MR_MP {n : Nat} {t : Nat → Int} {s : SS} (h : MR n t s) : MP (pN n t) (pK n t) (pU n t) s := by
  obtain ⟨-, -, -, hr, hb, -⟩ := h
  intro k hk
  obtain ⟨a, b, -⟩ := hr k hk
  exact ⟨a, b, fun q => ((hb k (by omega) hk).2.2.2 q).1⟩
theorem MR_F {n : Nat} {t : Nat → Int} {s s' : SS} (h : MR n t s) (f : frF2 s s') : MR n t s' := by
  obtain ⟨a, b, c, hr, hb, hz⟩ := h
  have g : ∀ q k, 2 ≤ q → q ≤ 8 → s' q k = s q k := fun q k x y => f q k (fun e => by omega) (by omega) (by omega)
  refine ⟨by rw [f 0 3 (fun _ => by decide) (by decide) (by decide)]; exact a, by rw [f 0 4 (fun _ => by decide) (by decide) (by decide)]; exact b, by rw [f 0 5 (fun _ => by decide) (by decide) (by decide)]; exact c, fun j hj => ?_, fun k x y => ?_, by rw [g 8 0 (by decide) (by decide)]; exact hz⟩
  · rw [g 2 j (by decide) (by decide), g 3 j (by decide) (by decide), g 4 j (by decide) (by decide)]
    exact hr j hj
  · rw [g 5 k (by decide) (by decide), g 6 k (by decide) (by decide), g 7 k (by decide) (by decide), g 8 _ (by decide) (by decide), g 8 _ (by decide) (by decide)]
    exact hb k x y
theorem X7_findsFronts_v {W : Int} {np : Nat} {kd nu : Nat → Int} (hd : DOK0 np kd nu) {s : SS} (h4 : s 0 4 = (np : Int)) (hp : MP np kd nu s) : ∃ s', f_X7_findsFronts W s = some s' ∧ MF W np kd nu 0 s' ∧ frF2 s s' := by
  have hnp : np ≤ 40 := by
    rcases hd with h | h
    · omega
    · exact h.1
  unfold f_X7_findsFronts
  rw [sb_t, sb_t, sb_t, sb_t]
  generalize hs : up (up (up s 0 17 W) 0 15 0) 0 16 0 = s3
  have g : ∀ q k, (q = 0 → k ≠ 15 ∧ k ≠ 16 ∧ k ≠ 17) → s3 q k = s q k := by
    intro q k h1
    rw [← hs]
    by_cases hq : q = 0
    · subst hq; rw [up_k (h1 rfl).2.1, up_k (h1 rfl).1, up_k (h1 rfl).2.2]
    · rw [up_q hq, up_q hq, up_q hq]
  have hM : MF W np kd nu np s3 := by
    refine ⟨?_, ?_, ?_, fun k h1 h2 => by omega⟩
    · rw [← hs, up_k (by decide), up_k (by decide), up_s]
    · rw [← hs, up_k (by decide), up_s]; unfold trT; rw [smS_0]; rfl
    · rw [← hs, up_s]; unfold trG; rw [smS_0]; rfl
  have hp3 : MP np kd nu s3 := fun k hk => by
    rw [g 2 k (fun q => by cases q), g 3 k (fun q => by cases q), g 7 k (fun q => by cases q)]
    exact hp k hk
  rw [g 0 4 (fun _ => by decide), h4, wr_t (by omega) (by omega)]
  rcases hd with h | h
  · subst h
    refine ⟨s3, ?_, hM, fun q k x0 x1 x2 => g q k x0⟩
    show g_X7_findsFronts_22 (f_X7_findsFronts_22 199) _ s3 = _
    unfold g_X7_findsFronts_22 g_X7_findsFronts_172
    rw [if_pos (by omega)]
  · obtain ⟨s', a1, a2, a3⟩ := ff_all h np FU s3 (Nat.le_refl _) (by unfold FU; omega) hp3 hM
    exact ⟨s', a1, a2, fun q k x0 x1 x2 => by rw [a3 q k x0 x1 x2, g q k x0]⟩
theorem X7_reads_x {n : Nat} {t : Nat → Int} {W : Int} {s : SS} (h : TX n t W s) : ∃ s', f_X7_reads s = some s' ∧ MR n t s' ∧ frX s s' := by
  obtain ⟨s', a, b, c⟩ := X7_reads_v h.1
  exact ⟨s', a, b, frX_M c⟩
theorem X7_frontsTold_v {n : Nat} {t : Nat → Int} {W : Int} {s : SS} (h : TX n t W s) : ∃ s', f_X7_frontsTold s = some s' ∧ MR n t s' ∧ MF W (pN n t) (pK n t) (pU n t) 0 s' ∧ frX s s' := by
  obtain ⟨s1, a, b, c⟩ := X7_reads_x h
  have e2 := (TX_fr h c).2.1
  obtain ⟨s2, a2, b2, c2⟩ := X7_findsFronts_v (W := W) (D_0 (t := t) h.1.1) b.2.1 (MR_MP b)
  refine ⟨s2, ?_, MR_F b c2, b2, frX_trans c (frX_F c2)⟩
  unfold f_X7_frontsTold
  rw [a, bn_t, e2, a2, bn_t]
/-- the one that it is the first or second one of -/
noncomputable def abv (np : Nat) (kd : Nat → Int) (j : Nat) : Int := if j = 0 then -1 else @dite Int (∃ k, isPar np kd k j) (Classical.propDecidable _) (fun h => ((Classical.choose h : Nat) : Int)) (fun _ => -1)
theorem abv_eq {np : Nat} {kd : Nat → Int} (hw : wfd np kd) {j k : Nat} (hj : 0 < j) (h : isPar np kd k j) : abv np kd j = (k : Int) := by
  unfold abv
  rw [if_neg (by omega), dif_pos ⟨k, h⟩]
  have := isPar.unique hw (Classical.choose_spec (⟨k, h⟩ : ∃ k, isPar np kd k j)) h
  omega
theorem par_ex {n : Nat} {t : Nat → Int} (hn : n ≤ 40) (ht : ∀ j, j < n → 0 ≤ t j ∧ t j ≤ 255) : ∀ j, 0 < j → j < pN n t → ∃ k, isPar (pN n t) (pK n t) k j := by
  intro j h1 h2
  obtain ⟨s', -, hR, -⟩ := X0_parse_v (n := n) (t := t) (s := fun q k => if q = 1 ∧ k = 8 then (n : Int) else if q = 2 then t k else 0) ⟨hn, by simp, fun j hj => by simp, ht⟩
  obtain ⟨k, hk, -⟩ := hR.2.2.2.2.2.2 j h1 h2
  exact ⟨k, hk⟩
def tellA (x : Sh) (w : Int) : Int := ((if w = 0 then x.1 else if w = 1 then x.2.1 else if w = 2 then x.2.2.1 else x.2.2.2 : Nat) : Int)
theorem X7_tellOf_v {x : Sh} (hx : sOK x) (w : Int) : f_X7_tellOf (pk x : Int) w = some (tellA x w) := by
  unfold f_X7_tellOf g_X7_tellOf_39 tellA
  rw [X7_lines_pk hx, X7_last_pk hx, X7_most_pk hx, X7_way_pk hx, bn_t, bn_t, bn_t, bn_t]
  split
  · rfl
  · split
    · rfl
    · split <;> rfl
noncomputable def partA (n : Nat) (t : Nat → Int) (W x y : Int) : Int :=
  if (0 ≤ x ∧ x < pN n t) ∧ 0 ≤ y ∧ y ≤ 3 then (if y = 0 then beL (pts n t) x.toNat else if y = 1 then (sz (pN n t) (pK n t) x.toNat : Int) else if y = 2 then ((FR W (pN n t) (pK n t) (pU n t) x.toNat).length : Int) else abv (pN n t) (pK n t) x.toNat) else -2
def fronA (n : Nat) (t : Nat → Int) (W x i y : Int) : Int :=
  if (0 ≤ x ∧ x < pN n t) ∧ (0 ≤ i ∧ i ≤ 63) ∧ 0 ≤ y ∧ y ≤ 3 then (if i < (FR W (pN n t) (pK n t) (pU n t) x.toNat).length then tellA ((FR W (pN n t) (pK n t) (pU n t) x.toNat).getD i.toNat d0) y else -1) else -2
def triA (n : Nat) (t : Nat → Int) (W y : Int) : Int := if y = 0 then (trT W (pN n t) (pK n t) (pU n t) 0 : Int) else (trG W (pN n t) (pK n t) (pU n t) 0 : Int)
def whoA (n : Nat) (t : Nat → Int) (W : Int) : Int := if pN n t = 0 then 0 else ((FR W (pN n t) (pK n t) (pU n t) 0).length : Int)
section MQ
variable {n : Nat} {t : Nat → Int} {W : Int} {s : SS}
theorem X7_isPart_v (h : TX n t W s) (x : Int) : ∃ s', f_X7_isPart x s = some (if 0 ≤ x ∧ x < pN n t then 1 else 0, s') ∧ MR n t s' ∧ frX s s' := by
  obtain ⟨s1, a, b, c⟩ := X7_reads_x h
  have hl : pN n t ≤ n := (pts_ok n t).2
  have hn := h.1.1
  refine ⟨s1, ?_, b, c⟩
  unfold f_X7_isPart
  rw [a, bn_t, show s1 0 4 = (pN n t : Int) from b.2.1, wr_t (by omega) (by omega), X7_in_v, bn_t]
  by_cases q : 0 ≤ x ∧ x < pN n t
  · rw [if_pos q, if_pos (by omega), gb_1]
  · rw [if_neg q, if_neg (by omega), gb_0]
theorem X7_manyOf_v (h : TX n t W s) {k : Nat} (hk : k < pN n t) : ∃ s', f_X7_manyOf (k : Int) s = some (((FR W (pN n t) (pK n t) (pU n t) k).length : Int), s') ∧ frX s s' := by
  obtain ⟨s1, a, b, c, d⟩ := X7_frontsTold_v h
  have hl : pN n t ≤ n := (pts_ok n t).2
  have hn := h.1.1
  refine ⟨s1, ?_, d⟩
  unfold f_X7_manyOf
  rw [a, bn_t, gx_d (by omega) (by omega), tn_c, (c.2.2.2 k (by omega) hk).1]
theorem X7_part_v (h : TX n t W s) (x y : Int) : ∃ s', f_X7_part x y s = some (partA n t W x y, s') ∧ frX s s' := by
  obtain ⟨s1, a, b, c⟩ := X7_isPart_v h x
  have hl : pN n t ≤ n := (pts_ok n t).2
  have hn := h.1.1
  unfold f_X7_part g_X7_part_26 g_X7_part_28 partA
  rw [a, cb_t]
  by_cases q : 0 ≤ x ∧ x < pN n t
  · rw [if_pos q, if_neg (by decide), X7_in_v, bn_t]
    by_cases q2 : 0 ≤ y ∧ y ≤ 3
    · rw [if_pos q2, if_neg (by decide), if_pos ⟨q, q2⟩]
      obtain ⟨k, rfl⟩ : ∃ k : Nat, x = (k : Int) := ⟨x.toNat, by omega⟩
      have hk : k < pN n t := by omega
      have hw := (D_1 (t := t) hn (by omega)).2.1
      obtain ⟨-, -, -, hr, hb, hz⟩ := b
      unfold f_X7_partOf g_X7_partOf_46
      rw [tn_c]
      by_cases y0 : y = 0
      · rw [if_pos y0, if_pos y0, gx_d (by omega) (by omega), cb_t, (hr k hk).2.2]
        exact ⟨s1, rfl, c⟩
      · rw [if_neg y0, if_neg y0]
        by_cases y1 : y = 1
        · rw [if_pos y1, if_pos y1, gx_d (by omega) (by omega), cb_t, (hb k (by omega) hk).1]
          exact ⟨s1, rfl, c⟩
        · rw [if_neg y1, if_neg y1]
          by_cases y2 : y = 2
          · obtain ⟨s2, a2, c2⟩ := X7_manyOf_v (TX_fr h c) hk
            rw [if_pos y2, if_pos y2, a2, cb_t, cb_t]
            exact ⟨s2, rfl, frX_trans c c2⟩
          · rw [if_neg y2, if_neg y2, gx_d (by omega) (by omega), cb_t]
            refine ⟨s1, ?_, c⟩
            congr 2
            by_cases k0 : k = 0
            · subst k0
              rw [hz]
              unfold abv
              rw [if_pos rfl]
            · obtain ⟨p, hp⟩ := par_ex hn h.1.2.2.2 k (by omega) hk
              rw [abv_eq hw (by omega) hp]
              obtain ⟨p1, p2⟩ := hp
              rcases p2 with ⟨p2, p3⟩ | ⟨p2, p3⟩
              · rw [p3]; exact (hb p (by omega) p1).2.2.1 p2
              · rw [p3]; exact ((hb p (by omega) p1).2.2.2 p2).2
    · rw [if_neg q2, if_pos rfl, if_neg (fun z => q2 z.2)]
      exact ⟨s1, rfl, c⟩
  · rw [if_neg q, if_pos rfl, if_neg (fun z => q z.1)]
    exact ⟨s1, rfl, c⟩
theorem X7_frontier_v (h : TX n t W s) (x i y : Int) : ∃ s', f_X7_frontier x i y s = some (fronA n t W x i y, s') ∧ frX s s' := by
  obtain ⟨s1, a, b, c⟩ := X7_isPart_v h x
  have hl : pN n t ≤ n := (pts_ok n t).2
  have hn := h.1.1
  unfold f_X7_frontier g_X7_frontier_37 g_X7_frontier_39 fronA
  rw [a, cb_t]
  by_cases q : 0 ≤ x ∧ x < pN n t
  · rw [if_pos q, if_neg (by decide), X7_in_v, bn_t]
    by_cases q2 : 0 ≤ i ∧ i ≤ 63
    · rw [if_pos q2, if_neg (by decide), X7_in_v, bn_t]
      by_cases q3 : 0 ≤ y ∧ y ≤ 3
      · rw [if_pos q3, if_neg (by decide), if_pos ⟨q, q2, q3⟩]
        obtain ⟨s2, a2, b2, c2, d2⟩ := X7_frontsTold_v (TX_fr h c)
        obtain ⟨k, rfl⟩ : ∃ k : Nat, x = (k : Int) := ⟨x.toNat, by omega⟩
        have hk : k < pN n t := by omega
        obtain ⟨f1, f2, f3, f4⟩ := c2.2.2.2 k (by omega) hk
        unfold f_X7_frontierOf g_X7_frontierOf_33
        rw [a2, bn_t, gx_d (by omega) (by omega), tn_c, f1]
        by_cases q4 : i < ((FR W (pN n t) (pK n t) (pU n t) k).length : Int)
        · rw [if_neg (by omega), if_pos q4, wr_t (a := 64 * (k : Int)) (by omega) (by omega), wr_t (by omega) (by omega), gx_d (by omega) (by omega), show (64 * (k : Int) + i).toNat = 64 * k + i.toNat by omega, f2 i.toNat (by omega)]
          have hm : (FR W (pN n t) (pK n t) (pU n t) k).getD i.toNat d0 ∈ FR W (pN n t) (pK n t) (pU n t) k := by
            rw [List.getD_eq_getElem?_getD, List.getElem?_eq_getElem (by omega)]
            exact List.getElem_mem _
          rw [X7_tellOf_v (f3 _ hm), bn_t, cb_t]
          exact ⟨s2, rfl, frX_trans c d2⟩
        · rw [if_pos (by omega), if_neg q4, cb_t]
          exact ⟨s2, rfl, frX_trans c d2⟩
      · rw [if_neg q3, if_pos rfl, if_neg (fun z => q3 z.2.2)]
        exact ⟨s1, rfl, c⟩
    · rw [if_neg q2, if_pos rfl, if_neg (fun z => q2 z.2.1)]
      exact ⟨s1, rfl, c⟩
  · rw [if_neg q, if_pos rfl, if_neg (fun z => q z.1)]
    exact ⟨s1, rfl, c⟩
theorem X7_triedOf_v (h : TX n t W s) (y : Int) : ∃ s', f_X7_triedOf y s = some (triA n t W y, s') ∧ frX s s' := by
  obtain ⟨s1, a, b, c, d⟩ := X7_frontsTold_v h
  refine ⟨s1, ?_, d⟩
  unfold f_X7_triedOf g_X7_triedOf_19 triA
  rw [a, bn_t, c.2.1, c.2.2.1]
  split <;> rfl
theorem X7_wholeOf_v (h : TX n t W s) : ∃ s', f_X7_wholeOf s = some (whoA n t W, s') ∧ frX s s' := by
  obtain ⟨s1, a, b, c, d⟩ := X7_frontsTold_v h
  refine ⟨s1, ?_, d⟩
  unfold f_X7_wholeOf g_X7_wholeOf_21 whoA
  rw [a, bn_t, show s1 0 4 = (pN n t : Int) from b.2.1]
  by_cases h0 : pN n t = 0
  · rw [if_pos (by omega), if_pos h0]
  · rw [if_neg (by omega), if_neg h0, gx_d (by omega) (by omega), show (0 : Int).toNat = 0 from rfl, (c.2.2.2 0 (by omega) (by omega)).1]
theorem X7_faultOf_v (h : TX n t W s) : ∃ s', f_X7_faultOf s = some (fau n t, s') ∧ frX s s' := by
  obtain ⟨s1, a, b, c⟩ := X7_reads_x h
  refine ⟨s1, ?_, c⟩
  unfold f_X7_faultOf
  rw [a, bn_t, b.1]
theorem X7_partsOf_v (h : TX n t W s) : ∃ s', f_X7_partsOf s = some ((pN n t : Int), s') ∧ frX s s' := by
  obtain ⟨s1, a, b, c⟩ := X7_reads_x h
  refine ⟨s1, ?_, c⟩
  unfold f_X7_partsOf
  rw [a, bn_t, b.2.1]
theorem X7_choicesOf_v (h : TX n t W s) : ∃ s', f_X7_choicesOf s = some ((pC n t : Int), s') ∧ frX s s' := by
  obtain ⟨s1, a, b, c⟩ := X7_reads_x h
  refine ⟨s1, ?_, c⟩
  unfold f_X7_choicesOf
  rw [a, bn_t, b.2.2.1]
end MQ
