/-! ===== the class's ways are made ===== -/
noncomputable def fewV (Q : Sh → Prop) (g : Sh → Nat) : Int := @dite Int (∃ r, Few Q g r) (Classical.propDecidable _) (fun h => Classical.choose h) (fun _ => -1)
theorem fewV_eq {Q : Sh → Prop} {g : Sh → Nat} {r : Int} (h : Few Q g r) : fewV Q g = r := by
  unfold fewV
  rw [dif_pos ⟨r, h⟩]
  exact (Classical.choose_spec (⟨r, h⟩ : ∃ r, Few Q g r)).unique h
theorem CP_fr {np : Nat} {kd nu : Nat → Int} {s s' : SS} (h : CP np kd nu s) (f : ∀ q k, q ≤ 9 → s' q k = s q k) : CP np kd nu s' := fun k hk => by
  rw [f 3 k (by decide), f 9 k (by decide), f 7 k (by decide), f 8 k (by decide)]
  exact h k hk
theorem sp_all {w np : Nat} {kd nu : Nat → Int} (hw64 : w < 64) (hd : DOK np kd nu) : ∀ (c f : Nat) (s : SS), c ≤ np → c < f → s 1 9 = (np : Int) → CP np kd nu s → CS w np kd nu c s → ∃ s', f_X5_shapeParts_7 f (w : Int) ((c : Int) - 1) s = some s' ∧ CS w np kd nu 0 s' ∧ ∀ p k, (p ≤ 23 ∨ 27 < p) → s' p k = s p k := by
  intro c
  have h40 := hd.1
  induction c with
  | zero =>
    intro f s _ hf h9 _ hM
    match f, hf with
    | f + 1, _ =>
      refine ⟨s, ?_, hM, fun _ _ _ => rfl⟩
      show g_X5_shapeParts_7 (f_X5_shapeParts_7 f) _ _ s = _
      unfold g_X5_shapeParts_7 g_X5_shapeParts_24
      rw [if_pos (by omega)]
  | succ c ih =>
    intro f s hc hf h9 hp hM
    match f, hf with
    | f + 1, hf =>
      rw [show ((c + 1 : Nat) : Int) - 1 = (c : Int) by omega]
      show ∃ s', g_X5_shapeParts_7 (f_X5_shapeParts_7 f) _ _ s = _ ∧ _
      obtain ⟨s1, a1, a2, a3⟩ := X5_shapeOne_v hw64 hd (by omega) h9 hp hM
      unfold g_X5_shapeParts_7
      rw [if_neg (by omega), a1, bn_t, sb_t, wr_t (by omega) (by omega)]
      obtain ⟨s', b1, b2, b3⟩ := ih f s1 (by omega) (by omega) (by rw [a3 1 9 (by omega)]; exact h9) (CP_fr hp (fun q k hq => a3 q k (by omega))) (fun k hk1 hk2 => by
        by_cases hkc : k = c
        · subst hkc; exact a2
        · exact shO_ext (hM k (by omega) hk2) (fun p _ _ => a3 p k (Or.inr hkc)))
      exact ⟨s', b1, b2, fun q k x => by rw [b3 q k x, a3 q k (Or.inl x)]⟩
theorem X5_shapeParts_v {w np : Nat} {kd nu : Nat → Int} (hw64 : w < 64) (hd : DOK np kd nu) {s : SS} (h9 : s 1 9 = (np : Int)) (hp : CP np kd nu s) : ∃ s', f_X5_shapeParts (w : Int) s = some s' ∧ CS w np kd nu 0 s' ∧ ∀ p k, (p ≤ 23 ∨ 27 < p) → s' p k = s p k := by
  have h40 := hd.1
  unfold f_X5_shapeParts
  rw [sb_t, h9, wr_t (by omega) (by omega)]
  exact sp_all hw64 hd np FU s (Nat.le_refl _) (by unfold FU; omega) h9 hp (fun k h1 h2 => by omega)
/-- how many ways there are -/
def mny (n : Nat) (t : Nat → Int) : Nat := if pN n t = 0 then 0 else 2 ^ pC n t
theorem mny_le {n : Nat} {t : Nat → Int} : mny n t ≤ 64 := by
  unfold mny
  split
  · decide
  · exact pow_pC
def WR (n : Nat) (t : Nat → Int) (s : SS) : Prop := s 22 6 = (mny n t : Int) ∧ ∀ w, w < mny n t → shO s 28 w (U n t w)
theorem mk_all {n : Nat} {t : Nat → Int} (hn : n ≤ 40) : ∀ (r w f : Nat) (s : SS), w + r = mny n t → r < f → s 22 6 = (mny n t : Int) → s 1 9 = (pN n t : Int) → CP (pN n t) (pK n t) (pU n t) s → (∀ v, v < w → shO s 28 v (U n t v)) → ∃ s', f_X5_make_23 f (w : Int) s = g_X5_make_87 s' ∧ WR n t s' ∧ ∀ p k, (p ≤ 22 ∨ 32 < p) → s' p k = s p k := by
  intro r
  induction r with
  | zero =>
    intro w f s hw hf h6 h9 hp hM
    match f, hf with
    | f + 1, _ =>
      refine ⟨s, ?_, ⟨h6, fun v hv => hM v (by omega)⟩, fun _ _ _ => rfl⟩
      show g_X5_make_23 (f_X5_make_23 f) _ s = _
      unfold g_X5_make_23
      rw [h6, if_pos (by omega)]
  | succ r ih =>
    intro w f s hw hf h6 h9 hp hM
    match f, hf with
    | f + 1, hf =>
      show ∃ s', g_X5_make_23 (f_X5_make_23 f) _ s = _ ∧ _
      have hm := mny_le (n := n) (t := t)
      have h0 : 0 < pN n t := by
        rcases Nat.eq_zero_or_pos (pN n t) with h | h
        · unfold mny at hw
          rw [if_pos h] at hw
          omega
        · exact h
      have hd := D_1 (t := t) hn h0
      obtain ⟨s1, a1, a2, a3⟩ := X5_shapeParts_v (w := w) (by omega) hd h9 hp
      unfold g_X5_make_23
      rw [h6, if_neg (by omega), a1, bn_t, gx_d (by omega) (by omega), gx_d (by omega) (by omega), gx_d (by omega) (by omega), gx_d (by omega) (by omega), X3_set_i (by rw [shl28]; omega), bn_t, sb_t, wr_t (by omega) (by omega), show (w : Int) + 1 = ((w + 1 : Nat) : Int) by omega, show (0 : Int).toNat = 0 from rfl]
      generalize hs2 : setI s1 28 w (s1 24 0) (s1 25 0) (s1 26 0) (s1 27 0) = s2
      have g2 : ∀ p k, (p ≤ 28 ∨ 32 < p) ∨ k ≠ w → s2 p k = s1 p k := fun p k h => by rw [← hs2]; exact setI_off (by omega)
      have eU : U n t w = SH w (pN n t) (pK n t) (pU n t) 0 := by
        unfold U UU
        rw [if_neg (by omega)]
      have hw2 : shO s2 28 w (U n t w) := by
        rw [eU]
        have := a2 0 (by omega) h0
        have e := setI_0 s1 28 w (s1 24 0) (s1 25 0) (s1 26 0) (s1 27 0)
        rw [hs2] at e
        cases hx : SH w (pN n t) (pK n t) (pU n t) 0 with
        | none =>
          rw [hx] at this
          show s2 (28 + 1 + 0) w = 0
          rw [e.1]
          exact this
        | some x =>
          rw [hx] at this
          obtain ⟨q1, q2, q3, q4⟩ := this
          exact ⟨e.1.trans q1, e.2.1.trans q2, e.2.2.1.trans q3, e.2.2.2.trans q4⟩
      have f2 : ∀ p k, (p ≤ 22 ∨ 32 < p) → s2 p k = s p k := fun p k h => by rw [g2 p k (by omega), a3 p k (by omega)]
      obtain ⟨s', b1, b2, b3⟩ := ih (w + 1) f s2 (by omega) (by omega) (by rw [f2 22 6 (by omega)]; exact h6) (by rw [f2 1 9 (by omega)]; exact h9) (CP_fr hp (fun q k hq => f2 q k (by omega))) (fun v hv => by
        by_cases hvw : v = w
        · subst hvw; exact hw2
        · exact shO_ext (hM v (by omega)) (fun p h1 h2 => by rw [g2 p v (Or.inr hvw), a3 p v (by omega)]))
      exact ⟨s', b1, b2, fun q k x => by rw [b3 q k x, f2 q k x]⟩
/-! ===== the fewest lines for each width ===== -/
theorem Few.join {Q Q1 Q2 : Sh → Prop} {g : Sh → Nat} {a b : Int} (h1 : Few Q1 g a) (h2 : Few Q2 g b) (e : ∀ x, Q x ↔ Q1 x ∨ Q2 x) : Few Q g (if a = -1 then b else if b = -1 then a else if b ≤ a then b else a) := by
  rcases h1 with ⟨a1, a2⟩ | ⟨x, a1, a2, a3⟩
  · rw [if_pos a1]
    exact h2.same (fun x => by rw [e x]; exact ⟨fun q => q.resolve_left (a2 x), Or.inr⟩)
  · rw [if_neg (by omega)]
    rcases h2 with ⟨b1, b2⟩ | ⟨y, b1, b2, b3⟩
    · rw [if_pos b1]
      exact Few.same (Or.inr ⟨x, a1, a2, a3⟩) (fun x => by rw [e x]; exact ⟨fun q => q.resolve_right (b2 x), Or.inl⟩)
    · rw [if_neg (by omega)]
      by_cases hba : b ≤ a
      · rw [if_pos hba]
        exact Or.inr ⟨y, (e y).mpr (Or.inr b1), b2, fun z hz => by
          rcases (e z).mp hz with hz | hz
          · have := a3 z hz; omega
          · exact b3 z hz⟩
      · rw [if_neg hba]
        exact Or.inr ⟨x, (e x).mpr (Or.inl a1), a2, fun z hz => by
          rcases (e z).mp hz with hz | hz
          · exact a3 z hz
          · have := b3 z hz; omega⟩
section FLN
variable {n : Nat} {t : Nat → Int}
theorem l2 : ∀ (r v f : Nat) (s : SS), v + r = 100 → r < f → (∀ j, j < v → s 33 j = -1) → ∃ s', f_X5_findLines_2 f (v : Int) s = g_X5_findLines_21 s' ∧ (∀ j, j < 100 → s' 33 j = -1) ∧ ∀ q k, q ≠ 33 → s' q k = s q k := by
  intro r
  induction r with
  | zero =>
    intro v f s hv hf hM
    match f, hf with
    | f + 1, _ =>
      refine ⟨s, ?_, fun j hj => hM j (by omega), fun _ _ _ => rfl⟩
      show g_X5_findLines_2 (f_X5_findLines_2 f) _ s = _
      unfold g_X5_findLines_2
      rw [if_pos (by omega)]
  | succ r ih =>
    intro v f s hv hf hM
    match f, hf with
    | f + 1, hf =>
      show ∃ s', g_X5_findLines_2 (f_X5_findLines_2 f) _ s = _ ∧ _
      unfold g_X5_findLines_2
      rw [if_neg (by omega), gx_d (by omega) (by omega), sb_t, sb_t, tn_c, wr_t (by omega) (by omega), show (v : Int) + 1 = ((v + 1 : Nat) : Int) by omega]
      obtain ⟨s', b1, b2, b3⟩ := ih (v + 1) f (up s 33 v (-1)) (by omega) (by omega) (fun j hj => by
        by_cases h : j = v
        · subst h; exact up_s
        · rw [up_k h]; exact hM j (by omega))
      exact ⟨s', b1, b2, fun q k x => by rw [b3 q k x, up_q x]⟩
/-- of the first i ways, those with just v columns -/
def Le (n : Nat) (t : Nat → Int) (i v : Nat) (x : Sh) : Prop := ∃ w, w < i ∧ U n t w = some x ∧ x.2.2.1 = v
theorem l23 (hn : n ≤ 40) : ∀ (r w f : Nat) (s : SS), w + r = mny n t → r < f → WR n t s → (∀ j, j < 100 → Few (Le n t w j) (fun x => x.1) (s 33 j)) → ∃ s', f_X5_findLines_23 f (w : Int) s = g_X5_findLines_122 s' ∧ (∀ j, j < 100 → Few (Le n t (mny n t) j) (fun x => x.1) (s' 33 j)) ∧ ∀ q k, q ≠ 33 → s' q k = s q k := by
  intro r
  induction r with
  | zero =>
    intro w f s hw hf hR hM
    match f, hf with
    | f + 1, _ =>
      obtain rfl : w = mny n t := by omega
      refine ⟨s, ?_, hM, fun _ _ _ => rfl⟩
      show g_X5_findLines_23 (f_X5_findLines_23 f) _ s = _
      unfold g_X5_findLines_23
      rw [hR.1, if_pos (by omega)]
  | succ r ih =>
    intro w f s hw hf hR hM
    match f, hf with
    | f + 1, hf =>
      have hm := mny_le (n := n) (t := t)
      have hO := hR.2 w (by omega)
      show ∃ s', g_X5_findLines_23 (f_X5_findLines_23 f) _ s = _ ∧ _
      unfold g_X5_findLines_23 g_X5_findLines_67
      rw [hR.1, if_neg (by omega), X3_tell_0 (by rw [shl28]; omega), bn_t, if_neg (show ¬ (2 : Int) = 0 by decide), if_neg (show ¬ (2 : Int) = 1 by decide), if_pos (show (2 : Int) = 2 from rfl), X3_tell_0 (by rw [shl28]; omega), bn_t, if_pos (show (0 : Int) = 0 from rfl)]
      -- nothing is put
      have skip : (∀ j, j < 100 → Few (Le n t (w + 1) j) (fun x => x.1) (s 33 j)) → ∃ s', g_X5_findLines_116 (f_X5_findLines_23 f) (w : Int) s = g_X5_findLines_122 s' ∧ (∀ j, j < 100 → Few (Le n t (mny n t) j) (fun x => x.1) (s' 33 j)) ∧ ∀ q k, q ≠ 33 → s' q k = s q k := by
        intro h
        unfold g_X5_findLines_116
        rw [sb_t, wr_t (by omega) (by omega), show (w : Int) + 1 = ((w + 1 : Nat) : Int) by omega]
        exact ih (w + 1) f s (by omega) (by omega) hR h
      have other : ∀ j : Nat, (∀ x, U n t w = some x → x.2.2.1 ≠ j) → ∀ x, Le n t (w + 1) j x ↔ Le n t w j x := by
        intro j hj x
        constructor
        · rintro ⟨v, h1, h2, h3⟩
          by_cases hv : v = w
          · subst hv; exact absurd h3 (hj x h2)
          · exact ⟨v, by omega, h2, h3⟩
        · rintro ⟨v, h1, h2, h3⟩
          exact ⟨v, by omega, h2, h3⟩
      cases hu : U n t w with
      | none =>
        rw [hu] at hO
        have hO' : s (28 + 1 + 0) w = 0 := hO
        rw [hO', if_pos (by omega)]
        unfold g_X5_findLines_68
        rw [if_pos (show (0 : Int) = 0 from rfl)]
        exact skip (fun j hj => (hM j hj).same (other j (fun x hx => by rw [hu] at hx; cases hx)))
      | some x =>
        rw [hu] at hO
        obtain ⟨o1, o2, o3, o4⟩ := hO
        have hb := (U_bnd hn hu).1
        rw [o1, o3, if_neg (by have := hb.1; omega), if_neg (by omega)]
        by_cases h99 : 99 < (x.2.2.1 : Int)
        · rw [if_pos h99]
          unfold g_X5_findLines_68
          rw [if_pos (show (0 : Int) = 0 from rfl)]
          exact skip (fun j hj => (hM j hj).same (other j (fun y hy => by rw [hu] at hy; injection hy with hy; subst hy; omega)))
        · rw [if_neg h99]
          have hv := hM x.2.2.1 (by omega)
          have hadd := hv.add (Q' := Le n t (w + 1) x.2.2.1) (x := x) (fun y => by
            constructor
            · rintro ⟨v, h1, h2, h3⟩
              by_cases hv : v = w
              · subst hv; rw [hu] at h2; injection h2 with h2; exact Or.inr h2.symm
              · exact Or.inl ⟨v, by omega, h2, h3⟩
            · rintro (⟨v, h1, h2, h3⟩ | h)
              · exact ⟨v, by omega, h2, h3⟩
              · subst h; exact ⟨w, by omega, hu, rfl⟩)
          have rest : ∀ j : Nat, j < 100 → j ≠ x.2.2.1 → Few (Le n t (w + 1) j) (fun x => x.1) (s 33 j) := fun j hj hjx => (hM j hj).same (other j (fun y hy => by rw [hu] at hy; injection hy with hy; subst hy; omega))
          have put : (s 33 x.2.2.1 = -1 ∨ (x.1 : Int) < s 33 x.2.2.1) → ∃ s', g_X5_findLines_101 (f_X5_findLines_23 f) (w : Int) (x.2.2.1 : Int) s = g_X5_findLines_122 s' ∧ (∀ j, j < 100 → Few (Le n t (mny n t) j) (fun x => x.1) (s' 33 j)) ∧ ∀ q k, q ≠ 33 → s' q k = s q k := by
            intro hc
            rw [if_pos hc] at hadd
            unfold g_X5_findLines_101 g_X5_findLines_116
            rw [X3_tell_0 (by rw [shl28]; omega), bn_t, if_pos (show (0 : Int) = 0 from rfl), gx_d (by omega) (by omega), sb_t, sb_t, tn_c, o1, wr_t (by omega) (by omega), show (w : Int) + 1 = ((w + 1 : Nat) : Int) by omega]
            obtain ⟨s', b1, b2, b3⟩ := ih (w + 1) f (up s 33 x.2.2.1 (x.1 : Int)) (by omega) (by omega) ⟨by rw [up_q (by decide)]; exact hR.1, fun v hv => shO_ext (hR.2 v hv) (fun p _ _ => up_q (by omega))⟩ (fun j hj => by
              by_cases hj2 : j = x.2.2.1
              · subst hj2; rw [up_s]; exact hadd
              · rw [up_k hj2]; exact rest j hj hj2)
            exact ⟨s', b1, b2, fun q k z => by rw [b3 q k z, up_q z]⟩
          unfold g_X5_findLines_68
          rw [if_neg (show ¬ (1 : Int) = 0 by decide), gx_d (by omega) (by omega), tn_c]
          by_cases hm1 : s 33 x.2.2.1 = -1
          · rw [if_pos hm1]
            exact put (Or.inl hm1)
          · rw [if_neg hm1, X3_tell_0 (by rw [shl28]; omega), bn_t, if_pos (show (0 : Int) = 0 from rfl), gx_d (by omega) (by omega), o1]
            by_cases hle : s 33 x.2.2.1 ≤ (x.1 : Int)
            · rw [if_pos hle]
              rw [if_neg (show ¬ (s 33 x.2.2.1 = -1 ∨ (x.1 : Int) < s 33 x.2.2.1) by omega)] at hadd
              exact skip (fun j hj => by
                by_cases hj2 : j = x.2.2.1
                · subst hj2; exact hadd
                · exact rest j hj hj2)
            · rw [if_neg hle]
              exact put (Or.inr (by omega))
def Lt (n : Nat) (t : Nat → Int) (v : Nat) (x : Sh) : Prop := ∃ w, w < mny n t ∧ U n t w = some x ∧ x.2.2.1 ≤ v
theorem l124 : ∀ (r v f : Nat) (s : SS), v + 1 + r = 100 → r < f → (∀ j, j ≤ v → Few (Lt n t j) (fun x => x.1) (s 33 j)) → (∀ j, v < j → j < 100 → Few (Le n t (mny n t) j) (fun x => x.1) (s 33 j)) → ∃ s', f_X5_findLines_124 f ((v : Int) + 1) s = some s' ∧ (∀ j, j < 100 → Few (Lt n t j) (fun x => x.1) (s' 33 j)) ∧ ∀ q k, q ≠ 33 → s' q k = s q k := by
  intro r
  induction r with
  | zero =>
    intro v f s hv hf hL hE
    match f, hf with
    | f + 1, _ =>
      refine ⟨s, ?_, fun j hj => hL j (by omega), fun _ _ _ => rfl⟩
      show g_X5_findLines_124 (f_X5_findLines_124 f) _ s = _
      unfold g_X5_findLines_124 g_X5_findLines_177
      rw [if_pos (by omega)]
  | succ r ih =>
    intro v f s hv hf hL hE
    match f, hf with
    | f + 1, hf =>
      show ∃ s', g_X5_findLines_124 (f_X5_findLines_124 f) _ s = _ ∧ _
      unfold g_X5_findLines_124
      have e1 := hL v (by omega)
      have e2 := hE (v + 1) (by omega) (by omega)
      have ej := e1.join (Q := Lt n t (v + 1)) e2 (fun x => by
        constructor
        · rintro ⟨w, h1, h2, h3⟩
          by_cases hx : x.2.2.1 ≤ v
          · exact Or.inl ⟨w, h1, h2, hx⟩
          · exact Or.inr ⟨w, h1, h2, by omega⟩
        · rintro (⟨w, h1, h2, h3⟩ | ⟨w, h1, h2, h3⟩)
          · exact ⟨w, h1, h2, by omega⟩
          · exact ⟨w, h1, h2, by omega⟩)
      rw [if_neg (by omega), wr_t (a := (v : Int) + 1 - 1) (by omega) (by omega), gx_d (by omega) (by omega), sb_t, show ((v : Int) + 1 - 1).toNat = v by omega, gx_d (by omega) (by omega), gx_d (by omega) (by omega), show ((v : Int) + 1).toNat = v + 1 by omega]
      have keep : Few (Lt n t (v + 1)) (fun x => x.1) (s 33 (v + 1)) → ∃ s', g_X5_findLines_171 (f_X5_findLines_124 f) ((v : Int) + 1) s = some s' ∧ (∀ j, j < 100 → Few (Lt n t j) (fun x => x.1) (s' 33 j)) ∧ ∀ q k, q ≠ 33 → s' q k = s q k := by
        intro h
        unfold g_X5_findLines_171
        rw [sb_t, wr_t (by omega) (by omega), show (v : Int) + 1 + 1 = ((v + 1 : Nat) : Int) + 1 by omega]
        exact ih (v + 1) f s (by omega) (by omega) (fun j hj => by
          by_cases h2 : j = v + 1
          · subst h2; exact h
          · exact hL j (by omega)) (fun j h1 h2 => hE j (by omega) h2)
      have put : Few (Lt n t (v + 1)) (fun x => x.1) (s 33 v) → ∃ s', g_X5_findLines_164 (f_X5_findLines_124 f) ((v : Int) + 1) (s 33 v) s = some s' ∧ (∀ j, j < 100 → Few (Lt n t j) (fun x => x.1) (s' 33 j)) ∧ ∀ q k, q ≠ 33 → s' q k = s q k := by
        intro h
        unfold g_X5_findLines_164 g_X5_findLines_171
        rw [gx_d (by omega) (by omega), sb_t, sb_t, wr_t (by omega) (by omega), show (v : Int) + 1 + 1 = ((v + 1 : Nat) : Int) + 1 by omega, show ((v : Int) + 1).toNat = v + 1 by omega]
        obtain ⟨s', b1, b2, b3⟩ := ih (v + 1) f (up s 33 (v + 1) (s 33 v)) (by omega) (by omega) (fun j hj => by
          by_cases h2 : j = v + 1
          · subst h2; rw [up_s]; exact h
          · rw [up_k h2]; exact hL j (by omega)) (fun j h1 h2 => by rw [up_k (by omega)]; exact hE j (by omega) h2)
        exact ⟨s', b1, b2, fun q k z => by rw [b3 q k z, up_q z]⟩
      by_cases ha : s 33 v = -1
      · rw [if_pos ha] at ej
        rw [if_pos ha]
        exact keep ej
      · rw [if_neg ha] at ej
        rw [if_neg ha]
        by_cases hb : s 33 (v + 1) = -1
        · rw [if_pos hb] at ej
          rw [if_pos hb]
          exact put ej
        · rw [if_neg hb] at ej
          rw [if_neg hb]
          by_cases hc : s 33 (v + 1) ≤ s 33 v
          · rw [if_pos hc] at ej
            rw [if_pos hc]
            exact keep ej
          · rw [if_neg hc] at ej
            rw [if_neg hc]
            exact put ej
theorem X5_findLines_v (hn : n ≤ 40) {s : SS} (hR : WR n t s) : ∃ s', f_X5_findLines s = some s' ∧ (∀ j, j < 100 → Few (Lt n t j) (fun x => x.1) (s' 33 j)) ∧ ∀ q k, q ≠ 33 → s' q k = s q k := by
  have hm := mny_le (n := n) (t := t)
  obtain ⟨s1, a1, a2, a3⟩ := l2 100 0 FU s (by omega) (by unfold FU; omega) (fun j hj => by omega)
  obtain ⟨s2, b1, b2, b3⟩ := l23 hn (mny n t) 0 FU s1 (by omega) (by unfold FU; omega) ⟨by rw [a3 22 6 (by decide)]; exact hR.1, fun v hv => shO_ext (hR.2 v hv) (fun p _ _ => a3 p v (by omega))⟩ (fun j hj => Or.inl ⟨a2 j hj, fun x => by rintro ⟨w, h1, -⟩; omega⟩)
  obtain ⟨s3, c1, c2, c3⟩ := l124 (n := n) (t := t) 99 0 FU s2 (by omega) (by unfold FU; omega) (fun j hj => by
    obtain rfl : j = 0 := by omega
    exact (b2 0 (by omega)).same (fun x => by
      constructor
      · rintro ⟨w, h1, h2, h3⟩; exact ⟨w, h1, h2, by omega⟩
      · rintro ⟨w, h1, h2, h3⟩; exact ⟨w, h1, h2, by omega⟩)) (fun j h1 h2 => b2 j h2)
  refine ⟨s3, ?_, c2, fun q k z => by rw [c3 q k z, b3 q k z, a3 q k z]⟩
  unfold f_X5_findLines
  have a1' : f_X5_findLines_2 FU 0 s = _ := a1
  rw [a1']
  unfold g_X5_findLines_21
  have b1' : f_X5_findLines_23 FU 0 s1 = _ := b1
  rw [b1']
  unfold g_X5_findLines_122
  exact c1
end FLN
