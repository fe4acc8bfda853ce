/-! ===== what the model tells of ways ===== -/
section WQ
variable {n : Nat} {t : Nat → Int} {W : Int} {s : SS}
theorem WY_n (h : WY n t W s) : n ≤ 40 := h.1.1.1
def alw (n : Nat) (t : Nat → Int) (w : Nat) (v : Int) : Int := match U n t w with
    | none => 0
    | some x => if (x.2.2.1 : Int) ≤ v then 1 else 0
theorem alw_n {w : Nat} {v : Int} (h : U n t w = none) : alw n t w v = 0 := by unfold alw; rw [h]
theorem alw_y {w : Nat} {v : Int} {x : Sh} (h : U n t w = some x) (hv : (x.2.2.1 : Int) ≤ v) : alw n t w v = 1 := by unfold alw; rw [h]; exact if_pos hv
theorem alw_0 {w : Nat} {v : Int} {x : Sh} (h : U n t w = some x) (hv : ¬ (x.2.2.1 : Int) ≤ v) : alw n t w v = 0 := by unfold alw; rw [h]; exact if_neg hv
theorem X7_isAllowed_v (h : WY n t W s) {w : Nat} (hw : w < 64) (v : Int) : f_X7_isAllowed (w : Int) v s = some (alw n t w v) := by
  unfold f_X7_isAllowed g_X7_isAllowed_27 g_X7_isAllowed_28
  rw [gx_d (by omega) (by omega), gx_d (by omega) (by omega), tn_c, h.2.2 w hw]
  cases hu : U n t w with
  | none => rw [if_pos encO_none, gb_0, alw_n hu]
  | some x =>
    rw [if_neg (encO_ne x), encO_some, X7_most_pk (er_ok (U_bnd (WY_n h) hu).2.1), bn_t]
    show (if v < (x.2.2.1 : Int) then _ else _) = some (alw n t w v)
    by_cases hv : (x.2.2.1 : Int) ≤ v
    · rw [if_neg (by omega), alw_y hu hv, gb_1]
    · rw [if_pos (by omega), alw_0 hu hv, gb_0]
/-- of the first i ways -/
def Qi (n : Nat) (t : Nat → Int) (i : Nat) (v : Int) (m : Nat) (x : Sh) : Prop := ∃ w, w < i ∧ w &&& m = 0 ∧ U n t w = some x ∧ (x.2.2.1 : Int) ≤ v
theorem Qi_no {i : Nat} {v : Int} {m : Nat} (h : ¬ (i &&& m = 0) ∨ ∀ x, U n t i = some x → ¬ (x.2.2.1 : Int) ≤ v) (x : Sh) : Qi n t (i + 1) v m x ↔ Qi n t i v m x := by
  constructor
  · rintro ⟨w, h1, h2, h3, h4⟩
    by_cases hw : w = i
    · subst hw
      rcases h with h | h
      · exact absurd h2 h
      · exact absurd h4 (h x h3)
    · exact ⟨w, by omega, h2, h3, h4⟩
  · rintro ⟨w, h1, h2, h3, h4⟩
    exact ⟨w, by omega, h2, h3, h4⟩
theorem Qi_yes {i : Nat} {v : Int} {m : Nat} {y : Sh} (h1 : i &&& m = 0) (h2 : U n t i = some y) (h3 : (y.2.2.1 : Int) ≤ v) (x : Sh) : Qi n t (i + 1) v m x ↔ Qi n t i v m x ∨ x = y := by
  constructor
  · rintro ⟨w, g1, g2, g3, g4⟩
    by_cases hw : w = i
    · subst hw
      rw [h2] at g3
      injection g3 with g3
      exact Or.inr g3.symm
    · exact Or.inl ⟨w, by omega, g2, g3, g4⟩
  · rintro (⟨w, g1, g2, g3, g4⟩ | rfl)
    · exact ⟨w, by omega, g2, g3, g4⟩
    · exact ⟨i, by omega, h1, h2, h3⟩
theorem fe5 (h : WY n t W s) {v : Int} {m : Nat} (hm : m < 64) : ∀ (r i f : Nat) (a : Int), i + r = 64 → r < f → Few (Qi n t i v m) (fun x => x.1) a → ∃ a', f_X7_fewest_5 f v (m : Int) a (i : Int) s = some a' ∧ Few (Qi n t 64 v m) (fun x => x.1) a' := by
  intro r
  induction r with
  | zero =>
    intro i f a hi hf hF
    match f, hf with
    | f + 1, _ =>
      obtain rfl : i = 64 := by omega
      refine ⟨a, ?_, hF⟩
      show g_X7_fewest_5 (f_X7_fewest_5 f) _ _ _ _ _ = _
      unfold g_X7_fewest_5 g_X7_fewest_81
      rw [if_pos (by omega)]
  | succ r ih =>
    intro i f a hi hf hF
    match f, hf with
    | f + 1, hf =>
      show ∃ a', g_X7_fewest_5 (f_X7_fewest_5 f) _ _ _ _ _ = _ ∧ _
      unfold g_X7_fewest_5
      rw [if_neg (by omega), oN_and (by omega) (by omega)]
      have go : ∀ a1, Few (Qi n t (i + 1) v m) (fun x => x.1) a1 → ∃ a', g_X7_fewest_74 (f_X7_fewest_5 f) v (m : Int) (i : Int) a1 s = some a' ∧ Few (Qi n t 64 v m) (fun x => x.1) a' := by
        intro a1 h1
        unfold g_X7_fewest_74
        rw [sb_t, wr_t (by omega) (by omega), show (i : Int) + 1 = ((i + 1 : Nat) : Int) by omega]
        exact ih (i + 1) f a1 (by omega) (by omega) h1
      have no : (¬ (i &&& m = 0) ∨ ∀ x, U n t i = some x → ¬ (x.2.2.1 : Int) ≤ v) → ∃ a', g_X7_fewest_33 (f_X7_fewest_5 f) v (m : Int) a (i : Int) s = some a' ∧ Few (Qi n t 64 v m) (fun x => x.1) a' := by
        intro hc
        unfold g_X7_fewest_33 g_X7_fewest_34 g_X7_fewest_73
        rw [if_pos (show (0 : Int) = 0 from rfl)]
        exact go a (hF.same (fun x => Qi_no hc x))
      by_cases hand : i &&& m = 0
      · rw [if_pos (by omega), X7_isAllowed_v h (by omega), bn_t]
        cases hu : U n t i with
        | none =>
          rw [if_pos (alw_n hu)]
          exact no (Or.inr (fun x hx => by rw [hu] at hx; cases hx))
        | some x =>
          by_cases hv : (x.2.2.1 : Int) ≤ v
          · rw [if_neg (show ¬ alw n t i v = 0 by rw [alw_y hu hv]; decide)]
            have hadd := hF.add (fun y => Qi_yes hand hu hv y)
            unfold g_X7_fewest_34 g_X7_fewest_73 g_X7_fewest_60
            have el : f_X7_lines (s 12 (i : Int).toNat) = some (x.1 : Int) := by
              rw [tn_c, h.2.2 i (by omega), hu, encO_some, X7_lines_pk (er_ok (U_bnd (WY_n h) hu).2.1)]
              rfl
            rw [if_neg (show ¬ (1 : Int) = 0 by decide), gx_d (by omega) (by omega), gx_d (by omega) (by omega), el, bn_t, bn_t]
            by_cases ha : a = -1
            · rw [if_pos ha]
              rw [if_pos (Or.inl ha)] at hadd
              exact go _ hadd
            · rw [if_neg ha]
              by_cases hl : a ≤ (x.1 : Int)
              · rw [if_pos hl]
                rw [if_neg (by rintro (q | q) <;> omega)] at hadd
                exact go _ hadd
              · rw [if_neg hl]
                rw [if_pos (Or.inr (by omega))] at hadd
                exact go _ hadd
          · rw [if_pos (alw_0 hu hv)]
            exact no (Or.inr (fun y hy => by rw [hu] at hy; injection hy with hy; subst hy; exact hv))
      · rw [if_neg (by omega)]
        exact no (Or.inl hand)
theorem X7_fewest_v (h : WY n t W s) (v : Int) {m : Nat} (hm : m < 64) : f_X7_fewest v (m : Int) s = some (fewV (LY n t v m) (fun x => x.1)) ∧ Few (LY n t v m) (fun x => x.1) (fewV (LY n t v m) (fun x => x.1)) := by
  obtain ⟨a, a1, a2⟩ := fe5 h (v := v) hm 64 0 FU (-1) (by omega) (by unfold FU; omega) (Or.inl ⟨rfl, fun x => by rintro ⟨w, h1, -⟩; omega⟩)
  have a3 := a2.same (fun x => (LY_m (WY_n h) (N := 64) pow_pC (v := v) (m := m) (x := x)).symm)
  rw [fewV_eq a3]
  exact ⟨a1, a3⟩
theorem lw4 (h : WY n t W s) {m : Nat} (hm : m < 64) : ∀ (r i f : Nat) (a : Int), i + r = 64 → r < f → Few (Qi n t i 1000 m) (fun x => x.2.2.1) a → ∃ a', f_X7_leastWithout_4 f (m : Int) a (i : Int) s = some a' ∧ Few (Qi n t 64 1000 m) (fun x => x.2.2.1) a' := by
  intro r
  induction r with
  | zero =>
    intro i f a hi hf hF
    match f, hf with
    | f + 1, _ =>
      obtain rfl : i = 64 := by omega
      refine ⟨a, ?_, hF⟩
      show g_X7_leastWithout_4 (f_X7_leastWithout_4 f) _ _ _ _ = _
      unfold g_X7_leastWithout_4 g_X7_leastWithout_76
      rw [if_pos (by omega)]
  | succ r ih =>
    intro i f a hi hf hF
    match f, hf with
    | f + 1, hf =>
      show ∃ a', g_X7_leastWithout_4 (f_X7_leastWithout_4 f) _ _ _ _ = _ ∧ _
      unfold g_X7_leastWithout_4
      rw [if_neg (by omega), oN_and (by omega) (by omega)]
      have go : ∀ a1, Few (Qi n t (i + 1) 1000 m) (fun x => x.2.2.1) a1 → ∃ a', g_X7_leastWithout_69 (f_X7_leastWithout_4 f) (m : Int) (i : Int) a1 s = some a' ∧ Few (Qi n t 64 1000 m) (fun x => x.2.2.1) a' := by
        intro a1 h1
        unfold g_X7_leastWithout_69
        rw [sb_t, wr_t (by omega) (by omega), show (i : Int) + 1 = ((i + 1 : Nat) : Int) by omega]
        exact ih (i + 1) f a1 (by omega) (by omega) h1
      have no : ∀ {z : Int}, z = 0 → Few (Qi n t (i + 1) 1000 m) (fun x => x.2.2.1) a → ∃ a', g_X7_leastWithout_48 (f_X7_leastWithout_4 f) (m : Int) a (i : Int) s = some a' ∧ Few (Qi n t 64 1000 m) (fun x => x.2.2.1) a' := by
        intro z _ hc
        unfold g_X7_leastWithout_48 g_X7_leastWithout_49
        rw [if_pos (show (0 : Int) = 0 from rfl)]
        exact go a hc
      by_cases hand : i &&& m = 0
      · rw [if_pos (by omega), gx_d (by omega) (by omega), gx_d (by omega) (by omega), tn_c, h.2.2 i (by omega)]
        cases hu : U n t i with
        | none =>
          rw [if_pos encO_none]
          exact no rfl (hF.same (fun x => Qi_no (Or.inr (fun y hy => by rw [hu] at hy; cases hy)) x))
        | some x =>
          have hx := U_bnd (WY_n h) hu
          have h360 := (LY_bnd (WY_n h) (v := 1000) (m := 0) (x := x) ⟨(U_way (WY_n h) hu).1, Nat.and_zero _, by have := hx.2.1.2.2.1; omega⟩).2.2.2
          have hadd := hF.add (fun y => Qi_yes hand hu (by omega) y)
          have em : f_X7_most (encO (some x)) = some (x.2.2.1 : Int) := by
            rw [encO_some, X7_most_pk (er_ok hx.2.1)]
            rfl
          have yes : Few (Qi n t (i + 1) 1000 m) (fun x => x.2.2.1) (x.2.2.1 : Int) → ∃ a', g_X7_leastWithout_44 (f_X7_leastWithout_4 f) (m : Int) a (i : Int) s = some a' ∧ Few (Qi n t 64 1000 m) (fun x => x.2.2.1) a' := by
            intro hc
            unfold g_X7_leastWithout_44 g_X7_leastWithout_49
            rw [if_neg (show ¬ (1 : Int) = 0 by decide), gx_d (by omega) (by omega), tn_c, h.2.2 i (by omega), hu, em, bn_t]
            exact go _ hc
          rw [if_neg (encO_ne x), em, bn_t]
          by_cases ha : a = -1
          · rw [if_pos ha]
            rw [if_pos (Or.inl ha)] at hadd
            exact yes hadd
          · rw [if_neg ha]
            by_cases hl : a ≤ (x.2.2.1 : Int)
            · rw [if_pos hl]
              rw [if_neg (by rintro (q | q) <;> omega)] at hadd
              exact no rfl hadd
            · rw [if_neg hl]
              rw [if_pos (Or.inr (by omega))] at hadd
              exact yes hadd
      · rw [if_neg (by omega)]
        exact no rfl (hF.same (fun x => Qi_no (Or.inl hand) x))
noncomputable def lst (n : Nat) (t : Nat → Int) (m : Nat) : Int := fewV (LY n t 1000 m) (fun x => x.2.2.1)
noncomputable def few (n : Nat) (t : Nat → Int) (v : Int) (m : Nat) : Int := fewV (LY n t v m) (fun x => x.1)
theorem X7_leastWithout_v (h : WY n t W s) {m : Nat} (hm : m < 64) : f_X7_leastWithout (m : Int) s = some (lst n t m) ∧ Few (LY n t 1000 m) (fun x => x.2.2.1) (lst n t m) := by
  obtain ⟨a, a1, a2⟩ := lw4 h hm 64 0 FU (-1) (by omega) (by unfold FU; omega) (Or.inl ⟨rfl, fun x => by rintro ⟨w, h1, -⟩; omega⟩)
  have a3 := a2.same (fun x => (LY_m (WY_n h) (N := 64) pow_pC (v := 1000) (m := m) (x := x)).symm)
  unfold lst
  rw [fewV_eq a3]
  exact ⟨a1, a3⟩
theorem lm4 (h : WY n t W s) : ∀ (r i f : Nat) (a : Int), i + r = 64 → r < f → Few (Qi n t i 1000 0) (fun x => x.2.2.1) a → ∃ a', f_X7_leastMost_4 f a (i : Int) s = some a' ∧ Few (Qi n t 64 1000 0) (fun x => x.2.2.1) a' := by
  intro r
  induction r with
  | zero =>
    intro i f a hi hf hF
    match f, hf with
    | f + 1, _ =>
      obtain rfl : i = 64 := by omega
      refine ⟨a, ?_, hF⟩
      show g_X7_leastMost_4 (f_X7_leastMost_4 f) _ _ _ = _
      unfold g_X7_leastMost_4 g_X7_leastMost_68
      rw [if_pos (by omega)]
  | succ r ih =>
    intro i f a hi hf hF
    match f, hf with
    | f + 1, hf =>
      show ∃ a', g_X7_leastMost_4 (f_X7_leastMost_4 f) _ _ _ = _ ∧ _
      unfold g_X7_leastMost_4
      rw [if_neg (by omega)]
      have go : ∀ a1, Few (Qi n t (i + 1) 1000 0) (fun x => x.2.2.1) a1 → ∃ a', g_X7_leastMost_61 (f_X7_leastMost_4 f) (i : Int) a1 s = some a' ∧ Few (Qi n t 64 1000 0) (fun x => x.2.2.1) a' := by
        intro a1 h1
        unfold g_X7_leastMost_61
        rw [sb_t, wr_t (by omega) (by omega), show (i : Int) + 1 = ((i + 1 : Nat) : Int) by omega]
        exact ih (i + 1) f a1 (by omega) (by omega) h1
      have no : Few (Qi n t (i + 1) 1000 0) (fun x => x.2.2.1) a → ∃ a', g_X7_leastMost_42 (f_X7_leastMost_4 f) a (i : Int) s = some a' ∧ Few (Qi n t 64 1000 0) (fun x => x.2.2.1) a' := by
        intro hc
        unfold g_X7_leastMost_42 g_X7_leastMost_43
        rw [if_pos (show (0 : Int) = 0 from rfl)]
        exact go a hc
      have hand : i &&& 0 = 0 := Nat.and_zero _
      rw [gx_d (by omega) (by omega), gx_d (by omega) (by omega), tn_c, h.2.2 i (by omega)]
      cases hu : U n t i with
      | none =>
        rw [if_pos encO_none]
        exact no (hF.same (fun x => Qi_no (Or.inr (fun y hy => by rw [hu] at hy; cases hy)) x))
      | some x =>
        have hx := U_bnd (WY_n h) hu
        have h360 := (LY_bnd (WY_n h) (v := 1000) (m := 0) (x := x) ⟨(U_way (WY_n h) hu).1, Nat.and_zero _, by have := hx.2.1.2.2.1; omega⟩).2.2.2
        have hadd := hF.add (fun y => Qi_yes hand hu (by omega) y)
        have em : f_X7_most (encO (some x)) = some (x.2.2.1 : Int) := by
          rw [encO_some, X7_most_pk (er_ok hx.2.1)]
          rfl
        have yes : Few (Qi n t (i + 1) 1000 0) (fun x => x.2.2.1) (x.2.2.1 : Int) → ∃ a', g_X7_leastMost_38 (f_X7_leastMost_4 f) a (i : Int) s = some a' ∧ Few (Qi n t 64 1000 0) (fun x => x.2.2.1) a' := by
          intro hc
          unfold g_X7_leastMost_38 g_X7_leastMost_43
          rw [if_neg (show ¬ (1 : Int) = 0 by decide), gx_d (by omega) (by omega), tn_c, h.2.2 i (by omega), hu, em, bn_t]
          exact go _ hc
        rw [if_neg (encO_ne x), em, bn_t]
        by_cases ha : a = -1
        · rw [if_pos ha]
          rw [if_pos (Or.inl ha)] at hadd
          exact yes hadd
        · rw [if_neg ha]
          by_cases hl : a ≤ (x.2.2.1 : Int)
          · rw [if_pos hl]
            rw [if_neg (by rintro (q | q) <;> omega)] at hadd
            exact no hadd
          · rw [if_neg hl]
            rw [if_pos (Or.inr (by omega))] at hadd
            exact yes hadd
theorem lst_enA (hn : n ≤ 40) (h : Few (LY n t 1000 0) (fun x => x.2.2.1) (lst n t 0)) : enA n t = (if lst n t 0 ≤ 99 then lst n t 0 else -1) := by
  unfold enA
  refine fewV_eq ?_
  rcases h with ⟨a, b⟩ | ⟨x, a, b, c⟩
  · rw [if_pos (by omega)]
    exact Or.inl ⟨a, fun x hx => b x ⟨hx.1, hx.2.1, by have := hx.2.2; omega⟩⟩
  · by_cases hl : lst n t 0 ≤ 99
    · rw [if_pos hl]
      refine Or.inr ⟨x, ⟨a.1, a.2.1, by dsimp only at b; omega⟩, b, fun y hy => c y ⟨hy.1, hy.2.1, by have := hy.2.2; omega⟩⟩
    · rw [if_neg hl]
      refine Or.inl ⟨rfl, fun y hy => ?_⟩
      have := c y ⟨hy.1, hy.2.1, by have := hy.2.2; omega⟩
      have := hy.2.2
      dsimp only at *
      omega
theorem X7_enoughOf_v (h : TX n t W s) : ∃ s', f_X7_enoughOf s = some (enA n t, s') ∧ frX s s' := by
  obtain ⟨s1, a, b, c⟩ := X7_findsWays_v h
  refine ⟨s1, ?_, c⟩
  obtain ⟨r, r1, r2⟩ := lm4 b 64 0 FU (-1) (by omega) (by unfold FU; omega) (Or.inl ⟨rfl, fun x => by rintro ⟨w, h1, -⟩; omega⟩)
  have r3 := r2.same (fun x => (LY_m (WY_n b) (N := 64) pow_pC (v := 1000) (m := 0) (x := x)).symm)
  have e : lst n t 0 = r := fewV_eq r3
  rw [← e] at r3 r1
  unfold f_X7_enoughOf f_X7_leastMost g_X7_enoughOf_20
  have r1' : f_X7_leastMost_4 FU (-1) 0 s1 = _ := r1
  rw [a, bn_t, r1', bn_t, lst_enA h.1.1 r3]
  split <;> rfl
theorem few_Lv (v : Nat) : few n t (v : Int) 0 = Lv n t v := rfl
def shrA (L : Nat → Int) (i : Int) : Int := if i = -1 then ((SL L 100).length : Int) else if 0 ≤ i ∧ i < ((SL L 100).length : Int) then ((SL L 100).getD i.toNat 0 : Int) else -1
def fnd (L : List Nat) (i : Int) : Int := if 0 ≤ i ∧ i < (L.length : Int) then (L.getD i.toNat 0 : Int) else -1
theorem sh19 (h : WY n t W s) (x : Int) : ∀ (r v f : Nat), 2 ≤ v → v + r = 100 → r < f → f_X7_shrinksOf_19 f x ((SL (Lv n t) v).length : Int) (fnd (SL (Lv n t) v) x) (Lv n t (v - 1)) (v : Int) s = some (shrA (Lv n t) x, s) := by
  intro r
  induction r with
  | zero =>
    intro v f h2 hv hf
    match f, hf with
    | f + 1, _ =>
      obtain rfl : v = 100 := by omega
      show g_X7_shrinksOf_19 (f_X7_shrinksOf_19 f) _ _ _ _ _ _ = _
      unfold g_X7_shrinksOf_19 g_X7_shrinksOf_73 g_X7_shrinksOf_83 shrA fnd
      rw [if_pos (by omega)]
      split <;> rfl
  | succ r ih =>
    intro v f h2 hv hf
    match f, hf with
    | f + 1, hf =>
      show g_X7_shrinksOf_19 (f_X7_shrinksOf_19 f) _ _ _ _ _ _ = _
      have hfe := (X7_fewest_v h (v : Int) (m := 0) (by decide)).1
      have hfe' : f_X7_fewest (v : Int) 0 s = some (Lv n t v) := hfe
      have hge := (X7_fewest_v h (v : Int) (m := 0) (by decide)).2.ge
      have hge' : -1 ≤ Lv n t v := hge
      have e := SL_s (Lv n t) v
      unfold g_X7_shrinksOf_19
      rw [if_neg (by omega), hfe', bn_t]
      have i2 := ih (v + 1) f (by omega) (by omega) (by omega)
      rw [show v + 1 - 1 = v by omega] at i2
      have same : ¬ (1 ≤ v ∧ Lv n t v < Lv n t (v - 1)) → g_X7_shrinksOf_63 (f_X7_shrinksOf_19 f) x ((SL (Lv n t) v).length : Int) (fnd (SL (Lv n t) v) x) (v : Int) (Lv n t v) s = some (shrA (Lv n t) x, s) := by
        intro hc
        rw [if_neg hc, List.append_nil] at e
        unfold g_X7_shrinksOf_63
        rw [sb_t, wr_t (by omega) (by omega), show (v : Int) + 1 = ((v + 1 : Nat) : Int) by omega]
        rw [e] at i2
        exact i2
      by_cases hb : Lv n t (v - 1) = -1
      · rw [if_pos hb]
        exact same (by omega)
      · rw [if_neg hb]
        by_cases hl : Lv n t (v - 1) ≤ Lv n t v
        · rw [if_pos hl]
          exact same (by omega)
        · rw [if_neg hl]
          rw [if_pos (by omega)] at e
          rw [e, List.length_append] at i2
          simp only [List.length_cons, List.length_nil] at i2
          have hlen : (SL (Lv n t) v).length ≤ v := by
            have := List.length_filter_le (fun u => decide (1 ≤ u ∧ Lv n t u < Lv n t (u - 1))) (List.range v)
            rw [List.length_range] at this
            exact this
          unfold g_X7_shrinksOf_59 g_X7_shrinksOf_63
          rw [sb_t, sb_t, wr_t (a := ((SL (Lv n t) v).length : Int) + 1) (by omega) (by omega), wr_t (by omega) (by omega), sb_t, sb_t, show (v : Int) + 1 = ((v + 1 : Nat) : Int) by omega, show ((SL (Lv n t) v).length : Int) + 1 = (((SL (Lv n t) v).length + (0 + 1) : Nat) : Int) by omega]
          have ef : fnd (SL (Lv n t) v ++ [v]) x = if ((SL (Lv n t) v).length : Int) = x then (v : Int) else fnd (SL (Lv n t) v) x := by
            unfold fnd
            rw [List.length_append]
            simp only [List.length_cons, List.length_nil]
            by_cases hx : ((SL (Lv n t) v).length : Int) = x
            · rw [if_pos hx, if_pos (by omega), show x.toNat = (SL (Lv n t) v).length by omega, getD_at]
            · rw [if_neg hx]
              by_cases hx2 : 0 ≤ x ∧ x < ((SL (Lv n t) v).length : Int)
              · rw [if_pos (by omega), if_pos hx2, getD_app (by omega)]
              · rw [if_neg (by omega), if_neg hx2]
          rw [ef] at i2
          by_cases hx : ((SL (Lv n t) v).length : Int) = x
          · rw [if_pos hx] at i2 ⊢
            exact i2
          · rw [if_neg hx] at i2 ⊢
            exact i2
theorem X7_shrinksOf_v (h : TX n t W s) (x : Int) : ∃ s', f_X7_shrinksOf x s = some (shrA (Lv n t) x, s') ∧ frX s s' := by
  obtain ⟨s1, a, b, c⟩ := X7_findsWays_v h
  refine ⟨s1, ?_, c⟩
  have hfe := (X7_fewest_v b ((1 : Nat) : Int) (m := 0) (by decide)).1
  have hfe' : f_X7_fewest 1 0 s1 = some (Lv n t 1) := hfe
  unfold f_X7_shrinksOf
  rw [a, bn_t, hfe', bn_t]
  have e1 : SL (Lv n t) 1 = [] := by rw [SL_s, if_neg (by omega)]; rfl
  have h0 : Lv n t 0 = -1 := by
    refine fewV_eq (Or.inl ⟨rfl, fun y hy => ?_⟩)
    have := LY_bnd h.1.1 hy
    have := hy.2.2
    omega
  have hge := (X7_fewest_v b ((1 : Nat) : Int) (m := 0) (by decide)).2.ge
  have hge' : -1 ≤ Lv n t 1 := hge
  have e2 : SL (Lv n t) 2 = [] := by
    rw [SL_s, e1, if_neg (by rw [show 1 - 1 = 0 from rfl, h0]; omega)]
    rfl
  have := sh19 b x 98 2 FU (by omega) (by omega) (by unfold FU; omega)
  rw [e2] at this
  have ef : fnd [] x = -1 := by
    unfold fnd
    rw [if_neg (by simp)]
  rw [ef] at this
  exact this
end WQ
