/-! ===== the hasty way ===== -/
section HS
variable {n : Nat} {t : Nat → Int} {W : Int} {s : SS}
/-- there is a layout within the width whose first k choices are so -/
def AC (n : Nat) (t : Nat → Int) (W : Int) (k b : Nat) : Prop := ∃ x, LY n t W 0 x ∧ x.2.2.2 % 2 ^ k = b
noncomputable def dc (p : Prop) : Bool := @decide p (Classical.propDecidable p)
theorem dc_iff {p : Prop} : dc p = true ↔ p := by
  unfold dc
  exact @decide_eq_true_iff p (Classical.propDecidable p)
noncomputable def hs (n : Nat) (t : Nat → Int) (W : Int) : Nat → Nat
  | 0 => 0
  | k + 1 => if dc (AC n t W (k + 1) (hs n t W k)) = true then hs n t W k else hs n t W k + 2 ^ k
theorem hs_lt : ∀ k, hs n t W k < 2 ^ k
  | 0 => by simp [hs]
  | k + 1 => by
      have := hs_lt k
      have e : 2 ^ (k + 1) = 2 ^ k * 2 := Nat.pow_succ 2 k
      unfold hs
      split <;> omega
theorem mod_s (a k : Nat) : a % 2 ^ (k + 1) = a % 2 ^ k + 2 ^ k * (a / 2 ^ k % 2) := by
  rw [Nat.pow_succ, Nat.mod_mul]
theorem tb (a k : Nat) : a.testBit k = decide (a / 2 ^ k % 2 = 1) := Nat.testBit_eq_decide_div_mod_eq
theorem hs_s (k : Nat) : hs n t W (k + 1) = if dc (AC n t W (k + 1) (hs n t W k)) = true then hs n t W k else hs n t W k + 2 ^ k := rfl
theorem hs_bit {k i : Nat} (h : i < k) : (hs n t W (k + 1)).testBit i = (hs n t W k).testBit i := by
  rw [hs_s]
  split
  · rfl
  · have := hs_lt (n := n) (t := t) (W := W) k
    rw [Nat.add_comm, Nat.testBit_two_pow_add_gt h]
theorem AC_hs (h0 : AC n t W 0 0) : ∀ k, AC n t W k (hs n t W k)
  | 0 => h0
  | k + 1 => by
      have hlt := hs_lt (n := n) (t := t) (W := W) k
      unfold hs
      by_cases hd : dc (AC n t W (k + 1) (hs n t W k)) = true
      · rw [if_pos hd]; exact dc_iff.mp hd
      · rw [if_neg hd]
        obtain ⟨x, h1, h2⟩ := AC_hs h0 k
        refine ⟨x, h1, ?_⟩
        have e := mod_s x.2.2.2 k
        have hm : x.2.2.2 / 2 ^ k % 2 = 0 ∨ x.2.2.2 / 2 ^ k % 2 = 1 := by omega
        rcases hm with hm | hm
        · exact absurd (dc_iff.mpr ⟨x, h1, by rw [e, hm, h2]; omega⟩) hd
        · rw [e, hm, h2]; omega
theorem hs_min : ∀ k, ∀ x, LY n t W 0 x → (∀ i, i < k → x.2.2.2.testBit i = true → (hs n t W k).testBit i = true) → x.2.2.2 % 2 ^ k = hs n t W k
  | 0, x, hx, _ => by simp [hs]; omega
  | k + 1, x, hx, hb => by
      have hlt := hs_lt (n := n) (t := t) (W := W) k
      have ih := hs_min k x hx (fun i hi q => by rw [← hs_bit hi]; exact hb i (by omega) q)
      have e := mod_s x.2.2.2 k
      have hm : x.2.2.2 / 2 ^ k % 2 = 0 ∨ x.2.2.2 / 2 ^ k % 2 = 1 := by omega
      unfold hs
      by_cases hd : dc (AC n t W (k + 1) (hs n t W k)) = true
      · rw [if_pos hd]
        rcases hm with hm | hm
        · rw [e, hm, ih]; omega
        · have h1 := hb k (by omega) (by rw [tb, hm]; rfl)
          unfold hs at h1
          rw [if_pos hd, Nat.testBit_lt_two_pow hlt] at h1
          cases h1
      · rw [if_neg hd]
        rcases hm with hm | hm
        · exact absurd (dc_iff.mpr ⟨x, hx, by rw [e, hm, ih]; omega⟩) hd
        · rw [e, hm, ih]; omega
/-- what the model looks for -/
def AM (n : Nat) (t : Nat → Int) (W : Int) (k b : Nat) : Prop := ∃ w, w < 64 ∧ w % 2 ^ k = b ∧ ∃ x, U n t w = some x ∧ (x.2.2.1 : Int) ≤ W
theorem AM_AC (hn : n ≤ 40) (k : Nat) : AM n t W (k + 1) (hs n t W k) ↔ AC n t W (k + 1) (hs n t W k) := by
  have hlt := hs_lt (n := n) (t := t) (W := W) k
  constructor
  · rintro ⟨w, h1, h2, x, h3, h4⟩
    obtain ⟨u1, u2, u3⟩ := U_way hn h3
    have hx : LY n t W 0 x := ⟨u1, Nat.and_zero _, h4⟩
    have hbit : ∀ i, i < k + 1 → x.2.2.2.testBit i = true → (hs n t W k).testBit i = true := by
      intro i hi q
      have := u3 i q
      rw [← h2, Nat.testBit_mod_two_pow]
      simp [hi, this]
    have e1 := hs_min k x hx (fun i hi q => hbit i (by omega) q)
    refine ⟨x, hx, ?_⟩
    have e := mod_s x.2.2.2 k
    have hm : x.2.2.2 / 2 ^ k % 2 = 0 ∨ x.2.2.2 / 2 ^ k % 2 = 1 := by omega
    rcases hm with hm | hm
    · rw [e, hm, e1]; omega
    · have := hbit k (by omega) (by rw [tb, hm]; rfl)
      rw [Nat.testBit_lt_two_pow hlt] at this
      cases this
  · rintro ⟨x, h1, h2⟩
    have := (U_way hn h1.1).2.1
    have := pow_pC (n := n) (t := t)
    exact ⟨x.2.2.2, by omega, h2, x, h1.1, h1.2.2⟩
theorem AM_0 (hn : n ≤ 40) : AM n t W 0 0 ↔ AC n t W 0 0 := by
  constructor
  · rintro ⟨w, h1, h2, x, h3, h4⟩
    exact ⟨x, ⟨(U_way hn h3).1, Nat.and_zero _, h4⟩, by simp; omega⟩
  · rintro ⟨x, h1, h2⟩
    have := (U_way hn h1.1).2.1
    have := pow_pC (n := n) (t := t)
    exact ⟨x.2.2.2, by omega, h2, x, h1.1, h1.2.2⟩
noncomputable def hasA (n : Nat) (t : Nat → Int) (W y : Int) : Int := if dc (AC n t W 0 0) = true then (if y = 0 then (hs n t W (pC n t) : Int) else wayA n t (hs n t W (pC n t)) (if y = 1 then 0 else 2)) else -1
theorem hs_U (hn : n ≤ 40) (h0 : AC n t W 0 0) : ∃ x, U n t (hs n t W (pC n t)) = some x := by
  obtain ⟨x, h1, h2⟩ := AC_hs h0 (pC n t)
  have := (U_way hn h1.1).2.1
  rw [Nat.mod_eq_of_lt this] at h2
  exact ⟨x, by rw [← h2]; exact h1.1⟩
theorem ia5 (h : WY n t W s) {k b : Nat} (hk : k ≤ 6) : ∀ (r i f : Nat) (a : Bool), i + r = 64 → r < f → (a = true ↔ ∃ w, w < i ∧ w % 2 ^ k = b ∧ ∃ x, U n t w = some x ∧ (x.2.2.1 : Int) ≤ W) → f_X7_isAny_5 f (b : Int) (k : Int) (bI a) (i : Int) s = some (bI (dc (AM n t W k b))) := by
  intro r
  induction r with
  | zero =>
    intro i f a hi hf ha
    match f, hf with
    | f + 1, _ =>
      obtain rfl : i = 64 := by omega
      show g_X7_isAny_5 (f_X7_isAny_5 f) _ _ _ _ _ = _
      unfold g_X7_isAny_5 g_X7_isAny_53
      rw [if_pos (by omega)]
      have e : a = dc (AM n t W k b) := by
        rw [Bool.eq_iff_iff, ha, dc_iff]
        exact Iff.rfl
      rw [← e]
      cases a
      · exact gb_0
      · exact gb_1
  | succ r ih =>
    intro i f a hi hf ha
    match f, hf with
    | f + 1, hf =>
      show g_X7_isAny_5 (f_X7_isAny_5 f) _ _ _ _ _ = _
      have hp : 2 ^ k ≤ 64 := Nat.le_trans (Nat.pow_le_pow_right (by decide) hk) (by decide)
      have hp1 : 1 ≤ 2 ^ k := Nat.one_le_two_pow
      have hshl : i_shl 1 (k : Int) = ((2 ^ k : Nat) : Int) := by
        have := oN_shl (a := 1) (k := k) (by omega) (by omega)
        rw [Nat.one_mul] at this
        exact this
      have hand : i_and (i : Int) (wr (i_shl 1 (k : Int) - 1)) = ((i % 2 ^ k : Nat) : Int) := by
        rw [hshl, wr_t (by omega) (by omega), show ((2 ^ k : Nat) : Int) - 1 = ((2 ^ k - 1 : Nat) : Int) by omega, oN_and (by omega) (by omega), Nat.and_two_pow_sub_one_eq_mod]
      have go : ∀ a1 : Bool, (a1 = true ↔ ∃ w, w < i + 1 ∧ w % 2 ^ k = b ∧ ∃ x, U n t w = some x ∧ (x.2.2.1 : Int) ≤ W) → g_X7_isAny_46 (f_X7_isAny_5 f) (b : Int) (k : Int) (i : Int) (bI a1) s = some (bI (dc (AM n t W k b))) := by
        intro a1 h1
        unfold g_X7_isAny_46
        rw [sb_t, wr_t (by omega) (by omega), show (i : Int) + 1 = ((i + 1 : Nat) : Int) by omega]
        exact ih (i + 1) f a1 (by omega) (by omega) h1
      unfold g_X7_isAny_5 g_X7_isAny_45 g_X7_isAny_41
      rw [if_neg (by omega), hand]
      cases a with
      | true =>
        rw [if_neg (show ¬ bI true = 0 by decide)]
        obtain ⟨w, q1, q2⟩ := ha.mp rfl
        exact go true ⟨fun _ => ⟨w, by omega, q2⟩, fun _ => rfl⟩
      | false =>
        have hno : ∀ w, w < i → ¬ (w % 2 ^ k = b ∧ ∃ x, U n t w = some x ∧ (x.2.2.1 : Int) ≤ W) := fun w hw q => by
          have := ha.mpr ⟨w, hw, q⟩
          cases this
        have no : ¬ (i % 2 ^ k = b ∧ ∃ x, U n t i = some x ∧ (x.2.2.1 : Int) ≤ W) → g_X7_isAny_46 (f_X7_isAny_5 f) (b : Int) (k : Int) (i : Int) 0 s = some (bI (dc (AM n t W k b))) := by
          intro hc
          exact go false ⟨fun q => (by cases q), fun ⟨w, q1, q2⟩ => by
            by_cases hw : w = i
            · subst hw; exact absurd q2 hc
            · exact absurd q2 (hno w (by omega))⟩
        rw [if_pos (show bI false = 0 from rfl)]
        by_cases hb : i % 2 ^ k = b
        · rw [if_pos (by omega), h.1.2.1, X7_isAllowed_v h (by omega), bn_t]
          cases hu : U n t i with
          | none =>
            rw [if_pos (alw_n hu)]
            exact no (fun q => by obtain ⟨-, x, q, -⟩ := q; rw [hu] at q; cases q)
          | some x =>
            by_cases hv : (x.2.2.1 : Int) ≤ W
            · rw [if_neg (show ¬ alw n t i W = 0 by rw [alw_y hu hv]; decide)]
              exact go true ⟨fun _ => ⟨i, by omega, hb, x, hu, hv⟩, fun _ => rfl⟩
            · rw [if_pos (alw_0 hu hv)]
              exact no (fun q => by obtain ⟨-, y, q, q2⟩ := q; rw [hu] at q; injection q with q; subst q; exact hv q2)
        · rw [if_neg (by omega)]
          exact no (fun q => hb q.1)
theorem X7_isAny_v (h : WY n t W s) {k b : Nat} (hk : k ≤ 6) : f_X7_isAny (b : Int) (k : Int) s = some (bI (dc (AM n t W k b))) :=
  ia5 h hk 64 0 FU false (by omega) (by unfold FU; omega) ⟨fun q => (by cases q), fun ⟨w, q, _⟩ => by omega⟩
theorem ha19 (h : WY n t W s) (h0 : AC n t W 0 0) {y : Int} (hy : 0 ≤ y ∧ y ≤ 2) : ∀ (r k f : Nat), k + r = pC n t → r < f → f_X7_hasteOf_19 f y (hs n t W k : Int) (k : Int) s = some (hasA n t W y, s) := by
  have hC := pC_le (n := n) (t := t)
  have h5 : s 0 5 = (pC n t : Int) := h.2.1.2.2.1
  intro r
  induction r with
  | zero =>
    intro k f hk hf
    match f, hf with
    | f + 1, _ =>
      obtain rfl : k = pC n t := by omega
      show g_X7_hasteOf_19 (f_X7_hasteOf_19 f) _ _ _ _ = _
      unfold g_X7_hasteOf_19 g_X7_hasteOf_54 g_X7_hasteOf_88 hasA
      rw [h5, if_pos (by omega), if_pos (dc_iff.mpr h0)]
      obtain ⟨x, hx⟩ := hs_U (WY_n h) h0
      have hlt := hs_lt (n := n) (t := t) (W := W) (pC n t)
      have hp := pow_pC (n := n) (t := t)
      have ho := er_ok (U_bnd (WY_n h) hx).2.1
      unfold wayA
      by_cases y0 : y = 0
      · rw [if_pos y0, if_pos y0]
      · rw [if_neg y0, if_neg y0, hx, gx_d (by omega) (by omega), gx_d (by omega) (by omega), tn_c, h.2.2 _ (by omega), hx, encO_some, X7_lines_pk ho, X7_most_pk ho, bn_t, bn_t]
        by_cases y1 : y = 1
        · rw [if_pos y1, if_pos y1]
          rfl
        · rw [if_neg y1, if_neg y1]
          rfl
  | succ r ih =>
    intro k f hk hf
    match f, hf with
    | f + 1, hf =>
      show g_X7_hasteOf_19 (f_X7_hasteOf_19 f) _ _ _ _ = _
      have hlt := hs_lt (n := n) (t := t) (W := W) k
      have hp : 2 ^ k ≤ 2 ^ 6 := Nat.pow_le_pow_right (by decide) (by omega)
      have hshl : i_shl 1 (k : Int) = ((2 ^ k : Nat) : Int) := by
        have := oN_shl (a := 1) (k := k) (by omega) (by omega)
        rw [Nat.one_mul] at this
        exact this
      have ea : dc (AM n t W (k + 1) (hs n t W k)) = dc (AC n t W (k + 1) (hs n t W k)) := by
        rw [Bool.eq_iff_iff, dc_iff, dc_iff]
        exact AM_AC (WY_n h) k
      have eh : hs n t W (k + 1) = if dc (AC n t W (k + 1) (hs n t W k)) = true then hs n t W k else hs n t W k + 2 ^ k := rfl
      unfold g_X7_hasteOf_19 g_X7_hasteOf_46
      rw [h5, if_neg (by omega), wr_t (by omega) (by omega), show (k : Int) + 1 = ((k + 1 : Nat) : Int) by omega, X7_isAny_v h (by omega), bn_t, ea]
      have i2 := ih (k + 1) f (by omega) (by omega)
      cases hd : dc (AC n t W (k + 1) (hs n t W k)) with
      | true =>
        rw [hd, if_pos rfl] at eh
        rw [eh] at i2
        rw [if_neg (show ¬ bI true = 0 by decide), sb_t, sb_t, show (0 : Int) = ((0 : Nat) : Int) from rfl, oN_or (k := 6) (by decide) (by omega) (by decide), Nat.or_zero]
        exact i2
      | false =>
        rw [hd, if_neg (by decide)] at eh
        rw [eh] at i2
        have eo : hs n t W k ||| 2 ^ k = hs n t W k + 2 ^ k := by
          have := or_sum (a := hs n t W k) (k := k) 1 hlt
          rw [Nat.mul_one] at this
          exact this
        rw [if_pos (show bI false = 0 from rfl), sb_t, sb_t, hshl, oN_or (k := 7) (by decide) (by omega) (by omega), eo]
        exact i2
theorem X7_hasteOf_v (h : TX n t W s) {y : Int} (hy : 0 ≤ y ∧ y ≤ 2) : ∃ s', f_X7_hasteOf y s = some (hasA n t W y, s') ∧ frX s s' := by
  obtain ⟨s1, a, b, c⟩ := X7_findsWays_v h
  refine ⟨s1, ?_, c⟩
  have hC := pC_le (n := n) (t := t)
  unfold f_X7_hasteOf
  have e := X7_isAny_v b (k := 0) (b := 0) (by decide)
  have e' : f_X7_isAny 0 0 s1 = _ := e
  have ea : dc (AM n t W 0 0) = dc (AC n t W 0 0) := by
    rw [Bool.eq_iff_iff, dc_iff, dc_iff]
    exact AM_0 h.1.1
  rw [a, bn_t, e', bn_t, ea]
  cases hd : dc (AC n t W 0 0) with
  | false =>
    rw [if_pos (show bI false = 0 from rfl)]
    unfold hasA
    rw [hd, if_neg (by decide)]
  | true =>
    rw [if_neg (show ¬ bI true = 0 by decide)]
    exact ha19 b (dc_iff.mp hd) hy (pC n t) 0 FU (by omega) (by unfold FU; omega)
end HS
