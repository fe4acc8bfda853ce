/-! ===== what the class tells of ways ===== -/
section CWQ
variable {n : Nat} {t : Nat → Int} {W : Int} {s : SS}
theorem tell28 (hR : WR n t s) {w : Nat} (hw : w < mny n t) {x : Sh} (hu : U n t w = some x) (y : Int) : f_X3_tell 28 (w : Int) y s = some (tellA x y) := by
  have hm := mny_le (n := n) (t := t)
  have := hR.2 w hw
  rw [hu] at this
  rw [X3_tell_v (by rw [shl28]; omega) this]
  rfl
theorem tell28_n (hR : WR n t s) {w : Nat} (hw : w < mny n t) (hu : U n t w = none) : f_X3_tell 28 (w : Int) 0 s = some 0 := by
  have hm := mny_le (n := n) (t := t)
  have := hR.2 w hw
  rw [hu] at this
  have h' : s (28 + 1 + 0) w = 0 := this
  rw [X3_tell_0 (by rw [shl28]; omega), if_pos rfl, h']
theorem mny_pos (h : 0 < mny n t) : 0 < pN n t ∧ mny n t = 2 ^ pC n t := by
  unfold mny at h ⊢
  by_cases h0 : pN n t = 0
  · rw [if_pos h0] at h; omega
  · rw [if_neg h0]
    exact ⟨by omega, rfl⟩
theorem mny_U {w : Nat} {x : Sh} (hn : n ≤ 40) (h : U n t w = some x) : mny n t = 2 ^ pC n t := by
  have := (U_bnd hn h).2.2.1
  unfold mny
  rw [if_neg (by omega)]
theorem X5_tell_v (hn : n ≤ 40) (hR : WR n t s) {w : Nat} (hw : w < 64) (y : Int) : f_X5_tell (w : Int) y s = some (wayA n t w y) := by
  have hm := mny_le (n := n) (t := t)
  unfold f_X5_tell g_X5_tell_43 wayA
  rw [hR.1]
  by_cases h0 : mny n t = 0
  · rw [if_pos (by omega)]
    cases hu : U n t w with
    | none => rfl
    | some x =>
      have := mny_U hn hu
      have := Nat.two_pow_pos (pC n t)
      omega
  · obtain ⟨hp, he⟩ := mny_pos (n := n) (t := t) (by omega)
    rw [if_neg (by omega), sb_t, wr_t (by omega) (by omega), show (mny n t : Int) - 1 = ((mny n t - 1 : Nat) : Int) by omega, oN_and (by omega) (by omega), he, Nat.and_two_pow_sub_one_eq_mod]
    have hlt : w % 2 ^ pC n t < mny n t := by rw [he]; exact Nat.mod_lt _ (Nat.two_pow_pos _)
    have hmod := U_mod (t := t) hn w
    cases hu : U n t w with
    | none =>
      rw [hu] at hmod
      rw [tell28_n hR hlt hmod, bn_t, if_pos (by omega)]
    | some x =>
      rw [hu] at hmod
      have hb := (U_bnd hn hu).1.1
      rw [tell28 hR hlt hmod, bn_t, tell28 hR hlt hmod, bn_t, if_neg (show ¬ tellA x 0 ≤ 0 by show ¬ ((x.1 : Nat) : Int) ≤ 0; omega)]
theorem X5_fits_v (hn : n ≤ 40) (hR : WR n t s) {w : Nat} (hw : w < mny n t) (v : Int) : f_X5_fits (w : Int) v s = some (alw n t w v) := by
  unfold f_X5_fits g_X5_fits_29 g_X5_fits_30
  cases hu : U n t w with
  | none =>
    rw [tell28_n hR hw hu, bn_t, if_pos (by omega), gb_0, alw_n hu]
  | some x =>
    have hb := (U_bnd hn hu).1.1
    rw [tell28 hR hw hu, bn_t, if_neg (show ¬ tellA x 0 ≤ 0 by show ¬ ((x.1 : Nat) : Int) ≤ 0; omega), tell28 hR hw hu, bn_t]
    show (if v < (x.2.2.1 : Int) then _ else _) = _
    by_cases hv : (x.2.2.1 : Int) ≤ v
    · rw [if_neg (by omega), gb_1, alw_y hu hv]
    · rw [if_pos (by omega), gb_0, alw_0 hu hv]
/-- those of the first i ways -/
theorem ia3 (hn : n ≤ 40) (hR : WR n t s) {k b : Nat} (hk : k ≤ 6) : ∀ (r i f : Nat), i + r = mny n t → r < f → (∀ w, w < i → ¬ ∃ x, U n t w = some x ∧ (x.2.2.1 : Int) ≤ W ∧ x.2.2.2 % 2 ^ k = b) → f_X5_isAny_3 f ((2 ^ k - 1 : Nat) : Int) (b : Int) W (i : Int) s = some (bI (dc (AC n t W k b))) := by
  have hm := mny_le (n := n) (t := t)
  have hp : 2 ^ k ≤ 64 := Nat.le_trans (Nat.pow_le_pow_right (by decide) hk) (by decide)
  intro r
  induction r with
  | zero =>
    intro i f hi hf hno
    match f, hf with
    | f + 1, _ =>
      obtain rfl : i = mny n t := by omega
      show g_X5_isAny_3 (f_X5_isAny_3 f) _ _ _ _ _ = _
      unfold g_X5_isAny_3 g_X5_isAny_46
      rw [hR.1, if_pos (by omega)]
      cases hd : dc (AC n t W k b) with
      | false => rfl
      | true =>
        obtain ⟨x, h1, h2⟩ := dc_iff.mp hd
        have e := mny_U hn h1.1
        have hw := (U_way hn h1.1).2.1
        exact absurd ⟨x, h1.1, h1.2.2, h2⟩ (hno x.2.2.2 (by omega))
  | succ r ih =>
    intro i f hi hf hno
    match f, hf with
    | f + 1, hf =>
      show g_X5_isAny_3 (f_X5_isAny_3 f) _ _ _ _ _ = _
      unfold g_X5_isAny_3 g_X5_isAny_40 g_X5_isAny_38
      rw [hR.1, if_neg (by omega), X5_fits_v hn hR (by omega), bn_t, sb_t, wr_t (by omega) (by omega), show (i : Int) + 1 = ((i + 1 : Nat) : Int) by omega]
      have no : (¬ ∃ x, U n t i = some x ∧ (x.2.2.1 : Int) ≤ W ∧ x.2.2.2 % 2 ^ k = b) → f_X5_isAny_3 f ((2 ^ k - 1 : Nat) : Int) (b : Int) W ((i + 1 : Nat) : Int) s = some (bI (dc (AC n t W k b))) := by
        intro hc
        exact ih (i + 1) f (by omega) (by omega) (fun w hw => by
          by_cases h : w = i
          · subst h; exact hc
          · exact hno w (by omega))
      cases hu : U n t i with
      | none =>
        rw [if_pos (alw_n hu)]
        exact no (by rintro ⟨x, q, -⟩; rw [hu] at q; cases q)
      | some x =>
        by_cases hv : (x.2.2.1 : Int) ≤ W
        · rw [if_neg (show ¬ alw n t i W = 0 by rw [alw_y hu hv]; decide), tell28 hR (by omega) hu, bn_t]
          have hx6 := (U_bnd hn hu).2.1.2.2.2
          have e3 : tellA x 3 = (x.2.2.2 : Int) := rfl
          rw [e3, oN_and (by omega) (by omega), Nat.and_two_pow_sub_one_eq_mod]
          by_cases hb : x.2.2.2 % 2 ^ k = b
          · rw [if_pos (by omega)]
            have : AC n t W k b := ⟨x, ⟨(U_way hn hu).1, Nat.and_zero _, hv⟩, hb⟩
            rw [dc_iff.mpr this]
            rfl
          · rw [if_neg (by omega)]
            exact no (by rintro ⟨y, q, -, q2⟩; rw [hu] at q; injection q with q; subst q; exact hb q2)
        · rw [if_pos (alw_0 hu hv)]
          exact no (by rintro ⟨y, q, q2, -⟩; rw [hu] at q; injection q with q; subst q; exact hv q2)
theorem X5_isAny_v (hn : n ≤ 40) (hR : WR n t s) {k b : Nat} (hk : k ≤ 6) : f_X5_isAny ((2 ^ k - 1 : Nat) : Int) (b : Int) W s = some (bI (dc (AC n t W k b))) := by
  have hm := mny_le (n := n) (t := t)
  exact ia3 hn hR hk (mny n t) 0 FU (by omega) (by unfold FU; omega) (fun w hw => by omega)
theorem hy17 (hn : n ≤ 40) (hR : WR n t s) : ∀ (r k f : Nat), k + r = pC n t → r < f → f_X5_hasty_17 f (pC n t : Int) W (hs n t W k : Int) (k : Int) s = some (hs n t W (pC n t) : Int) := by
  have hC := pC_le (n := n) (t := t)
  intro r
  induction r with
  | zero =>
    intro k f hk hf
    match f, hf with
    | f + 1, _ =>
      obtain rfl : k = pC n t := by omega
      show g_X5_hasty_17 (f_X5_hasty_17 f) _ _ _ _ _ = _
      unfold g_X5_hasty_17 g_X5_hasty_62
      rw [if_pos (by omega)]
  | succ r ih =>
    intro k f hk hf
    match f, hf with
    | f + 1, hf =>
      show g_X5_hasty_17 (f_X5_hasty_17 f) _ _ _ _ _ = _
      have hlt := hs_lt (n := n) (t := t) (W := W) k
      have hp : 2 ^ k ≤ 2 ^ 6 := Nat.pow_le_pow_right (by decide) (by omega)
      have hp1 : 1 ≤ 2 ^ k := Nat.one_le_two_pow
      have hshl : i_shl 1 (k : Int) = ((2 ^ k : Nat) : Int) := by
        have := oN_shl (a := 1) (k := k) (by omega) (by omega)
        rw [Nat.one_mul] at this
        exact this
      have e2 : 2 ^ (k + 1) = 2 ^ k * 2 := Nat.pow_succ 2 k
      have hshl2 : i_shl 2 (k : Int) = ((2 ^ (k + 1) : Nat) : Int) := by
        have := oN_shl (a := 2) (k := k) (by omega) (by omega)
        rw [Nat.mul_comm, ← e2] at this
        exact this
      have i2 := ih (k + 1) f (by omega) (by omega)
      have eh := hs_s (n := n) (t := t) (W := W) k
      unfold g_X5_hasty_17 g_X5_hasty_56
      rw [if_neg (by omega), if_neg (by omega), sb_t, hshl2, wr_t (by omega) (by omega), show ((2 ^ (k + 1) : Nat) : Int) - 1 = ((2 ^ (k + 1) - 1 : Nat) : Int) by omega, X5_isAny_v hn hR (by omega), bn_t, sb_t, hshl, wr_t (by omega) (by omega), show (k : Int) + 1 = ((k + 1 : Nat) : Int) by omega]
      cases hd : dc (AC n t W (k + 1) (hs n t W k)) with
      | true =>
        rw [hd, if_pos rfl] at eh
        rw [eh] at i2
        rw [if_neg (show ¬ bI true = 0 by decide)]
        exact i2
      | false =>
        rw [hd, if_neg (by decide)] at eh
        rw [eh] at i2
        have eo : hs n t W k ||| 2 ^ k = hs n t W k + 2 ^ k := by
          have := or_sum (a := hs n t W k) (k := k) 1 hlt
          rw [Nat.mul_one] at this
          exact this
        rw [if_pos (show bI false = 0 from rfl), sb_t, oN_or (k := 7) (by decide) (by omega) (by omega), eo]
        exact i2
theorem X6_haste_v (hn : n ≤ 40) (hR : WR n t s) (h10 : s 1 10 = (pC n t : Int)) (h6 : s 0 6 = W) (y : Int) : f_X6_haste y s = some (if 0 ≤ y ∧ y ≤ 2 then hasA n t W y else -2) := by
  have hC := pC_le (n := n) (t := t)
  unfold f_X6_haste g_X6_haste_9
  by_cases q1 : y < 0
  · rw [if_pos q1, if_neg (show ¬ (0 ≤ y ∧ y ≤ 2) by omega)]
  · rw [if_neg q1]
    by_cases q2 : y ≤ 2
    · rw [if_pos q2, if_pos (show 0 ≤ y ∧ y ≤ 2 by omega), h10, h6]
      unfold f_X5_hasty
      have e : f_X5_isAny 0 0 W s = _ := X5_isAny_v hn hR (k := 0) (b := 0) (by decide)
      rw [e, bn_t]
      unfold hasA
      cases hd : dc (AC n t W 0 0) with
      | false =>
        rw [if_pos (show bI false = 0 from rfl), bn_t, if_pos rfl, if_neg (show ¬ false = true by decide)]
        rfl
      | true =>
        have eh : f_X5_hasty_17 FU (pC n t : Int) W 0 0 s = _ := hy17 hn hR (pC n t) 0 FU (by omega) (by unfold FU; omega)
        have hlt := hs_lt (n := n) (t := t) (W := W) (pC n t)
        have hp := pow_pC (n := n) (t := t)
        rw [if_neg (show ¬ bI true = 0 by decide), eh, bn_t, if_neg (by omega), if_pos (show true = true from rfl)]
        unfold g_X6_haste_40 g_X6_haste_57
        rw [X5_tell_v hn hR (by omega), bn_t, X5_tell_v hn hR (by omega), bn_t]
        by_cases y0 : y = 0
        · rw [if_pos y0, if_pos y0]
        · rw [if_neg y0, if_neg y0]
          by_cases y1 : y = 1
          · rw [if_pos y1, if_pos y1]
          · rw [if_neg y1, if_neg y1]
    · rw [if_neg q2, if_neg (show ¬ (0 ≤ y ∧ y ≤ 2) by omega)]
def wyA (n : Nat) (t : Nat → Int) (x y : Int) : Int := if (0 ≤ x ∧ x ≤ 63) ∧ 0 ≤ y ∧ y ≤ 2 then wayA n t x.toNat y else -2
theorem X6_way_v (hn : n ≤ 40) (hR : WR n t s) (x y : Int) : f_X6_way x y s = some (wyA n t x y) := by
  unfold f_X6_way g_X6_way_19 wyA
  by_cases q1 : x < 0
  · rw [if_pos q1, if_neg (show ¬ ((0 ≤ x ∧ x ≤ 63) ∧ 0 ≤ y ∧ y ≤ 2) by omega)]
  · rw [if_neg q1]
    by_cases q2 : 64 ≤ x
    · rw [if_pos q2, if_neg (show ¬ ((0 ≤ x ∧ x ≤ 63) ∧ 0 ≤ y ∧ y ≤ 2) by omega)]
    · rw [if_neg q2]
      by_cases q3 : y < 0
      · rw [if_pos q3, if_neg (show ¬ ((0 ≤ x ∧ x ≤ 63) ∧ 0 ≤ y ∧ y ≤ 2) by omega)]
      · rw [if_neg q3]
        by_cases q4 : y ≤ 2
        · rw [if_pos q4, if_pos (show (0 ≤ x ∧ x ≤ 63) ∧ 0 ≤ y ∧ y ≤ 2 by omega)]
          have := X5_tell_v hn hR (w := x.toNat) (by omega) y
          rw [show ((x.toNat : Nat) : Int) = x by omega] at this
          rw [this, bn_t]
        · rw [if_neg q4, if_neg (show ¬ ((0 ≤ x ∧ x ≤ 63) ∧ 0 ≤ y ∧ y ≤ 2) by omega)]
theorem X7_way_v (h : TX n t W s) (x y : Int) : ∃ s', f_X7_way x y s = some (wyA n t x y, s') ∧ frX s s' := by
  unfold f_X7_way g_X7_way_28 g_X7_way_30 wyA
  rw [X7_in_v, bn_t]
  by_cases q1 : 0 ≤ x ∧ x ≤ 63
  · rw [if_pos q1, if_neg (show ¬ (1 : Int) = 0 by decide), X7_in_v, bn_t]
    by_cases q2 : 0 ≤ y ∧ y ≤ 2
    · rw [if_pos q2, if_neg (show ¬ (1 : Int) = 0 by decide), if_pos (show (0 ≤ x ∧ x ≤ 63) ∧ 0 ≤ y ∧ y ≤ 2 from ⟨q1, q2⟩)]
      obtain ⟨s1, a, b⟩ := X7_wayFor_v h (w := x.toNat) (by omega) q2
      rw [show ((x.toNat : Nat) : Int) = x by omega] at a
      rw [a, cb_t]
      exact ⟨s1, rfl, b⟩
    · rw [if_neg q2, if_pos rfl, if_neg (fun z => q2 z.2)]
      exact ⟨s, rfl, frX_refl s⟩
  · rw [if_neg q1, if_pos rfl, if_neg (fun z => q1 z.1)]
    exact ⟨s, rfl, frX_refl s⟩
theorem X6_shrinks_v (hW : CW n t s) (x : Int) : f_X6_shrinks x s = some (if -1 ≤ x ∧ x ≤ 39 then shrA (Lv n t) x else -2) := by
  obtain ⟨-, -, h4, h34, hL, -⟩ := hW
  have h39 := SL_39 hL (v := 100) (by omega)
  unfold f_X6_shrinks g_X6_shrinks_11 g_X6_shrinks_37
  by_cases q1 : x < -1
  · rw [if_pos q1, if_neg (show ¬ (-1 ≤ x ∧ x ≤ 39) by omega)]
  · rw [if_neg q1]
    by_cases q2 : x ≤ 39
    · rw [if_pos q2, if_pos (show -1 ≤ x ∧ x ≤ 39 by omega)]
      unfold shrA
      by_cases q3 : x = -1
      · rw [if_pos q3, if_pos q3, h4]
      · rw [if_neg q3, if_neg q3]
        unfold f_X5_shrinkAt g_X5_shrinkAt_30 g_X5_shrinkAt_31
        rw [if_neg (show ¬ x < 0 by omega), h4]
        by_cases q4 : ((SL (Lv n t) 100).length : Int) ≤ x
        · rw [if_pos q4, bn_t, if_neg (show ¬ (0 ≤ x ∧ x < ((SL (Lv n t) 100).length : Int)) by omega)]
        · rw [if_neg q4, if_neg (show ¬ 40 ≤ x by omega), gx_d (by omega) (by omega), h34 x.toNat (by omega), bn_t, if_pos (show 0 ≤ x ∧ x < ((SL (Lv n t) 100).length : Int) by omega)]
    · rw [if_neg q2, if_neg (show ¬ (-1 ≤ x ∧ x ≤ 39) by omega)]
theorem X7_shrinks_v (h : TX n t W s) (x : Int) : ∃ s', f_X7_shrinks x s = some (if -1 ≤ x ∧ x ≤ 39 then shrA (Lv n t) x else -2, s') ∧ frX s s' := by
  unfold f_X7_shrinks g_X7_shrinks_20
  rw [X7_in_v, bn_t]
  by_cases q1 : -1 ≤ x ∧ x ≤ 39
  · obtain ⟨s1, a, b⟩ := X7_shrinksOf_v h x
    rw [if_pos q1, if_pos q1, if_neg (show ¬ (1 : Int) = 0 by decide), a, cb_t]
    exact ⟨s1, rfl, b⟩
  · rw [if_neg q1, if_neg q1, if_pos rfl]
    exact ⟨s, rfl, frX_refl s⟩
theorem X7_haste_v (h : TX n t W s) (y : Int) : ∃ s', f_X7_haste y s = some (if 0 ≤ y ∧ y ≤ 2 then hasA n t W y else -2, s') ∧ frX s s' := by
  unfold f_X7_haste g_X7_haste_19
  rw [X7_in_v, bn_t]
  by_cases q1 : 0 ≤ y ∧ y ≤ 2
  · obtain ⟨s1, a, b⟩ := X7_hasteOf_v h q1
    rw [if_pos q1, if_pos q1, if_neg (show ¬ (1 : Int) = 0 by decide), a, cb_t]
    exact ⟨s1, rfl, b⟩
  · rw [if_neg q1, if_neg q1, if_pos rfl]
    exact ⟨s, rfl, frX_refl s⟩
end CWQ
