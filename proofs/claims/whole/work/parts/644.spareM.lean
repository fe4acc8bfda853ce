/-! ===== the choices that need not be: the model ===== -/
section SPM
variable {n : Nat} {t : Nat → Int} {W : Int} {s : SS}
theorem X7_max_i (a b : Int) : f_X7_max a b = some (if a ≤ b then b else a) := by
  unfold f_X7_max g_X7_max_10
  split <;> rfl
noncomputable def lwo (n : Nat) (t : Nat → Int) (W : Int) (m : Nat) : Int := if lst n t m = -1 then -1 else few n t (if W ≤ lst n t m then lst n t m else W) m
noncomputable def ovb (n : Nat) (t : Nat → Int) (W : Int) (m : Nat) : Bool := decide (W < lst n t m)
def bitsF (P : Nat → Bool) : Nat → Nat
  | 0 => 0
  | k + 1 => if P k = true then bitsF P k + 2 ^ k else bitsF P k
theorem bitsF_lt (P : Nat → Bool) : ∀ k, bitsF P k < 2 ^ k
  | 0 => by simp [bitsF]
  | k + 1 => by
      have := bitsF_lt P k
      have e : 2 ^ (k + 1) = 2 ^ k * 2 := Nat.pow_succ 2 k
      unfold bitsF
      split <;> omega
theorem bitsF_or (P : Nat → Bool) (k : Nat) : bitsF P k ||| 2 ^ k = bitsF P k + 2 ^ k := by
  have := or_sum (a := bitsF P k) (k := k) 1 (bitsF_lt P k)
  rw [Nat.mul_one] at this
  exact this
noncomputable def spC (n : Nat) (t : Nat → Int) (W : Int) (k : Nat) : Bool := decide (lwo n t W (2 ^ k) = lwo n t W 0 ∧ ovb n t W (2 ^ k) = ovb n t W 0)
noncomputable def spA (n : Nat) (t : Nat → Int) (W : Int) : Int := if lwo n t W 0 = -1 then 0 else (bitsF (spC n t W) (pC n t) : Int)
theorem X7_linesWithout_v (h : WY n t W s) {m : Nat} (hm : m < 64) : f_X7_linesWithout (m : Int) s = some (lwo n t W m) := by
  unfold f_X7_linesWithout g_X7_linesWithout_28 lwo
  rw [(X7_leastWithout_v h hm).1, bn_t, h.1.2.1, X7_max_i, bn_t, (X7_fewest_v h _ hm).1, bn_t]
  split <;> rfl
theorem X7_isOverBy_v (h : WY n t W s) {m : Nat} (hm : m < 64) : f_X7_isOverBy (m : Int) s = some (bI (ovb n t W m)) := by
  unfold f_X7_isOverBy g_X7_isOverBy_17 ovb
  rw [(X7_leastWithout_v h hm).1, bn_t, h.1.2.1]
  by_cases hl : lst n t m ≤ W
  · rw [if_pos hl, gb_0, decide_eq_false (by omega)]
    rfl
  · rw [if_neg hl, gb_1, decide_eq_true (by omega)]
    rfl
theorem sp14 (h : WY n t W s) (h1 : lwo n t W 0 ≠ -1) : ∀ (r k f : Nat), k + r = pC n t → r < f → f_X7_spareOf_14 f (lwo n t W 0) (bitsF (spC n t W) k : Int) (k : Int) s = some ((bitsF (spC n t W) (pC n t) : Int), s) := by
  have hC := pC_le (n := n) (t := t)
  have h5 : s 0 5 = (pC n t : Int) := h.2.1.2.2.1
  intro r
  induction r with
  | zero =>
    intro k f hk hf
    match f, hf with
    | f + 1, _ =>
      obtain rfl : k = pC n t := by omega
      show g_X7_spareOf_14 (f_X7_spareOf_14 f) _ _ _ _ = _
      unfold g_X7_spareOf_14 g_X7_spareOf_71
      rw [h5, if_pos (by omega)]
  | succ r ih =>
    intro k f hk hf
    match f, hf with
    | f + 1, hf =>
      show g_X7_spareOf_14 (f_X7_spareOf_14 f) _ _ _ _ = _
      have hlt := bitsF_lt (spC n t W) k
      have hp : 2 ^ k < 2 ^ 6 := Nat.pow_lt_pow_right (by decide) (by omega)
      have hshl : i_shl 1 (k : Int) = ((2 ^ k : Nat) : Int) := by
        have := oN_shl (a := 1) (k := k) (by omega) (by omega)
        rw [Nat.one_mul] at this
        exact this
      have i2 := ih (k + 1) f (by omega) (by omega)
      have eb : bitsF (spC n t W) (k + 1) = if spC n t W k = true then bitsF (spC n t W) k + 2 ^ k else bitsF (spC n t W) k := rfl
      unfold g_X7_spareOf_14 g_X7_spareOf_62 g_X7_spareOf_63
      have e0 : f_X7_isOverBy 0 s = _ := X7_isOverBy_v h (m := 0) (by decide)
      rw [h5, if_neg (by omega), if_neg h1, sb_t, hshl, X7_linesWithout_v h (by omega), bn_t, X7_isOverBy_v h (by omega), bn_t, e0, bn_t, sb_t, sb_t, sb_t, sb_t, wr_t (by omega) (by omega), show (k : Int) + 1 = ((k + 1 : Nat) : Int) by omega, show (0 : Int) = ((0 : Nat) : Int) from rfl, oN_or (k := 7) (by decide) (by omega) (by omega), oN_or (b := 0) (k := 7) (by decide) (by omega) (by omega), Nat.or_zero, bitsF_or]
      have bI_inj : ∀ a b : Bool, bI a = bI b ↔ a = b := by decide
      by_cases c1 : lwo n t W (2 ^ k) = lwo n t W 0
      · rw [if_pos c1]
        by_cases c2 : ovb n t W (2 ^ k) = ovb n t W 0
        · rw [if_pos ((bI_inj _ _).mpr c2)]
          rw [if_pos (show spC n t W k = true from decide_eq_true ⟨c1, c2⟩)] at eb
          rw [eb] at i2
          exact i2
        · rw [if_neg (fun q => c2 ((bI_inj _ _).mp q))]
          rw [if_neg (show ¬ spC n t W k = true from fun q => c2 (of_decide_eq_true q).2)] at eb
          rw [eb] at i2
          exact i2
      · rw [if_neg c1]
        rw [if_neg (show ¬ spC n t W k = true from fun q => c1 (of_decide_eq_true q).1)] at eb
        rw [eb] at i2
        exact i2
theorem X7_spareOf_v (h : TX n t W s) : ∃ s', f_X7_spareOf s = some (spA n t W, s') ∧ frX s s' := by
  obtain ⟨s1, a, b, c⟩ := X7_findsWays_v h
  refine ⟨s1, ?_, c⟩
  have hC := pC_le (n := n) (t := t)
  unfold f_X7_spareOf spA
  have e : f_X7_linesWithout 0 s1 = _ := X7_linesWithout_v b (m := 0) (by decide)
  rw [a, bn_t, e, bn_t]
  by_cases h1 : lwo n t W 0 = -1
  · rw [if_pos h1, h1]
    show g_X7_spareOf_14 (f_X7_spareOf_14 199) _ _ _ _ = _
    unfold g_X7_spareOf_14 g_X7_spareOf_71
    rw [if_pos (show (-1 : Int) = -1 from rfl)]
    split <;> rfl
  · rw [if_neg h1]
    exact sp14 b h1 (pC n t) 0 FU (by omega) (by unfold FU; omega)
end SPM
