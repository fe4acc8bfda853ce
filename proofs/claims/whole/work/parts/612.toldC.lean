/-! ===== what the class tells of parts and frontiers ===== -/
def CF (n : Nat) (t : Nat → Int) (W : Int) (s : SS) : Prop := n ≤ 40 ∧ (∀ j, j < n → 0 ≤ t j ∧ t j ≤ 255) ∧ CR n t s ∧ MFc W (pN n t) (pK n t) (pU n t) 0 s ∧ (pN n t = 0 → s 16 0 = 0)
section CQ
variable {n : Nat} {t : Nat → Int} {W : Int} {s : SS}
theorem X0_hasPart_p (h : CR n t s) (hn : n ≤ 40) (x : Int) : f_X0_hasPart x s = some (if 0 ≤ x ∧ x < pN n t then 1 else 0) := by
  have hl : pN n t ≤ n := (pts_ok n t).2
  rw [X0_hasPart_v, show s 1 9 = (pN n t : Int) from h.1]
  by_cases q : 0 ≤ x ∧ x < pN n t
  · rw [if_pos q, if_pos (by omega)]
  · rw [if_neg q, if_neg (by omega)]
theorem X6_part_v (h : CF n t W s) (x y : Int) : f_X6_part x y s = some (partA n t W x y) := by
  obtain ⟨hn, ht, hR, hF, h0⟩ := h
  have hl : pN n t ≤ n := (pts_ok n t).2
  unfold f_X6_part g_X6_part_20 partA
  rw [X0_hasPart_p hR hn, bn_t]
  by_cases q : 0 ≤ x ∧ x < pN n t
  · rw [if_pos q, if_neg (by decide)]
    by_cases q2 : 0 ≤ y ∧ y ≤ 3
    · rw [if_neg (show ¬ y < 0 by omega), if_pos (show y ≤ 3 from q2.2), if_pos (show (0 ≤ x ∧ x < (pN n t : Int)) ∧ 0 ≤ y ∧ y ≤ 3 from ⟨q, q2⟩)]
      obtain ⟨k, rfl⟩ : ∃ k : Nat, x = (k : Int) := ⟨x.toNat, by omega⟩
      have hk : k < pN n t := by omega
      have hw := (D_1 (t := t) hn (by omega)).2.1
      obtain ⟨-, -, -, hP, h45, h6, h7⟩ := hR
      rw [X1_sizeOf_v (by omega), bn_t, gx_d (by omega) (by omega), gx_d (by omega) (by omega), gx_d (by omega) (by omega), tn_c, (h45 k hk).1, (h45 k hk).2, (hF.2.2 k (by omega) hk).1]
      have e6 : s 6 k = abv (pN n t) (pK n t) k := by
        by_cases k0 : k = 0
        · subst k0
          rw [h6 hk]
          unfold abv
          rw [if_pos rfl]
        · obtain ⟨p, hp, e⟩ := h7 k (by omega) hk
          rw [abv_eq hw (by omega) hp, e]
      rw [e6]
      split
      · rfl
      · split
        · rfl
        · split <;> rfl
    · rw [if_neg (show ¬ ((0 ≤ x ∧ x < (pN n t : Int)) ∧ 0 ≤ y ∧ y ≤ 3) from fun z => q2 z.2)]
      by_cases q3 : y < 0
      · rw [if_pos q3]
      · rw [if_neg q3, if_neg (show ¬ y ≤ 3 by omega)]
  · rw [if_neg q, if_pos rfl, if_neg (fun z => q z.1)]
theorem X6_frontier_v (h : CF n t W s) (x i y : Int) : f_X6_frontier x i y s = some (fronA n t W x i y) := by
  obtain ⟨hn, ht, hR, hF, h0⟩ := h
  have hl : pN n t ≤ n := (pts_ok n t).2
  unfold f_X6_frontier g_X6_frontier_30 fronA
  rw [X0_hasPart_p hR hn, bn_t]
  by_cases q : 0 ≤ x ∧ x < pN n t
  · rw [if_pos q, if_neg (by decide)]
    by_cases q2 : 0 ≤ i ∧ i ≤ 63
    · rw [if_neg (show ¬ i < 0 by omega), if_neg (show ¬ 64 ≤ i by omega)]
      by_cases q3 : 0 ≤ y ∧ y ≤ 3
      · rw [if_neg (show ¬ y < 0 by omega), if_pos (show y ≤ 3 from q3.2), if_pos (show (0 ≤ x ∧ x < (pN n t : Int)) ∧ (0 ≤ i ∧ i ≤ 63) ∧ 0 ≤ y ∧ y ≤ 3 from ⟨q, q2, q3⟩)]
        obtain ⟨k, rfl⟩ : ∃ k : Nat, x = (k : Int) := ⟨x.toNat, by omega⟩
        have hk : k < pN n t := by omega
        obtain ⟨f1, f2, f3, f4⟩ := hF.2.2 k (by omega) hk
        rw [X1_sizeOf_v (by omega), bn_t, f1, tn_c]
        by_cases q4 : i < ((FR W (pN n t) (pK n t) (pU n t) k).length : Int)
        · rw [if_pos q4, if_pos q4, wr_t (a := (k : Int) * 64) (by omega) (by omega), wr_t (by omega) (by omega), show (k : Int) * 64 + i = ((64 * k + i.toNat : Nat) : Int) by omega, X3_tell_v (by rw [shl11]; omega) (f2 i.toNat (by omega)), bn_t]
          rfl
        · rw [if_neg q4, if_neg q4]
      · rw [if_neg (show ¬ ((0 ≤ x ∧ x < (pN n t : Int)) ∧ (0 ≤ i ∧ i ≤ 63) ∧ 0 ≤ y ∧ y ≤ 3) from fun z => q3 z.2.2)]
        by_cases q4 : y < 0
        · rw [if_pos q4]
        · rw [if_neg q4, if_neg (show ¬ y ≤ 3 by omega)]
    · rw [if_neg (show ¬ ((0 ≤ x ∧ x < (pN n t : Int)) ∧ (0 ≤ i ∧ i ≤ 63) ∧ 0 ≤ y ∧ y ≤ 3) from fun z => q2 z.2.1)]
      by_cases q4 : i < 0
      · rw [if_pos q4]
      · rw [if_neg q4, if_pos (show 64 ≤ i by omega)]
  · rw [if_neg q, if_pos rfl, if_neg (fun z => q z.1)]
theorem X6_tried_v (h : CF n t W s) (y : Int) : f_X6_tried y s = some (if 0 ≤ y ∧ y ≤ 1 then triA n t W y else -2) := by
  unfold f_X6_tried g_X6_tried_9 g_X6_tried_33 triA
  rw [h.2.2.2.1.1, h.2.2.2.1.2.1]
  by_cases q : y < 0
  · rw [if_pos q, if_neg (show ¬ (0 ≤ y ∧ y ≤ 1) by omega)]
  · rw [if_neg q]
    by_cases q2 : y ≤ 1
    · rw [if_pos q2, if_pos (show 0 ≤ y ∧ y ≤ 1 by omega)]
      split <;> rfl
    · rw [if_neg q2, if_neg (show ¬ (0 ≤ y ∧ y ≤ 1) by omega)]
theorem X1_size0_v (h : CF n t W s) : f_X1_sizeOf 0 s = some (whoA n t W) := by
  have e := X1_sizeOf_v (s := s) (p := 0) (by decide)
  have e' : f_X1_sizeOf 0 s = some (s 16 0) := e
  rw [e']
  unfold whoA
  by_cases h0 : pN n t = 0
  · rw [if_pos h0, h.2.2.2.2 h0]
  · rw [if_neg h0, (h.2.2.2.1.2.2 0 (by omega) (by omega)).1]
theorem X7_tried_v (h : TX n t W s) (y : Int) : ∃ s', f_X7_tried y s = some (if 0 ≤ y ∧ y ≤ 1 then triA n t W y else -2, s') ∧ frX s s' := by
  unfold f_X7_tried g_X7_tried_19
  rw [X7_in_v, bn_t]
  by_cases q : 0 ≤ y ∧ y ≤ 1
  · obtain ⟨s1, a, b⟩ := X7_triedOf_v h y
    rw [if_pos q, if_pos q, if_neg (by decide), a, cb_t]
    exact ⟨s1, rfl, b⟩
  · rw [if_neg q, if_neg q, if_pos rfl]
    exact ⟨s, rfl, frX_refl s⟩
end CQ
