/-! ===== the class chooses ===== -/
theorem X3_fewer_v {s : SS} {q i j : Nat} {a b : Sh} (hi : i < shl q) (hj : j < shl q) (ha : shAt s q i a) (hb : shAt s q j b) : f_X3_fewerLines q (i : Int) (j : Int) s = some (bI (ahd false a b)) := by
  obtain ⟨a1, a2, a3, a4⟩ := ha
  obtain ⟨b1, b2, b3, b4⟩ := hb
  unfold f_X3_fewerLines g_X3_fewerLines_112 g_X3_fewerLines_53
  rw [X3_has_1 hi, bn_t, if_neg (by decide), X3_has_1 hj, bn_t, if_neg (by decide)]
  simp only [gx_d (show (0 : Int) ≤ (i : Int) by omega) (show (i : Int) < (shl q : Nat) by omega), gx_d (show (0 : Int) ≤ (j : Int) by omega) (show (j : Int) < (shl q : Nat) by omega), tn_c, a1, a2, a3, b1, b2, b3]
  rw [show ahd false a b = lex3 a.1 a.2.2.1 a.2.1 b.1 b.2.2.1 b.2.1 from rfl]
  exact (lex_if (K := fun z => gb z (some z))).trans (gb_bI _)
theorem X3_less_v {s : SS} {q i j : Nat} {a b : Sh} (hi : i < shl q) (hj : j < shl q) (ha : shAt s q i a) (hb : shAt s q j b) : f_X3_lessMost q (i : Int) (j : Int) s = some (bI (ahd true a b)) := by
  obtain ⟨a1, a2, a3, a4⟩ := ha
  obtain ⟨b1, b2, b3, b4⟩ := hb
  unfold f_X3_lessMost g_X3_lessMost_112 g_X3_lessMost_53
  rw [X3_has_1 hi, bn_t, if_neg (by decide), X3_has_1 hj, bn_t, if_neg (by decide)]
  simp only [gx_d (show (0 : Int) ≤ (i : Int) by omega) (show (i : Int) < (shl q : Nat) by omega), gx_d (show (0 : Int) ≤ (j : Int) by omega) (show (j : Int) < (shl q : Nat) by omega), tn_c, a1, a2, a3, b1, b2, b3]
  rw [show ahd true a b = lex3 a.2.2.1 a.1 a.2.1 b.2.2.1 b.1 b.2.1 from rfl]
  exact (lex_if (K := fun z => gb z (some z))).trans (gb_bI _)
theorem few16 {s : SS} {L : List Sh} (h16 : s 16 0 = (L.length : Int)) (hr : rowC s 0 L) (h64 : L.length ≤ 64) : ∀ (B D : List Sh) (b f : Nat), L = D ++ B → b < D.length → B.length < f → ∃ r : Nat, f_X1_fewestLines_16 f (b : Int) (D.length : Int) s = some (r : Int) ∧ r < L.length ∧ bst false B (some (L.getD b d0)) = some (L.getD r d0) := by
  have hs0 : f_X1_sizeOf 0 s = some (L.length : Int) := by
    have e : f_X1_sizeOf 0 s = some (s 16 0) := X1_sizeOf_v (s := s) (p := 0) (by decide)
    rw [e, h16]
  intro B
  induction B with
  | nil =>
    intro D b f hD hb hf
    match f, hf with
    | f + 1, _ =>
      simp only [List.append_nil] at hD
      subst hD
      refine ⟨b, ?_, hb, rfl⟩
      show g_X1_fewestLines_16 (f_X1_fewestLines_16 f) _ _ s = _
      unfold g_X1_fewestLines_16 g_X1_fewestLines_45
      rw [hs0, bn_t, if_pos (by omega)]
  | cons x B ih =>
    intro D b f hD hb hf
    match f, hf with
    | f + 1, hf =>
      simp only [List.length_cons] at hf
      have hlen : L.length = D.length + (B.length + 1) := by rw [hD]; simp
      have hx : L.getD D.length d0 = x := by rw [hD, getD_mid]
      have r1 := hr D.length (by omega)
      have r2 := hr b (by omega)
      rw [Nat.zero_add] at r1 r2
      rw [hx] at r1
      show ∃ r : Nat, g_X1_fewestLines_16 (f_X1_fewestLines_16 f) _ _ s = _ ∧ _
      unfold g_X1_fewestLines_16 g_X1_fewestLines_39
      rw [hs0, bn_t, if_neg (by omega), X3_fewer_v (by rw [shl11]; omega) (by rw [shl11]; omega) r1 r2, bn_t, sb_t, sb_t, wr_t (by omega) (by omega), show (D.length : Int) + 1 = (((D ++ [x]).length : Nat) : Int) by simp]
      show ∃ r : Nat, _ ∧ _ ∧ bst false B (if ahd false x (L.getD b d0) = true then some x else some (L.getD b d0)) = _
      cases ha : ahd false x (L.getD b d0) with
      | false =>
        rw [if_pos (show bI false = 0 from rfl), if_neg (show ¬ false = true by decide)]
        exact ih (D ++ [x]) b f (by rw [hD]; simp) (by simp; omega) (by omega)
      | true =>
        rw [if_neg (show ¬ bI true = 0 by decide), if_pos (show true = true from rfl)]
        have := ih (D ++ [x]) D.length f (by rw [hD]; simp) (by simp) (by omega)
        rw [hx] at this
        exact this
theorem X1_few_v {s : SS} {L : List Sh} (h16 : s 16 0 = (L.length : Int)) (hr : rowC s 0 L) (h64 : L.length ≤ 64) : (L = [] → f_X1_fewestLines s = some (-1)) ∧ (L ≠ [] → ∃ r : Nat, f_X1_fewestLines s = some (r : Int) ∧ r < L.length ∧ bst false L none = some (L.getD r d0)) := by
  have hs0 : f_X1_sizeOf 0 s = some (L.length : Int) := by
    have e : f_X1_sizeOf 0 s = some (s 16 0) := X1_sizeOf_v (s := s) (p := 0) (by decide)
    rw [e, h16]
  unfold f_X1_fewestLines g_X1_fewestLines_13
  rw [hs0, bn_t]
  constructor
  · intro hL
    subst hL
    rw [if_pos (show ((([] : List Sh).length : Nat) : Int) = 0 from rfl)]
    show g_X1_fewestLines_16 (f_X1_fewestLines_16 199) _ _ s = _
    unfold g_X1_fewestLines_16 g_X1_fewestLines_45
    rw [hs0, bn_t, if_pos (by simp)]
  · intro hL
    cases L with
    | nil => exact absurd rfl hL
    | cons x B =>
      have hl : (x :: B).length = B.length + 1 := rfl
      rw [if_neg (by rw [hl]; omega)]
      have := few16 h16 hr h64 B [x] 0 FU rfl (by simp) (by unfold FU; omega)
      exact this
theorem les16 {s : SS} {L : List Sh} (h16 : s 16 0 = (L.length : Int)) (hr : rowC s 0 L) (h64 : L.length ≤ 64) : ∀ (B D : List Sh) (b f : Nat), L = D ++ B → b < D.length → B.length < f → ∃ r : Nat, f_X1_leastMost_16 f (b : Int) (D.length : Int) s = some (r : Int) ∧ r < L.length ∧ bst true B (some (L.getD b d0)) = some (L.getD r d0) := by
  have hs0 : f_X1_sizeOf 0 s = some (L.length : Int) := by
    have e : f_X1_sizeOf 0 s = some (s 16 0) := X1_sizeOf_v (s := s) (p := 0) (by decide)
    rw [e, h16]
  intro B
  induction B with
  | nil =>
    intro D b f hD hb hf
    match f, hf with
    | f + 1, _ =>
      simp only [List.append_nil] at hD
      subst hD
      refine ⟨b, ?_, hb, rfl⟩
      show g_X1_leastMost_16 (f_X1_leastMost_16 f) _ _ s = _
      unfold g_X1_leastMost_16 g_X1_leastMost_45
      rw [hs0, bn_t, if_pos (by omega)]
  | cons x B ih =>
    intro D b f hD hb hf
    match f, hf with
    | f + 1, hf =>
      simp only [List.length_cons] at hf
      have hlen : L.length = D.length + (B.length + 1) := by rw [hD]; simp
      have hx : L.getD D.length d0 = x := by rw [hD, getD_mid]
      have r1 := hr D.length (by omega)
      have r2 := hr b (by omega)
      rw [Nat.zero_add] at r1 r2
      rw [hx] at r1
      show ∃ r : Nat, g_X1_leastMost_16 (f_X1_leastMost_16 f) _ _ s = _ ∧ _
      unfold g_X1_leastMost_16 g_X1_leastMost_39
      rw [hs0, bn_t, if_neg (by omega), X3_less_v (by rw [shl11]; omega) (by rw [shl11]; omega) r1 r2, bn_t, sb_t, sb_t, wr_t (by omega) (by omega), show (D.length : Int) + 1 = (((D ++ [x]).length : Nat) : Int) by simp]
      show ∃ r : Nat, _ ∧ _ ∧ bst true B (if ahd true x (L.getD b d0) = true then some x else some (L.getD b d0)) = _
      cases ha : ahd true x (L.getD b d0) with
      | false =>
        rw [if_pos (show bI false = 0 from rfl), if_neg (show ¬ false = true by decide)]
        exact ih (D ++ [x]) b f (by rw [hD]; simp) (by simp; omega) (by omega)
      | true =>
        rw [if_neg (show ¬ bI true = 0 by decide), if_pos (show true = true from rfl)]
        have := ih (D ++ [x]) D.length f (by rw [hD]; simp) (by simp) (by omega)
        rw [hx] at this
        exact this
theorem X1_les_v {s : SS} {L : List Sh} (h16 : s 16 0 = (L.length : Int)) (hr : rowC s 0 L) (h64 : L.length ≤ 64) : (L = [] → f_X1_leastMost s = some (-1)) ∧ (L ≠ [] → ∃ r : Nat, f_X1_leastMost s = some (r : Int) ∧ r < L.length ∧ bst true L none = some (L.getD r d0)) := by
  have hs0 : f_X1_sizeOf 0 s = some (L.length : Int) := by
    have e : f_X1_sizeOf 0 s = some (s 16 0) := X1_sizeOf_v (s := s) (p := 0) (by decide)
    rw [e, h16]
  unfold f_X1_leastMost g_X1_leastMost_13
  rw [hs0, bn_t]
  constructor
  · intro hL
    subst hL
    rw [if_pos (show ((([] : List Sh).length : Nat) : Int) = 0 from rfl)]
    show g_X1_leastMost_16 (f_X1_leastMost_16 199) _ _ s = _
    unfold g_X1_leastMost_16 g_X1_leastMost_45
    rw [hs0, bn_t, if_pos (by simp)]
  · intro hL
    cases L with
    | nil => exact absurd rfl hL
    | cons x B =>
      have hl : (x :: B).length = B.length + 1 := rfl
      rw [if_neg (by rw [hl]; omega)]
      have := les16 h16 hr h64 B [x] 0 FU rfl (by simp) (by unfold FU; omega)
      exact this
