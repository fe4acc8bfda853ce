/-! ===== a layout is tried: the class ===== -/
def FLc (s : SS) (p : Nat) (L : List Sh) : Prop := s 16 p = (L.length : Int) ∧ rowC s (64 * p) L ∧ allOK L ∧ L.length ≤ 64
theorem X1_place_v {s : SS} {p n : Nat} (hp : p < 40) (hs : s 16 p = (n : Int)) (hn : n < 64) : f_X1_trialPlace (p : Int) s = some ((64 * p + n : Nat) : Int) := by
  unfold f_X1_trialPlace g_X1_trialPlace_39
  rw [if_neg (by omega), if_neg (by omega), gx_d (by omega) (by omega), tn_c, hs, if_neg (by omega), gx_d (by omega) (by omega), wr_t (a := (p : Int) * 64) (by omega) (by omega), wr_t (by omega) (by omega), show (p : Int) * 64 + n = ((64 * p + n : Nat) : Int) by omega]
theorem X1_sizeOf_v {s : SS} {p : Nat} (hp : p < 40) : f_X1_sizeOf (p : Int) s = some (s 16 p) := by
  unfold f_X1_sizeOf g_X1_sizeOf_23
  rw [if_neg (by omega), if_neg (by omega), gx_d (by omega) (by omega), tn_c]
theorem X1_tryLast_v {s : SS} {p : Nat} {x : Sh} {W : Int} {L : List Sh} {T G : Int} (hp : p < 40) (hx : sOK x) (hL : FLc s p L) (hl : L.length < 64) (hxs : shAt s 11 (64 * p + L.length) x) (hT : s 10 2 = T) (hG : s 10 3 = G) (hT2 : 0 ≤ T ∧ T ≤ 100000) (hG2 : 0 ≤ G ∧ G ≤ 100000) :
    ∃ s', f_X1_tryLast (p : Int) W s = some s' ∧ FLc s' p (tr W false L x) ∧ s' 10 2 = T + 1 ∧ s' 10 3 = G + ((L.length : Int) + 1 - (tr W false L x).length) ∧ ∀ q k, (q = 10 → k ≠ 2 ∧ k ≠ 3) → (q = 16 → k ≠ p) → (11 < q ∧ q ≤ 15 → k < 64 * p ∨ 64 * p + 64 ≤ k) → s' q k = s q k := by
  obtain ⟨h16, hrow, hok, h64⟩ := hL
  unfold f_X1_tryLast g_X1_tryLast_54
  rw [sb_t, wr_t (a := (p : Int) * 64) (by omega) (by omega), X1_place_v hp h16 hl, bn_t, X3_has_1 (by rw [shl11]; omega), bn_t, if_neg (by decide), sb_t, hT, wr_t (a := T + 1) (by omega) (by omega), gx_d (by omega) (by omega), tn_c, show (p : Int) * 64 = ((64 * p : Nat) : Int) by omega]
  generalize hs1 : up s 10 2 (T + 1) = s1
  have f1 : ∀ q k, (q = 10 → k ≠ 2) → s1 q k = s q k := by
    intro q k h
    rw [← hs1]
    by_cases hq : q = 10
    · subst hq; exact up_k (h rfl)
    · exact up_q hq
  have g2 : s1 10 2 = T + 1 := by rw [← hs1]; exact up_s
  have sh1 : ∀ {i : Nat} {y : Sh}, shAt s 11 i y → shAt s1 11 i y := fun {i y} h => shAt_ext h (fun p _ _ => f1 p i (fun q => by omega))
  have row1 : rowC s1 (64 * p) L := fun j hj => sh1 (hrow j hj)
  have hx1 := sh1 hxs
  have fin : ∀ z : Bool, tr W false L x = (if z = true then L else L.filter (fun a => !ng x a) ++ [x]) → ∃ s', g_X1_tryLast_90 (p : Int) ((64 * p : Nat) : Int) ((64 * p + L.length : Nat) : Int) (bI z) s1 = some s' ∧ FLc s' p (tr W false L x) ∧ s' 10 2 = T + 1 ∧ s' 10 3 = G + ((L.length : Int) + 1 - (tr W false L x).length) ∧ ∀ q k, (q = 10 → k ≠ 2 ∧ k ≠ 3) → (q = 16 → k ≠ p) → (11 < q ∧ q ≤ 15 → k < 64 * p ∨ 64 * p + 64 ≤ k) → s' q k = s q k := by
    intro z hz
    rw [hz]
    unfold g_X1_tryLast_90
    cases z with
    | true =>
      rw [if_neg (by decide), sb_t, f1 10 3 (fun _ => by decide), hG, wr_t (by omega) (by omega), if_pos rfl]
      refine ⟨_, rfl, ⟨?_, fun j hj => ?_, hok, h64⟩, ?_, ?_, fun q k x0 x1 x2 => ?_⟩
      · rw [up_q (by decide), f1 16 p (fun h => by cases h)]; exact h16
      · exact shAt_ext (row1 j hj) (fun p _ _ => up_q (by omega))
      · rw [up_k (by decide)]; exact g2
      · rw [up_s]; omega
      · by_cases hq : q = 10
        · subst hq; rw [up_k (x0 rfl).2]; exact f1 10 k (fun _ => (x0 rfl).1)
        · rw [up_q hq]; exact f1 q k (fun h => absurd h hq)
    | false =>
      rw [if_pos (show bI false = 0 from rfl), if_neg (by decide)]
      obtain ⟨s', a1, a2, a3, a4, a5⟩ := c112 (p := p) (x := x) (b := 64 * p) (m := 64 * p + L.length) (by omega) hx.2.2.2 L [] (64 * p) FU s1 G (by unfold FU; omega) (fun y hy => (hok y hy).2.2.2) hx1 row1 (fun j hj => by simp at hj) (by simp) rfl (by rw [f1 10 3 (fun _ => by decide)]; exact hG) (by omega)
      simp only [List.nil_append, List.length_nil, Nat.add_zero] at a1 a3
      have hle := List.length_filter_le (fun a => !ng x a) L
      generalize hF : L.filter (fun a => !ng x a) = F at a1 a3 a4 hle ⊢
      rw [a1]
      unfold g_X1_tryLast_167
      have esl : f_X3_setLike 11 ((64 * p + F.length : Nat) : Int) ((64 * p + L.length : Nat) : Int) 0 s' = some (st4 s' 11 (64 * p + F.length) x) := by
        have := X3_setLike_v (i := 64 * p + F.length) (j := 64 * p + L.length) (w := 0) (by rw [shl11]; omega) (by rw [shl11]; omega) a2 hx.2.2.2 (by decide)
        rw [st4_id] at this
        exact this
      rw [esl, bn_t, gx_d (by omega) (by omega), tn_c, sb_t, wr_t (a := ((64 * p + F.length : Nat) : Int) + 1) (by omega) (by omega), wr_t (by omega) (by omega), show ((64 * p + F.length : Nat) : Int) + 1 - ((64 * p : Nat) : Int) = ((F.length + 1 : Nat) : Int) by omega]
      refine ⟨_, rfl, ⟨?_, ?_, ?_, ?_⟩, ?_, ?_, fun q k x0 x1 x2 => ?_⟩
      · rw [up_s]; simp
      · refine rowC_app (fun j hj => ?_) ?_
        · exact shAt_ext (st4_keep (a3 j hj) (by omega)) (fun p _ _ => up_q (by omega))
        · exact shAt_ext (st4_at _ _ _ _) (fun p _ _ => up_q (by omega))
      · intro y hy
        rcases List.mem_append.mp hy with h | h
        · rw [← hF] at h
          exact hok y (List.mem_filter.mp h).1
        · rw [List.mem_singleton.mp h]; exact hx
      · simp; omega
      · rw [up_q (by decide), st4_off (Or.inl (by omega)), a5 10 2 (fun _ => by decide) (fun h => by omega)]; exact g2
      · rw [up_q (by decide), st4_off (Or.inl (by omega)), a4]; simp; omega
      · by_cases h16q : q = 16
        · subst h16q
          rw [up_k (x1 rfl), st4_off (Or.inl (by omega)), a5 16 k (fun h => by cases h) (fun h => by omega)]
          exact f1 16 k (fun h => by cases h)
        · rw [up_q h16q]
          by_cases hq : 11 < q ∧ q ≤ 15
          · have := x2 hq
            rw [st4_off (Or.inr (by omega)), a5 q k (fun h => (x0 h).2) (fun _ => by omega)]
            exact f1 q k (fun h => (x0 h).1)
          · rw [st4_off (Or.inl (by omega)), a5 q k (fun h => (x0 h).2) (fun h => absurd h hq)]
            exact f1 q k (fun h => (x0 h).1)
  have e15 : s1 14 (64 * p + L.length) = (x.2.2.1 : Int) := hx1.2.2.1
  rw [e15]
  by_cases hw : (x.2.2.1 : Int) ≤ W
  · rw [if_pos hw]
    have scan := c59_0 (p := p) (s := s1) (b := 64 * p) (m := 64 * p + L.length) (by omega) hx1 L (64 * p) FU (by unfold FU; omega) row1 rfl
    rw [scan]
    refine fin _ ?_
    unfold tr
    by_cases ha : L.any (fun a => ng a x) = true
    · rw [if_pos (Or.inr (Or.inr ha)), if_pos ha]
    · rw [if_neg, if_neg ha]
      rintro (h | h | h)
      · omega
      · cases h.1
      · exact ha h
  · rw [if_neg hw]
    have e : f_X1_tryLast_59 FU (p : Int) ((64 * p : Nat) : Int) ((64 * p + L.length : Nat) : Int) 1 ((64 * p : Nat) : Int) s1 = _ := c59_1 (i := 64 * p) (by decide) (by unfold FU; omega)
    rw [e]
    exact fin true (by unfold tr; rw [if_pos (Or.inl (by omega)), if_pos rfl])
theorem tr_flat {W : Int} {L : List Sh} {x : Sh} {flat : Bool} (h : flat = true → x.1 ≤ 1) : tr W flat L x = tr W false L x := by
  cases flat with
  | false => rfl
  | true =>
    have h1 := h rfl
    unfold tr
    have e : (W < (x.2.2.1 : Int) ∨ (true = true ∧ 1 < x.1) ∨ L.any (fun a => ng a x) = true) ↔ (W < (x.2.2.1 : Int) ∨ (false = true ∧ 1 < x.1) ∨ L.any (fun a => ng a x) = true) := by
      constructor
      · rintro (q | q | q)
        · exact Or.inl q
        · omega
        · exact Or.inr (Or.inr q)
      · rintro (q | q | q)
        · exact Or.inl q
        · cases q.1
        · exact Or.inr (Or.inr q)
    exact ite_congr (propext e) (fun _ => rfl) (fun _ => rfl)
/-- for part k the layouts C have been tried since s0 -/
def TC (s0 s : SS) (W : Int) (flat : Bool) (k : Nat) (C : List Sh) : Prop := FLc s k (C.foldl (tr W flat) []) ∧ s 10 2 = s0 10 2 + C.length ∧ s 10 3 = s0 10 3 + (C.length - (C.foldl (tr W flat) []).length) ∧ ∀ q j, (q = 10 → j ≠ 2 ∧ j ≠ 3) → (q = 16 → j ≠ k) → (11 < q ∧ q ≤ 15 → j < 64 * k ∨ 64 * k + 64 ≤ j) → s q j = s0 q j
theorem TC_src {s0 s : SS} {W : Int} {flat : Bool} {k p : Nat} {C L : List Sh} (h : TC s0 s W flat k C) (hp : p ≠ k) (hL : FLc s0 p L) : FLc s p L := by
  obtain ⟨-, -, -, hf⟩ := h
  obtain ⟨b1, b2, b3, b4⟩ := hL
  refine ⟨by rw [hf 16 p (fun q => by cases q) (fun _ => hp) (fun q => by omega)]; exact b1, fun j hj => ?_, b3, b4⟩
  exact shAt_ext (b2 j hj) (fun z _ _ => hf z _ (fun q => by omega) (fun q => by omega) (fun _ => by omega))
/-- a layout that was written into the trial's place is tried -/
theorem TC_step {s0 s : SS} {W : Int} {flat : Bool} {k : Nat} {C : List Sh} {x : Sh} (hk : k < 40) (hT : 0 ≤ s0 10 2 ∧ s0 10 2 ≤ 50000) (hG : 0 ≤ s0 10 3 ∧ s0 10 3 ≤ 50000) (h : TC s0 s W flat k C) (hx : sOK x) (hl : C.length < 64) (hfl : flat = true → x.1 ≤ 1) :
    ∃ n : Nat, n < 64 ∧ f_X1_trialPlace (k : Int) s = some ((64 * k + n : Nat) : Int) ∧ ∃ s', f_X1_tryLast (k : Int) W (st4 s 11 (64 * k + n) x) = some s' ∧ TC s0 s' W flat k (C ++ [x]) := by
  obtain ⟨h1, h15, h16, hf⟩ := h
  have hlen := fold_len (W := W) (flat := flat) C []
  simp only [List.length_nil, Nat.zero_add] at hlen
  refine ⟨(C.foldl (tr W flat) []).length, by omega, X1_place_v hk h1.1 (by omega), ?_⟩
  have hFL : FLc (st4 s 11 (64 * k + (C.foldl (tr W flat) []).length) x) k (C.foldl (tr W flat) []) := ⟨by rw [st4_off (Or.inl (by omega))]; exact h1.1, fun j hj => st4_keep (h1.2.1 j hj) (by omega), h1.2.2.1, h1.2.2.2⟩
  obtain ⟨s', a1, a2, a3, a4, a5⟩ := X1_tryLast_v (W := W) (T := s 10 2) (G := s 10 3) hk hx hFL (by omega) (st4_at _ _ _ _) (by rw [st4_off (Or.inl (by omega))]) (by rw [st4_off (Or.inl (by omega))]) (by rw [h15]; omega) (by rw [h16]; omega)
  refine ⟨s', a1, ?_⟩
  rw [← tr_flat (flat := flat) hfl] at a2 a4
  have hlen3 := tr_len W flat (C.foldl (tr W flat) []) x
  unfold TC
  rw [List.foldl_append]
  simp only [List.foldl_cons, List.foldl_nil, List.length_append, List.length_cons, List.length_nil]
  refine ⟨a2, by rw [a3, h15]; omega, by rw [a4, h16]; omega, fun q j x0 x1 x2 => ?_⟩
  rw [a5 q j x0 x1 x2]
  by_cases hq : 11 < q ∧ q ≤ 15
  · have := x2 hq
    rw [st4_off (Or.inr (by omega))]
    exact hf q j x0 x1 x2
  · rw [st4_off (Or.inl (by omega))]
    exact hf q j x0 x1 x2
