/-! ===== rows of shapes in the class; a layout is tried ===== -/
def shAt (s : SS) (q i : Nat) (x : Sh) : Prop := s (q + 1 + 0) i = (x.1 : Int) ∧ s (q + 1 + 1) i = (x.2.1 : Int) ∧ s (q + 1 + 2) i = (x.2.2.1 : Int) ∧ s (q + 1 + 3) i = (x.2.2.2 : Int)
def st4 (s : SS) (q i : Nat) (x : Sh) : SS := up (up (up (up s (q + 1 + 0) i x.1) (q + 1 + 1) i x.2.1) (q + 1 + 2) i x.2.2.1) (q + 1 + 3) i x.2.2.2
theorem st4_at (s : SS) (q i : Nat) (x : Sh) : shAt (st4 s q i x) q i x := by
  unfold shAt st4
  refine ⟨?_, ?_, ?_, up_s⟩
  · rw [up_q (by omega), up_q (by omega), up_q (by omega), up_s]
  · rw [up_q (by omega), up_q (by omega), up_s]
  · rw [up_q (by omega), up_s]
theorem st4_off {s : SS} {q i : Nat} {x : Sh} {p k : Nat} (h : (p ≤ q ∨ q + 4 < p) ∨ k ≠ i) : st4 s q i x p k = s p k := by
  unfold st4 up
  repeat' split
  all_goals (first | rfl | omega)
theorem st4_keep {s : SS} {q i j : Nat} {x y : Sh} (h : shAt s q j y) (hj : j ≠ i) : shAt (st4 s q i x) q j y := by
  unfold shAt at h ⊢
  rw [st4_off (Or.inr hj), st4_off (Or.inr hj), st4_off (Or.inr hj), st4_off (Or.inr hj)]
  exact h
section S3
variable {s : SS} {q i j : Nat} {a b : Sh}
theorem X3_set_v {l la m w : Nat} (hi : i < shl q) : f_X3_set q (i : Int) (l : Int) (la : Int) (m : Int) (w : Int) s = some (st4 s q i (l, la, m, w)) := by
  unfold f_X3_set g_X3_set_43
  rw [if_neg (by omega), if_neg (by omega), gx_d (by omega) (by omega)]
  simp only [sb_t, tn_c]
  rw [gx_d (by omega) (by omega), gx_d (by omega) (by omega), gx_d (by omega) (by omega)]
  rfl
theorem X3_set_no (x1 x2 x3 x4 x5 : Int) (h : x1 < 0) : f_X3_set q x1 x2 x3 x4 x5 s = some s := by
  unfold f_X3_set g_X3_set_43
  rw [if_pos h]
theorem X3_has_v (x : Int) : f_X3_has q x s = some (if 0 ≤ x ∧ x < (shl q : Int) then 1 else 0) := by
  unfold f_X3_has g_X3_has_17 g_X3_has_18
  by_cases h1 : x < 0
  · rw [if_pos h1, gb_0, if_neg (by omega)]
  · rw [if_neg h1]
    by_cases h2 : (shl q : Int) ≤ x
    · rw [if_pos h2, gb_0, if_neg (by omega)]
    · rw [if_neg h2, gb_1, if_pos (by omega)]
theorem X3_has_1 (hi : i < shl q) : f_X3_has q (i : Int) s = some 1 := by
  rw [X3_has_v, if_pos (by omega)]
theorem X3_setLike_v {w : Nat} (hi : i < shl q) (hj : j < shl q) (h : shAt s q j a) (ha : a.2.2.2 < 64) (hw : w < 64) : f_X3_setLike q (i : Int) (j : Int) (w : Int) s = some (st4 s q i (a.1, a.2.1, a.2.2.1, a.2.2.2 ||| w)) := by
  obtain ⟨h1, h2, h3, h4⟩ := h
  unfold f_X3_setLike g_X3_setLike_39
  rw [X3_has_1 hj, bn_t, if_neg (by decide), gx_d (by omega) (by omega), gx_d (by omega) (by omega), gx_d (by omega) (by omega), gx_d (by omega) (by omega), tn_c, h1, h2, h3, h4, oN_or (k := 6) (by decide) ha hw, X3_set_v hi, bn_t]
theorem X3_tell_v {x : Int} (hi : i < shl q) (h : shAt s q i a) : f_X3_tell q (i : Int) x s = some ((if x = 0 then a.1 else if x = 1 then a.2.1 else if x = 2 then a.2.2.1 else a.2.2.2 : Nat) : Int) := by
  obtain ⟨h1, h2, h3, h4⟩ := h
  unfold f_X3_tell
  rw [if_neg (by omega), if_pos (by omega), gx_d (by omega) (by omega), gx_d (by omega) (by omega), gx_d (by omega) (by omega), gx_d (by omega) (by omega), tn_c, h1, h2, h3, h4]
  split
  · rfl
  · split
    · rfl
    · split <;> rfl
theorem X3_tell_no {x y : Int} (h : x < 0) : f_X3_tell q x y s = some (-1) := by
  unfold f_X3_tell g_X3_tell_13
  rw [if_pos h]
theorem X3_ng_v (hi : i < shl q) (hj : j < shl q) (ha : shAt s q i a) (hb : shAt s q j b) : f_X3_noneGreater q (i : Int) (j : Int) s = some (bI (ng a b)) := by
  obtain ⟨a1, a2, a3, a4⟩ := ha
  obtain ⟨b1, b2, b3, b4⟩ := hb
  unfold f_X3_noneGreater g_X3_noneGreater_77 g_X3_noneGreater_78
  rw [if_neg (by omega), if_neg (by omega), if_neg (by omega), if_pos (by omega), gx_d (by omega) (by omega), gx_d (by omega) (by omega), gx_d (by omega) (by omega), gx_d (by omega) (by omega), gx_d (by omega) (by omega), gx_d (by omega) (by omega), tn_c, tn_c, a1, a2, a3, b1, b2, b3, gb_0, gb_1]
  by_cases h1 : (b.1 : Int) < a.1
  · rw [if_pos h1]
    have : ng a b = false := by simp [ng]; omega
    rw [this]; rfl
  · rw [if_neg h1]
    by_cases h2 : (b.2.1 : Int) < a.2.1
    · rw [if_pos h2]
      have : ng a b = false := by simp [ng]; omega
      rw [this]; rfl
    · rw [if_neg h2]
      by_cases h3 : (b.2.2.1 : Int) < a.2.2.1
      · rw [if_pos h3]
        have : ng a b = false := by simp [ng]; omega
        rw [this]; rfl
      · rw [if_neg h3]
        have : ng a b = true := by simp [ng]; omega
        rw [this]; rfl
theorem X3_both_v {k p : Nat} {z : Int} (hk : z = 1 ∨ z = 2) (hp : p < shl q) (hi : i < shl q) (hj : j < shl q) (ha : shAt s q i a) (hb : shAt s q j b) (oa : sOK a) (ob : sOK b) (h1 : 1 ≤ a.1) (w : Int) : f_X3_setMade q (p : Int) z w (i : Int) (j : Int) s = some (st4 s q p (bth z a b)) := by
  obtain ⟨a1, a2, a3, a4⟩ := ha
  obtain ⟨b1, b2, b3, b4⟩ := hb
  obtain ⟨c1, c2, c3, c4⟩ := oa
  obtain ⟨d1, d2, d3, d4⟩ := ob
  unfold f_X3_setMade g_X3_setMade_227
  rw [X3_has_1 hi, bn_t, if_neg (by decide), X3_has_1 hj, bn_t, if_neg (by decide)]
  rcases hk with rfl | rfl
  · rw [if_pos rfl]
    rw [gx_d (by omega) (by omega), gx_d (by omega) (by omega), gx_d (by omega) (by omega), gx_d (by omega) (by omega), gx_d (by omega) (by omega), gx_d (by omega) (by omega), gx_d (by omega) (by omega), gx_d (by omega) (by omega), gx_d (by omega) (by omega), tn_c, tn_c, a1, a2, a3, a4, b1, b2, b3, b4]
    rw [wr_t (a := (a.2.1 : Int) + b.2.2.1) (by omega) (by omega), wr_t (a := (a.1 : Int) + b.1) (by omega) (by omega), wr_t (a := (a.1 : Int) + b.1 - 1) (by omega) (by omega), wr_t (a := (a.2.1 : Int) + b.2.1) (by omega) (by omega), oN_or (k := 6) (by decide) (by omega) (by omega)]
    have e1 : (if (a.2.2.1 : Int) < (a.2.1 : Int) + b.2.2.1 then (a.2.1 : Int) + b.2.2.1 else (a.2.2.1 : Int)) = ((max a.2.2.1 (a.2.1 + b.2.2.1) : Nat) : Int) := by
      by_cases h : (a.2.2.1 : Int) < (a.2.1 : Int) + b.2.2.1
      · rw [if_pos h, Nat.max_eq_right (by omega)]; omega
      · rw [if_neg h, Nat.max_eq_left (by omega)]
    rw [e1, show (a.1 : Int) + b.1 - 1 = ((a.1 + b.1 - 1 : Nat) : Int) by omega, show (a.2.1 : Int) + b.2.1 = ((a.2.1 + b.2.1 : Nat) : Int) by omega, X3_set_v hp, bn_t]
    rfl
  · rw [if_neg (by decide), if_pos rfl]
    rw [gx_d (by omega) (by omega), gx_d (by omega) (by omega), gx_d (by omega) (by omega), gx_d (by omega) (by omega), gx_d (by omega) (by omega), gx_d (by omega) (by omega), gx_d (by omega) (by omega), tn_c, tn_c, a1, a3, a4, b1, b2, b3, b4]
    rw [wr_t (a := (a.1 : Int) + b.1) (by omega) (by omega), oN_or (k := 6) (by decide) (by omega) (by omega)]
    have e1 : (if (a.2.2.1 : Int) < (b.2.2.1 : Int) then (b.2.2.1 : Int) else (a.2.2.1 : Int)) = ((max a.2.2.1 b.2.2.1 : Nat) : Int) := by
      by_cases h : (a.2.2.1 : Int) < b.2.2.1
      · rw [if_pos h, Nat.max_eq_right (by omega)]
      · rw [if_neg h, Nat.max_eq_left (by omega)]
    rw [e1, show (a.1 : Int) + b.1 = ((a.1 + b.1 : Nat) : Int) by omega, X3_set_v hp, bn_t]
    rfl
theorem X3_push_v {p n : Nat} {z : Int} (hk : z = 4 ∨ z = 5) (hp : p < shl q) (hi : i < shl q) (ha : shAt s q i a) (oa : sOK a) (hn : n ≤ 100) : f_X3_setMade q (p : Int) z (n : Int) (i : Int) (i : Int) s = some (st4 s q p (psh n a)) := by
  obtain ⟨a1, a2, a3, a4⟩ := ha
  obtain ⟨c1, c2, c3, c4⟩ := oa
  unfold f_X3_setMade g_X3_setMade_227
  rw [X3_has_1 hi, bn_t, if_neg (by decide), bn_t, if_neg (by decide), if_neg (by rcases hk with h | h <;> rw [h] <;> decide), if_neg (by rcases hk with h | h <;> rw [h] <;> decide)]
  rw [gx_d (by omega) (by omega), gx_d (by omega) (by omega), gx_d (by omega) (by omega), gx_d (by omega) (by omega), tn_c, a1, a2, a3, a4]
  rw [wr_t (a := (a.2.1 : Int) + n) (by omega) (by omega), wr_t (a := (a.2.2.1 : Int) + n) (by omega) (by omega), show (a.2.1 : Int) + n = ((a.2.1 + n : Nat) : Int) by omega, show (a.2.2.1 : Int) + n = ((a.2.2.1 + n : Nat) : Int) by omega, X3_set_v hp, bn_t]
  rfl
end S3
theorem shl11 : shl 11 = 2560 := rfl
def rowC (s : SS) (b : Nat) (L : List Sh) : Prop := ∀ j, j < L.length → shAt s 11 (b + j) (L.getD j d0)
theorem rowC_tail {s : SS} {b : Nat} {x : Sh} {L : List Sh} (h : rowC s b (x :: L)) : shAt s 11 b x ∧ rowC s (b + 1) L := by
  refine ⟨by simpa using h 0 (by simp), fun j hj => ?_⟩
  have := h (j + 1) (by simpa using hj)
  rw [show b + 1 + j = b + (j + 1) by omega]
  simpa using this
theorem rowC_app {s : SS} {b : Nat} {F : List Sh} {x : Sh} (h : rowC s b F) (hx : shAt s 11 (b + F.length) x) : rowC s b (F ++ [x]) := by
  intro j hj
  by_cases hl : j < F.length
  · have := h j hl
    simpa [List.getD_eq_getElem?_getD, List.getElem?_append_left hl] using this
  · have e : j = F.length := by simp at hj; omega
    rw [e]
    simpa [List.getD_eq_getElem?_getD] using hx
theorem st4_id {x : Sh} : (x.1, x.2.1, x.2.2.1, x.2.2.2 ||| 0) = x := by
  rw [Nat.or_zero]
theorem shAt_ext {s s' : SS} {q i : Nat} {x : Sh} (h : shAt s q i x) (e : ∀ p, q < p → p ≤ q + 4 → s' p i = s p i) : shAt s' q i x := by
  unfold shAt at h ⊢
  rw [e _ (by omega) (by omega), e _ (by omega) (by omega), e _ (by omega) (by omega), e _ (by omega) (by omega)]
  exact h
section TC
variable {p : Nat} {x : Sh}
theorem c59_1 {s : SS} {f i b m : Nat} {z : Int} (hz : z ≠ 0) (hf : 0 < f) : f_X1_tryLast_59 f p (b : Int) (m : Int) z i s = g_X1_tryLast_90 p (b : Int) (m : Int) z s := by
  match f, hf with
  | f + 1, _ =>
    show g_X1_tryLast_59 (f_X1_tryLast_59 f) _ _ _ _ _ _ = _
    unfold g_X1_tryLast_59
    rw [if_neg hz]
    split <;> rfl
theorem c59_0 {s : SS} {b m : Nat} (hm : m < 2560) (hx : shAt s 11 m x) : ∀ (B : List Sh) (i f : Nat), B.length < f → rowC s i B → i + B.length = m →
    f_X1_tryLast_59 f p (b : Int) (m : Int) 0 i s = g_X1_tryLast_90 p (b : Int) (m : Int) (bI (B.any (fun a => ng a x))) s := by
  intro B
  induction B with
  | nil =>
    intro i f hf _ hl
    match f, hf with
    | f + 1, _ =>
      show g_X1_tryLast_59 (f_X1_tryLast_59 f) _ _ _ _ _ _ = _
      unfold g_X1_tryLast_59
      simp only [List.length_nil] at hl
      rw [if_pos (by omega)]
      rfl
  | cons y B ih =>
    intro i f hf hr hl
    match f, hf with
    | f + 1, hf =>
      obtain ⟨r1, r2⟩ := rowC_tail hr
      simp only [List.length_cons] at hl hf
      show g_X1_tryLast_59 (f_X1_tryLast_59 f) _ _ _ _ _ _ = _
      unfold g_X1_tryLast_59
      rw [if_neg (by omega), if_pos rfl, X3_ng_v (by rw [shl11]; omega) (by rw [shl11]; omega) r1 hx, bn_t, sb_t, wr_t (by omega) (by omega), show (i : Int) + 1 = ((i + 1 : Nat) : Int) by omega]
      cases hng : ng y x with
      | true =>
        rw [c59_1 (by decide) (by omega)]
        simp [hng]
      | false =>
        rw [show bI false = 0 from rfl, ih (i + 1) f (by omega) r2 (by omega)]
        simp [hng]
theorem c112 {b m : Nat} (hm : m < 2560) (hx64 : x.2.2.2 < 64) : ∀ (B F : List Sh) (i f : Nat) (s : SS) (G : Int), B.length < f → (∀ y ∈ B, y.2.2.2 < 64) → shAt s 11 m x → rowC s i B → rowC s b F → b + F.length ≤ i → i + B.length = m → s 10 3 = G → 0 ≤ G ∧ G ≤ 200000 + i →
    ∃ s', f_X1_tryLast_112 f p (b : Int) (m : Int) ((b + F.length : Nat) : Int) i s = g_X1_tryLast_167 p (b : Int) (m : Int) ((b + (F ++ B.filter (fun a => !ng x a)).length : Nat) : Int) s' ∧ shAt s' 11 m x ∧ rowC s' b (F ++ B.filter (fun a => !ng x a)) ∧ s' 10 3 = G + (B.length - (B.filter (fun a => !ng x a)).length) ∧ ∀ q k, (q = 10 → k ≠ 3) → (11 < q ∧ q ≤ 15 → k < b ∨ m ≤ k) → s' q k = s q k := by
  intro B
  induction B with
  | nil =>
    intro F i f s G hf _ hxs _ hF hl hm2 hG _
    match f, hf with
    | f + 1, _ =>
      refine ⟨s, ?_, hxs, by simpa using hF, by simp [hG], fun _ _ _ _ => rfl⟩
      show g_X1_tryLast_112 (f_X1_tryLast_112 f) _ _ _ _ _ _ = _
      unfold g_X1_tryLast_112
      simp only [List.length_nil] at hm2
      rw [if_pos (by omega)]
      simp
  | cons y B ih =>
    intro F i f s G hf hB hxs hr hF hl hm2 hG hG2
    match f, hf with
    | f + 1, hf =>
      obtain ⟨r1, r2⟩ := rowC_tail hr
      simp only [List.length_cons] at hm2 hf
      have hB2 : ∀ z ∈ B, z.2.2.2 < 64 := fun z hz => hB z (List.mem_cons_of_mem _ hz)
      have hle := List.length_filter_le (fun a => !ng x a) B
      show ∃ s', g_X1_tryLast_112 (f_X1_tryLast_112 f) _ _ _ _ _ _ = _ ∧ _
      unfold g_X1_tryLast_112 g_X1_tryLast_161
      rw [if_neg (by omega), X3_ng_v (by rw [shl11]; omega) (by rw [shl11]; omega) hxs r1, bn_t]
      cases hng : ng x y with
      | true =>
        have e : (y :: B).filter (fun a => !ng x a) = B.filter (fun a => !ng x a) := by simp [hng]
        rw [e, if_neg (by decide), sb_t, hG, wr_t (by omega) (by omega), sb_t, wr_t (by omega) (by omega), show (i : Int) + 1 = ((i + 1 : Nat) : Int) by omega]
        have g : ∀ q k, (q = 10 → k ≠ 3) → (up s 10 3 (G + 1)) q k = s q k := by
          intro q k h
          by_cases hq : q = 10
          · subst hq; exact up_k (h rfl)
          · exact up_q hq
        obtain ⟨s', a1, a2, a3, a4, a5⟩ := ih F (i + 1) f (up s 10 3 (G + 1)) (G + 1) (by omega) hB2 (shAt_ext hxs (fun p _ _ => g p _ (fun q => by omega))) (fun j hj => shAt_ext (r2 j hj) (fun p _ _ => g p _ (fun q => by omega))) (fun j hj => shAt_ext (hF j hj) (fun p _ _ => g p _ (fun q => by omega))) (by omega) (by omega) up_s (by omega)
        refine ⟨s', a1, a2, a3, by rw [a4, List.length_cons]; omega, fun q k x1 x2 => by rw [a5 q k x1 x2, g q k x1]⟩
      | false =>
        have e : F ++ (y :: B).filter (fun a => !ng x a) = (F ++ [y]) ++ B.filter (fun a => !ng x a) := by simp [hng]
        have e2 : ((y :: B).filter (fun a => !ng x a)).length = (B.filter (fun a => !ng x a)).length + 1 := by simp [hng]
        have esl : f_X3_setLike 11 ((b + F.length : Nat) : Int) (i : Int) 0 s = some (st4 s 11 (b + F.length) y) := by
          have := X3_setLike_v (i := b + F.length) (j := i) (w := 0) (by rw [shl11]; omega) (by rw [shl11]; omega) r1 (hB y List.mem_cons_self) (by decide)
          rw [st4_id] at this
          exact this
        rw [e, e2, if_pos (show bI false = 0 from rfl), esl, bn_t, sb_t, wr_t (by omega) (by omega), sb_t, wr_t (by omega) (by omega), show (i : Int) + 1 = ((i + 1 : Nat) : Int) by omega, show ((b + F.length : Nat) : Int) + 1 = ((b + (F ++ [y]).length : Nat) : Int) by simp; omega]
        obtain ⟨s', a1, a2, a3, a4, a5⟩ := ih (F ++ [y]) (i + 1) f (st4 s 11 (b + F.length) y) G (by omega) hB2 (st4_keep hxs (by omega)) (fun j hj => st4_keep (r2 j hj) (by omega)) (rowC_app (fun j hj => st4_keep (hF j hj) (by omega)) (st4_at _ _ _ _)) (by simp; omega) (by omega) (by rw [st4_off (Or.inl (by omega))]; exact hG) (by omega)
        refine ⟨s', a1, a2, a3, by rw [a4, List.length_cons]; omega, fun q k x1 x2 => ?_⟩
        rw [a5 q k x1 x2]
        by_cases hq : 11 < q ∧ q ≤ 15
        · have := x2 hq
          exact st4_off (Or.inr (by omega))
        · exact st4_off (Or.inl (by omega))
end TC
