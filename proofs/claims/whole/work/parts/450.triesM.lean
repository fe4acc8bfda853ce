/-! ===== a layout is tried: the model ===== -/
def d0 : Sh := (0, 0, 0, 0)
def tr (W : Int) (flat : Bool) (L : List Sh) (x : Sh) : List Sh := if W < (x.2.2.1 : Int) ∨ (flat = true ∧ 1 < x.1) ∨ L.any (fun a => ng a x) = true then L else L.filter (fun a => !ng x a) ++ [x]
theorem tr_len (W : Int) (flat : Bool) (L : List Sh) (x : Sh) : (tr W flat L x).length ≤ L.length + 1 := by
  unfold tr
  split
  · omega
  · have := List.length_filter_le (fun a => !ng x a) L
    simp
    exact this
def rowM (s : SS) (b : Nat) (L : List Sh) : Prop := ∀ j, j < L.length → s 9 (b + j) = (pk (L.getD j d0) : Int)
def allOK (L : List Sh) : Prop := ∀ x ∈ L, sOK x
theorem rowM_tail {s : SS} {b : Nat} {x : Sh} {L : List Sh} (h : rowM s b (x :: L)) : s 9 b = (pk x : Int) ∧ rowM s (b + 1) L := by
  refine ⟨by simpa using h 0 (by simp), fun j hj => ?_⟩
  have := h (j + 1) (by simpa using hj)
  rw [show b + 1 + j = b + (j + 1) by omega]
  simpa using this
theorem rowM_app {s : SS} {b : Nat} {F : List Sh} {x : Sh} (h : rowM s b F) (hx : s 9 (b + F.length) = (pk x : Int)) : rowM s b (F ++ [x]) := by
  intro j hj
  by_cases hl : j < F.length
  · have := h j hl
    rw [this]
    simp [List.getD_eq_getElem?_getD, List.getElem?_append_left hl]
  · have e : j = F.length := by simp at hj; omega
    rw [e, hx]
    simp [List.getD_eq_getElem?_getD]
section TM
variable {p : Nat} {x : Sh} {s : SS}
theorem t54_1 {f i : Nat} {z : Int} (hp : p < 40) (hz : z ≠ 0) (hf : 0 < f) (X A : Int) : f_X7_tries_54 f p X A z i s = g_X7_tries_91 p X A z s := by
  match f, hf with
  | f + 1, _ =>
    show g_X7_tries_54 (f_X7_tries_54 f) _ _ _ _ _ _ = _
    unfold g_X7_tries_54
    rw [gx_d (by omega) (by omega)]
    rw [if_neg hz]
    split <;> rfl
/-- whether one there is no greater -/
theorem t54_0 (hp : p < 40) (hx : sOK x) : ∀ (B : List Sh) (i f : Nat), B.length < f → allOK B → rowM s (64 * p + i) B → s 10 p = ((i + B.length : Nat) : Int) → i + B.length ≤ 64 →
    f_X7_tries_54 f p (pk x : Int) ((64 * p : Nat) : Int) 0 i s = g_X7_tries_91 p (pk x : Int) ((64 * p : Nat) : Int) (bI (B.any (fun a => ng a x))) s := by
  intro B
  induction B with
  | nil =>
    intro i f hf _ _ hm hl
    match f, hf with
    | f + 1, _ =>
      show g_X7_tries_54 (f_X7_tries_54 f) _ _ _ _ _ _ = _
      unfold g_X7_tries_54
      rw [gx_d (by omega) (by omega), tn_c, hm, if_pos (by simp)]
      rfl
  | cons b B ih =>
    intro i f hf hB hr hm hl
    match f, hf with
    | f + 1, hf =>
      obtain ⟨r1, r2⟩ := rowM_tail hr
      have hb : sOK b := hB b List.mem_cons_self
      simp only [List.length_cons] at hm hl hf
      show g_X7_tries_54 (f_X7_tries_54 f) _ _ _ _ _ _ = _
      unfold g_X7_tries_54
      rw [gx_d (by omega) (by omega), tn_c, hm, if_neg (by omega), if_pos rfl, wr_t (a := ((64 * p : Nat) : Int) + i) (by omega) (by omega), gx_d (by omega) (by omega),
        show (((64 * p : Nat) : Int) + i).toNat = 64 * p + i by omega, r1, X7_ng_pk hb hx, bn_t, sb_t, wr_t (by omega) (by omega)]
      cases hng : ng b x with
      | true =>
        rw [show (i : Int) + 1 = ((i + 1 : Nat) : Int) by omega, t54_1 hp (by decide) (by omega)]
        simp [hng]
      | false =>
        rw [show (i : Int) + 1 = ((i + 1 : Nat) : Int) by omega, show bI false = 0 from rfl, ih (i + 1) f (by omega) (fun y hy => hB y (List.mem_cons_of_mem _ hy)) (by rw [show 64 * p + (i + 1) = 64 * p + i + 1 by omega]; exact r2) (by rw [hm]; omega) (by omega)]
        simp [hng]
/-- those that stay move together -/
theorem t113 (hp : p < 40) (hx : sOK x) : ∀ (B F : List Sh) (i f : Nat) (s : SS), B.length < f → allOK B → rowM s (64 * p + i) B → rowM s (64 * p) F → F.length ≤ i → s 10 p = ((i + B.length : Nat) : Int) → i + B.length ≤ 63 →
    ∃ s', f_X7_tries_113 f p (pk x : Int) ((64 * p : Nat) : Int) F.length i s = g_X7_tries_167 p (pk x : Int) ((64 * p : Nat) : Int) ((F ++ B.filter (fun a => !ng x a)).length : Nat) s' ∧ rowM s' (64 * p) (F ++ B.filter (fun a => !ng x a)) ∧ ∀ q k, (q = 9 → k < 64 * p ∨ 64 * p + 64 ≤ k) → s' q k = s q k := by
  intro B
  induction B with
  | nil =>
    intro F i f s hf _ _ hF hl hm hn
    match f, hf with
    | f + 1, _ =>
      refine ⟨s, ?_, by simpa using hF, fun _ _ _ => rfl⟩
      show g_X7_tries_113 (f_X7_tries_113 f) _ _ _ _ _ _ = _
      unfold g_X7_tries_113
      rw [gx_d (by omega) (by omega), tn_c, hm, if_pos (by simp)]
      simp
  | cons b B ih =>
    intro F i f s hf hB hr hF hl hm hn
    match f, hf with
    | f + 1, hf =>
      obtain ⟨r1, r2⟩ := rowM_tail hr
      have hb : sOK b := hB b List.mem_cons_self
      have hB2 : allOK B := fun y hy => hB y (List.mem_cons_of_mem _ hy)
      simp only [List.length_cons] at hm hn hf
      show ∃ s', g_X7_tries_113 (f_X7_tries_113 f) _ _ _ _ _ _ = _ ∧ _
      unfold g_X7_tries_113 g_X7_tries_161
      rw [gx_d (by omega) (by omega), tn_c, hm, if_neg (by omega), wr_t (a := ((64 * p : Nat) : Int) + i) (by omega) (by omega), gx_d (by omega) (by omega),
        show (((64 * p : Nat) : Int) + i).toNat = 64 * p + i by omega, r1, X7_ng_pk hx hb, bn_t]
      cases hng : ng x b with
      | true =>
        rw [if_neg (by decide), sb_t, wr_t (by omega) (by omega), show (i : Int) + 1 = ((i + 1 : Nat) : Int) by omega]
        obtain ⟨s', a1, a2, a3⟩ := ih F (i + 1) f s (by omega) hB2 (by rw [show 64 * p + (i + 1) = 64 * p + i + 1 by omega]; exact r2) hF (by omega) (by rw [hm]; omega) (by omega)
        have e : (b :: B).filter (fun a => !ng x a) = B.filter (fun a => !ng x a) := by simp [hng]
        rw [e]
        exact ⟨s', a1, a2, a3⟩
      | false =>
        rw [if_pos (show bI false = 0 from rfl), gx_d (by omega) (by omega), wr_t (a := ((64 * p : Nat) : Int) + F.length) (by omega) (by omega), gx_d (by omega) (by omega), sb_t, show (((64 * p : Nat) : Int) + F.length).toNat = 64 * p + F.length by omega, sb_t, wr_t (by omega) (by omega), sb_t, wr_t (by omega) (by omega),
          show (i : Int) + 1 = ((i + 1 : Nat) : Int) by omega, show (F.length : Int) + 1 = (((F ++ [b]).length : Nat) : Int) by simp]
        have u9 : ∀ k, k ≠ 64 * p + F.length → (up s 9 (64 * p + F.length) (pk b : Int)) 9 k = s 9 k := fun k hk => up_k hk
        obtain ⟨s', a1, a2, a3⟩ := ih (F ++ [b]) (i + 1) f (up s 9 (64 * p + F.length) (pk b : Int)) (by omega) hB2
          (fun j hj => by rw [u9 _ (by omega), show 64 * p + (i + 1) + j = 64 * p + i + 1 + j by omega]; exact r2 j hj)
          (rowM_app (fun j hj => by rw [u9 _ (by omega)]; exact hF j hj) up_s) (by simp; omega) (by rw [up_q (by decide), hm]; omega) (by omega)
        have e : F ++ (b :: B).filter (fun a => !ng x a) = (F ++ [b]) ++ B.filter (fun a => !ng x a) := by simp [hng]
        rw [e]
        refine ⟨s', a1, a2, fun q k hq => ?_⟩
        rw [a3 q k hq]
        by_cases h9 : q = 9
        · subst h9
          exact u9 k (by have := hq rfl; omega)
        · exact up_q h9
/-- the frontier of a part, in the model's rows -/
def FL (s : SS) (p : Nat) (L : List Sh) : Prop := s 10 p = (L.length : Int) ∧ rowM s (64 * p) L ∧ allOK L ∧ L.length ≤ 64
theorem X7_tries_v {W : Int} {kd : Int} {L : List Sh} {T G : Int} (hp : p < 40) (hx : sOK x) (hL : FL s p L) (hl : L.length < 64) (hW : s 0 17 = W) (hk : s 2 p = kd) (hT : s 0 15 = T) (hG : s 0 16 = G) (hT2 : 0 ≤ T ∧ T ≤ 1000000) (hG2 : 0 ≤ G ∧ G ≤ 1000000) :
    ∃ s', f_X7_tries p (pk x : Int) s = some s' ∧ FL s' p (tr W (decide (kd = 5)) L x) ∧ s' 0 15 = T + 1 ∧ s' 0 16 = G + ((L.length : Int) + 1 - (tr W (decide (kd = 5)) L x).length) ∧ ∀ q k, (q = 0 → k ≠ 15 ∧ k ≠ 16) → (q = 10 → k ≠ p) → (q = 9 → k < 64 * p ∨ 64 * p + 64 ≤ k) → s' q k = s q k := by
  obtain ⟨h10, hrow, hok, h64⟩ := hL
  unfold f_X7_tries g_X7_tries_44 g_X7_tries_48 g_X7_tries_49
  simp only [sb_t]
  rw [hT, wr_t (a := T + 1) (by omega) (by omega), wr_t (a := 64 * (p : Int)) (by omega) (by omega), show 64 * (p : Int) = ((64 * p : Nat) : Int) by omega, X7_most_pk hx, bn_t, up_k (by decide), hW]
  generalize hs1 : up s 0 15 (T + 1) = s1
  have f1 : ∀ q k, (q = 0 → k ≠ 15) → s1 q k = s q k := by
    intro q k h
    rw [← hs1]
    by_cases hq : q = 0
    · subst hq; exact up_k (h rfl)
    · exact up_q hq
  have g15 : s1 0 15 = T + 1 := by rw [← hs1]; exact up_s
  -- the answer, once it is known whether it goes
  have fin : ∀ (z : Bool), tr W (decide (kd = 5)) L x = (if z = true then L else L.filter (fun a => !ng x a) ++ [x]) → ∃ s', g_X7_tries_91 p (pk x : Int) ((64 * p : Nat) : Int) (bI z) s1 = some s' ∧ FL s' p (tr W (decide (kd = 5)) L x) ∧ s' 0 15 = T + 1 ∧ s' 0 16 = G + ((L.length : Int) + 1 - (tr W (decide (kd = 5)) L x).length) ∧ ∀ q k, (q = 0 → k ≠ 15 ∧ k ≠ 16) → (q = 10 → k ≠ p) → (q = 9 → k < 64 * p ∨ 64 * p + 64 ≤ k) → s' q k = s q k := by
    intro z hz
    rw [hz]
    unfold g_X7_tries_91
    cases z with
    | true =>
      rw [if_neg (by decide), sb_t, f1 0 16 (fun _ => by decide), hG, wr_t (by omega) (by omega), if_pos rfl]
      refine ⟨_, rfl, ⟨?_, fun j hj => ?_, hok, h64⟩, ?_, ?_, fun q k x0 x1 x2 => ?_⟩
      · rw [up_q (by decide), f1 10 p (fun h => by cases h)]; exact h10
      · rw [up_q (by decide), f1 9 _ (fun h => by cases h)]; exact hrow j hj
      · rw [up_k (by decide)]; exact g15
      · rw [up_s]; omega
      · by_cases hq : q = 0
        · subst hq; rw [up_k (x0 rfl).2]; exact f1 0 k (fun _ => (x0 rfl).1)
        · rw [up_q hq]; exact f1 q k (fun h => absurd h hq)
    | false =>
      rw [if_pos (show bI false = 0 from rfl), if_neg (by decide)]
      obtain ⟨s', a1, a2, a3⟩ := t113 (p := p) (x := x) hp hx L [] 0 FU s1 (by unfold FU; omega) hok (fun j hj => by rw [f1 9 _ (fun h => by cases h)]; exact hrow j hj) (fun j hj => by simp at hj) (Nat.le_refl _) (by rw [f1 10 p (fun h => by cases h), h10]; simp) (by omega)
      simp only [List.nil_append, List.length_nil] at a1 a2
      have hle := List.length_filter_le (fun a => !ng x a) L
      generalize hF : L.filter (fun a => !ng x a) = F at a1 a2 hle ⊢
      have a1' : f_X7_tries_113 FU p (pk x : Int) ((64 * p : Nat) : Int) 0 0 s1 = _ := a1
      rw [a1']
      unfold g_X7_tries_167
      have m0 : ∀ k, k ≠ 15 → s' 0 k = s 0 k := fun k hk => by rw [a3 0 k (fun h => by cases h)]; exact f1 0 k (fun _ => hk)
      have m10 : ∀ k, s' 10 k = s 10 k := fun k => by rw [a3 10 k (fun h => by cases h)]; exact f1 10 k (fun h => by cases h)
      simp only [sb_t]
      rw [gx_d (by omega) (by omega), tn_c, m0 16 (by decide), hG, m10 p, h10, wr_t (a := (L.length : Int) - F.length) (by omega) (by omega), wr_t (a := G + ((L.length : Int) - F.length)) (by omega) (by omega),
        wr_t (a := ((64 * p : Nat) : Int) + F.length) (by omega) (by omega), gx_d (by omega) (by omega), gx_d (by omega) (by omega), wr_t (a := (F.length : Int) + 1) (by omega) (by omega), show (((64 * p : Nat) : Int) + F.length).toNat = 64 * p + F.length by omega]
      refine ⟨_, rfl, ⟨?_, ?_, ?_, ?_⟩, ?_, ?_, fun q k x0 x1 x2 => ?_⟩
      · rw [up_s]; simp
      · refine rowM_app (fun j hj => ?_) ?_
        · rw [up_q (by decide), up_k (by omega), up_q (by decide)]; exact a2 j hj
        · rw [up_q (by decide), up_s]
      · intro y hy
        rcases List.mem_append.mp hy with h | h
        · rw [← hF] at h
          exact hok y (List.mem_filter.mp h).1
        · rw [List.mem_singleton.mp h]; exact hx
      · simp; omega
      · rw [up_q (by decide), up_q (by decide), up_k (by decide), a3 0 15 (fun h => by cases h)]; exact g15
      · rw [up_q (by decide), up_q (by decide), up_s]; simp; omega
      · by_cases h10q : q = 10
        · subst h10q; rw [up_k (x1 rfl), up_q (by decide), up_q (by decide)]; exact m10 k
        · rw [up_q h10q]
          by_cases h9 : q = 9
          · subst h9
            have := x2 rfl
            rw [up_k (by omega), up_q (by decide), a3 9 k (fun _ => this)]
            exact f1 9 k (fun h => by cases h)
          · rw [up_q h9]
            by_cases hq : q = 0
            · subst hq; rw [up_k (x0 rfl).2]; exact m0 k (x0 rfl).1
            · rw [up_q hq, a3 q k (fun h => absurd h h9)]; exact f1 q k (fun h => absurd h hq)
  have row1 : rowM s1 (64 * p + 0) L := fun j hj => by rw [f1 9 _ (fun h => by cases h)]; exact hrow j hj
  have m1 : s1 10 p = ((0 + L.length : Nat) : Int) := by rw [f1 10 p (fun h => by cases h), h10]; simp
  have scan := t54_0 (s := s1) hp hx L 0 FU (by unfold FU; omega) hok row1 m1 (by omega)
  have scan' : f_X7_tries_54 FU p (pk x : Int) ((64 * p : Nat) : Int) 0 0 s1 = _ := scan
  by_cases hw : W < (x.2.2.1 : Int)
  · rw [if_pos hw]
    have e : f_X7_tries_54 FU p (pk x : Int) ((64 * p : Nat) : Int) 1 0 s1 = _ := t54_1 (i := 0) hp (by decide) (by unfold FU; omega) _ _
    rw [e]
    exact fin true (by unfold tr; rw [if_pos (Or.inl hw), if_pos rfl])
  · rw [if_neg hw, gx_d (by omega) (by omega), tn_c, f1 2 p (fun h => by cases h), hk]
    have e : f_X7_tries_54 FU p (pk x : Int) ((64 * p : Nat) : Int) 1 0 s1 = _ := t54_1 (i := 0) hp (by decide) (by unfold FU; omega) _ _
    have last : ¬ (decide (kd = 5) = true ∧ 1 < x.1) → tr W (decide (kd = 5)) L x = (if L.any (fun a => ng a x) = true then L else L.filter (fun a => !ng x a) ++ [x]) := by
      intro hno
      unfold tr
      by_cases ha : L.any (fun a => ng a x) = true
      · rw [if_pos (Or.inr (Or.inr ha)), if_pos ha]
      · rw [if_neg, if_neg ha]
        rintro (h | h | h)
        · exact hw h
        · exact hno h
        · exact ha h
    by_cases h5 : kd = 5
    · rw [if_pos h5, X7_lines_pk hx, bn_t]
      by_cases h1 : (x.1 : Int) ≤ 1
      · rw [if_pos h1, scan']
        exact fin _ (last (fun h => by omega))
      · rw [if_neg h1, e]
        exact fin true (by unfold tr; rw [if_pos (Or.inr (Or.inl ⟨by simp [h5], by omega⟩)), if_pos rfl])
    · rw [if_neg h5, scan']
      exact fin _ (last (fun h => by simp [h5] at h))
end TM
