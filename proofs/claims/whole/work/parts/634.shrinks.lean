/-! ===== where there is a line less ===== -/
def SL (L : Nat → Int) (i : Nat) : List Nat := (List.range i).filter (fun v => decide (1 ≤ v ∧ L v < L (v - 1)))
theorem SL_s (L : Nat → Int) (i : Nat) : SL L (i + 1) = SL L i ++ (if 1 ≤ i ∧ L i < L (i - 1) then [i] else []) := by
  unfold SL
  rw [List.range_succ, List.filter_append]
  congr 1
  by_cases h : 1 ≤ i ∧ L i < L (i - 1)
  · rw [if_pos h, List.filter_cons, if_pos (by simpa using h)]
    rfl
  · rw [if_neg h, List.filter_cons, if_neg (by simpa using h)]
    rfl
def enL (L : Nat → Int) : Nat → Int
  | 0 => -1
  | i + 1 => if enL L i = -1 ∧ 1 ≤ i ∧ L i ≠ -1 then (i : Int) else enL L i
def LD (L : Nat → Int) : Prop := (∀ v, v < 100 → L v = -1 ∨ (1 ≤ L v ∧ L v ≤ 40)) ∧ ∀ v, v + 1 < 100 → L v ≠ -1 → L (v + 1) ≠ -1 ∧ L (v + 1) ≤ L v
theorem SL_le {L : Nat → Int} (h : LD L) : ∀ v, v < 100 → (L v = -1 → SL L (v + 1) = []) ∧ (L v ≠ -1 → ((SL L (v + 1)).length : Int) + L v ≤ 40) := by
  intro v
  induction v with
  | zero =>
    intro hv
    have e : SL L 1 = [] := by rw [SL_s, if_neg (by omega)]; rfl
    rw [e]
    refine ⟨fun _ => rfl, fun q => ?_⟩
    have := h.1 0 hv
    simp
    omega
  | succ v ih =>
    intro hv
    obtain ⟨i1, i2⟩ := ih (by omega)
    have b1 := h.1 (v + 1) hv
    have b0 := h.1 v (by omega)
    rw [SL_s L (v + 1)]
    by_cases hL : L v = -1
    · rw [i1 hL, if_neg (by rw [show v + 1 - 1 = v by omega]; omega)]
      refine ⟨fun _ => rfl, fun q => ?_⟩
      simp
      omega
    · obtain ⟨d1, d2⟩ := h.2 v hv hL
      refine ⟨fun q => absurd q d1, fun _ => ?_⟩
      have := i2 hL
      rw [List.length_append, show v + 1 - 1 = v by omega]
      split
      · simp
        omega
      · simp
        omega
theorem SL_39 {L : Nat → Int} (h : LD L) {v : Nat} (hv : v ≤ 100) : (SL L v).length ≤ 39 := by
  match v, hv with
  | 0, _ => simp [SL]
  | v + 1, hv =>
    obtain ⟨a, b⟩ := SL_le h v (by omega)
    by_cases hL : L v = -1
    · rw [a hL]; simp
    · have := b hL
      have := h.1 v (by omega)
      omega
theorem getD_app {A : List Nat} {b : Nat} {j : Nat} (h : j < A.length) : (A ++ [b]).getD j 0 = A.getD j 0 := by
  simp [List.getD_eq_getElem?_getD, List.getElem?_append_left h]
theorem getD_at {A : List Nat} {b : Nat} : (A ++ [b]).getD A.length 0 = b := by
  simp [List.getD_eq_getElem?_getD]
def SC (L : Nat → Int) (v : Nat) (s : SS) : Prop := s 22 5 = enL L v ∧ s 22 4 = ((SL L v).length : Int) ∧ ∀ j, j < (SL L v).length → s 34 j = ((SL L v).getD j 0 : Int)
theorem sh12 {L : Nat → Int} (hL : LD L) : ∀ (r v f : Nat) (s : SS), 1 ≤ v → v + r = 100 → r < f → (∀ j, j < 100 → s 33 j = L j) → SC L v s → ∃ s', f_X5_findShrinks_12 f (v : Int) s = some s' ∧ SC L 100 s' ∧ ∀ q k, (q = 22 → k ≠ 4 ∧ k ≠ 5) → q ≠ 34 → s' q k = s q k := by
  intro r
  induction r with
  | zero =>
    intro v f s h1 hv hf h33 hS
    match f, hf with
    | f + 1, _ =>
      obtain rfl : v = 100 := by omega
      refine ⟨s, ?_, hS, fun _ _ _ _ => rfl⟩
      show g_X5_findShrinks_12 (f_X5_findShrinks_12 f) _ s = _
      unfold g_X5_findShrinks_12 g_X5_findShrinks_96
      rw [if_pos (by omega)]
  | succ r ih =>
    intro v f s h1 hv hf h33 hS
    match f, hf with
    | f + 1, hf =>
      show ∃ s', g_X5_findShrinks_12 (f_X5_findShrinks_12 f) _ s = _ ∧ _
      obtain ⟨c5, c4, c34⟩ := hS
      have h39 := SL_39 hL (v := v) (by omega)
      have hSL := SL_s L v
      -- the second half
      have half : ∀ s0 : SS, s0 22 5 = enL L (v + 1) → (∀ q k, (q = 22 → k ≠ 5) → s0 q k = s q k) → ∃ s', g_X5_findShrinks_41 (f_X5_findShrinks_12 f) (v : Int) s0 = some s' ∧ SC L 100 s' ∧ ∀ q k, (q = 22 → k ≠ 4 ∧ k ≠ 5) → q ≠ 34 → s' q k = s q k := by
        intro s0 e5 fr
        have g33 : ∀ j, j < 100 → s0 33 j = L j := fun j hj => by rw [fr 33 j (fun q => by cases q)]; exact h33 j hj
        have g4 : s0 22 4 = ((SL L v).length : Int) := by rw [fr 22 4 (fun _ => by decide)]; exact c4
        unfold g_X5_findShrinks_41 g_X5_findShrinks_90
        rw [gx_d (by omega) (by omega), wr_t (a := (v : Int) - 1) (by omega) (by omega), gx_d (by omega) (by omega), tn_c, show ((v : Int) - 1).toNat = v - 1 by omega, g33 v (by omega), g33 (v - 1) (by omega), sb_t, wr_t (a := (v : Int) + 1) (by omega) (by omega), show (v : Int) + 1 = ((v + 1 : Nat) : Int) by omega]
        by_cases hle : L (v - 1) ≤ L v
        · rw [if_pos hle]
          rw [if_neg (by omega), List.append_nil] at hSL
          obtain ⟨s', b1, b2, b3⟩ := ih (v + 1) f s0 (by omega) (by omega) (by omega) g33 ⟨e5, by rw [hSL]; exact g4, fun j hj => by rw [hSL] at hj ⊢; rw [fr 34 j (fun q => by cases q)]; exact c34 j hj⟩
          exact ⟨s', b1, b2, fun q k x y => by rw [b3 q k x y, fr q k (fun z => (x z).2)]⟩
        · rw [if_neg hle, g4, if_neg (by omega), gx_d (by omega) (by omega), sb_t, sb_t, sb_t, tn_c, up_q (by decide), g4, wr_t (by omega) (by omega)]
          rw [if_pos (by omega)] at hSL
          generalize hs2 : up (up s0 34 (SL L v).length (v : Int)) 22 4 (((SL L v).length : Int) + 1) = s2
          have fr2 : ∀ q k, (q = 22 → k ≠ 4) → (q = 34 → k ≠ (SL L v).length) → s2 q k = s0 q k := by
            intro q k x y
            rw [← hs2]
            by_cases hq : q = 22
            · subst hq; rw [up_k (x rfl), up_q (by decide)]
            · rw [up_q hq]
              by_cases hq2 : q = 34
              · subst hq2; exact up_k (y rfl)
              · exact up_q hq2
          obtain ⟨s', b1, b2, b3⟩ := ih (v + 1) f s2 (by omega) (by omega) (by omega) (fun j hj => by rw [fr2 33 j (fun q => by cases q) (fun q => by cases q)]; exact g33 j hj) ⟨by rw [fr2 22 5 (fun _ => by decide) (fun q => by cases q)]; exact e5, by rw [← hs2, up_s, hSL]; simp, fun j hj => by
            rw [hSL] at hj ⊢
            rw [List.length_append] at hj
            simp only [List.length_cons, List.length_nil] at hj
            by_cases hj2 : j = (SL L v).length
            · subst hj2
              rw [getD_at, ← hs2, up_q (by decide), up_s]
            · rw [getD_app (by omega), fr2 34 j (fun q => by cases q) (fun _ => hj2), fr 34 j (fun q => by cases q)]
              exact c34 j (by omega)⟩
          exact ⟨s', b1, b2, fun q k x y => by rw [b3 q k x y, fr2 q k (fun z => (x z).1) (fun z => absurd z y), fr q k (fun z => (x z).2)]⟩
      unfold g_X5_findShrinks_12
      rw [if_neg (by omega), c5, gx_d (by omega) (by omega), tn_c, h33 v (by omega)]
      have een : enL L (v + 1) = if enL L v = -1 ∧ 1 ≤ v ∧ L v ≠ -1 then (v : Int) else enL L v := rfl
      by_cases he : enL L v = -1
      · rw [if_pos he]
        by_cases hl : L v = -1
        · rw [if_pos hl]
          rw [if_neg (fun z => z.2.2 hl)] at een
          exact half s (by rw [een]; exact c5) (fun _ _ _ => rfl)
        · rw [if_neg hl, sb_t]
          rw [if_pos ⟨he, h1, hl⟩] at een
          exact half (up s 22 5 (v : Int)) (by rw [up_s, een]) (fun q k x => by
            by_cases hq : q = 22
            · subst hq; exact up_k (x rfl)
            · exact up_q hq)
      · rw [if_neg he]
        rw [if_neg (fun z => he z.1)] at een
        exact half s (by rw [een]; exact c5) (fun _ _ _ => rfl)
theorem X5_findShrinks_v {L : Nat → Int} (hL : LD L) {s : SS} (h33 : ∀ j, j < 100 → s 33 j = L j) : ∃ s', f_X5_findShrinks s = some s' ∧ SC L 100 s' ∧ ∀ q k, (q = 22 → k ≠ 4 ∧ k ≠ 5) → q ≠ 34 → s' q k = s q k := by
  unfold f_X5_findShrinks
  rw [sb_t, sb_t]
  have fr : ∀ q k, (q = 22 → k ≠ 4 ∧ k ≠ 5) → (up (up s 22 4 0) 22 5 (-1)) q k = s q k := by
    intro q k x
    by_cases hq : q = 22
    · subst hq; rw [up_k (x rfl).2, up_k (x rfl).1]
    · rw [up_q hq, up_q hq]
  have e1 : SL L 1 = [] := by rw [SL_s, if_neg (by omega)]; rfl
  obtain ⟨s', b1, b2, b3⟩ := sh12 hL 99 1 FU (up (up s 22 4 0) 22 5 (-1)) (by omega) (by omega) (by unfold FU; omega) (fun j hj => by rw [fr 33 j (fun q => by cases q)]; exact h33 j hj) ⟨by rw [up_s]; simp [enL], by rw [up_k (by decide), up_s, e1]; rfl, fun j hj => by rw [e1] at hj; simp at hj⟩
  exact ⟨s', b1, b2, fun q k x y => by rw [b3 q k x y, fr q k x]⟩
section WW
variable {n : Nat} {t : Nat → Int}
noncomputable def Lv (n : Nat) (t : Nat → Int) (v : Nat) : Int := fewV (LY n t (v : Int) 0) (fun x => x.1)
theorem Lt_LY (hn : n ≤ 40) {v : Nat} {x : Sh} : LY n t (v : Int) 0 x ↔ Lt n t v x := by
  by_cases h0 : pN n t = 0
  · constructor
    · rintro ⟨a, -, -⟩
      unfold U UU at a
      rw [if_pos h0] at a
      cases a
    · rintro ⟨w, h1, -, -⟩
      unfold mny at h1
      rw [if_pos h0] at h1
      omega
  · rw [← LY_c hn]
    unfold Lt mny
    rw [if_neg h0]
    constructor
    · rintro ⟨w, a, b, c, d⟩; exact ⟨w, a, b, by omega⟩
    · rintro ⟨w, a, b, c⟩; exact ⟨w, a, b, Nat.and_zero _, by omega⟩
theorem Lv_few (hn : n ≤ 40) {s : SS} (h : ∀ j, j < 100 → Few (Lt n t j) (fun x => x.1) (s 33 j)) : ∀ j, j < 100 → s 33 j = Lv n t j ∧ Few (LY n t (j : Int) 0) (fun x => x.1) (Lv n t j) := by
  intro j hj
  have := (h j hj).same (fun x => Lt_LY (t := t) (v := j) (x := x) hn)
  have e := fewV_eq this
  have e' : Lv n t j = s 33 j := e
  exact ⟨e'.symm, by rw [e']; exact this⟩
theorem Lv_LD (hn : n ≤ 40) (h : ∀ j : Nat, j < 100 → Few (LY n t (j : Int) 0) (fun x => x.1) (Lv n t j)) : LD (Lv n t) := by
  refine ⟨fun v hv => ?_, fun v hv hne => ?_⟩
  · rcases h v hv with ⟨a, b⟩ | ⟨x, a, b, c⟩
    · exact Or.inl a
    · have := LY_bnd hn a
      right
      dsimp only at b
      omega
  · rcases h v (by omega) with ⟨a, b⟩ | ⟨x, a, b, c⟩
    · exact absurd a hne
    · have hx : LY n t ((v + 1 : Nat) : Int) 0 x := ⟨a.1, a.2.1, by have := a.2.2; omega⟩
      rcases h (v + 1) hv with ⟨a', b'⟩ | ⟨y, a', b', c'⟩
      · exact absurd hx (b' x)
      · have := c' x hx
        exact ⟨by omega, by omega⟩
theorem en_few (hn : n ≤ 40) (h : ∀ j : Nat, j < 100 → Few (LY n t (j : Int) 0) (fun x => x.1) (Lv n t j)) : ∀ v : Nat, v < 100 → Few (LY n t (v : Int) 0) (fun x => x.2.2.1) (enL (Lv n t) (v + 1)) := by
  intro v
  induction v with
  | zero =>
    intro _
    refine Or.inl ⟨by simp [enL], fun x hx => ?_⟩
    have := LY_bnd hn hx
    have := hx.2.2
    omega
  | succ v ih =>
    intro hv
    have i := ih (by omega)
    have e : enL (Lv n t) (v + 1 + 1) = if enL (Lv n t) (v + 1) = -1 ∧ 1 ≤ v + 1 ∧ Lv n t (v + 1) ≠ -1 then ((v + 1 : Nat) : Int) else enL (Lv n t) (v + 1) := rfl
    rw [e]
    rcases i with ⟨a, b⟩ | ⟨x, a, b, c⟩
    · rcases h (v + 1) hv with ⟨a', b'⟩ | ⟨y, a', b', c'⟩
      · rw [if_neg (fun z => z.2.2 a')]
        exact Or.inl ⟨a, b'⟩
      · rw [if_pos ⟨a, by omega, by omega⟩]
        have hy : ∀ z, LY n t ((v + 1 : Nat) : Int) 0 z → z.2.2.1 = v + 1 := by
          intro z hz
          have h1 := hz.2.2
          by_cases hzv : z.2.2.1 ≤ v
          · exact absurd ⟨hz.1, hz.2.1, by omega⟩ (b z)
          · omega
        exact Or.inr ⟨y, a', by show _ = ((y.2.2.1 : Nat) : Int); rw [hy y a'], fun z hz => by show y.2.2.1 ≤ z.2.2.1; rw [hy y a', hy z hz]; exact Nat.le_refl _⟩
    · rw [if_neg (fun z => by omega)]
      refine Or.inr ⟨x, ⟨a.1, a.2.1, by have := a.2.2; omega⟩, b, fun z hz => ?_⟩
      by_cases hzv : z.2.2.1 ≤ v
      · exact c z ⟨hz.1, hz.2.1, by omega⟩
      · have := a.2.2
        show x.2.2.1 ≤ z.2.2.1
        omega
noncomputable def enA (n : Nat) (t : Nat → Int) : Int := fewV (LY n t 99 0) (fun x => x.2.2.1)
/-- the class's ways are those of the text -/
def CW (n : Nat) (t : Nat → Int) (s : SS) : Prop := WR n t s ∧ s 22 5 = enA n t ∧ s 22 4 = ((SL (Lv n t) 100).length : Int) ∧ (∀ j, j < (SL (Lv n t) 100).length → s 34 j = ((SL (Lv n t) 100).getD j 0 : Int)) ∧ LD (Lv n t) ∧ ∀ j : Nat, j < 100 → Few (LY n t (j : Int) 0) (fun x => x.1) (Lv n t j)
theorem X5_make_v (hn : n ≤ 40) {s : SS} (hR : CR n t s) : ∃ s', f_X5_make s = some s' ∧ CW n t s' ∧ ∀ q k, (q = 22 → k ≠ 4 ∧ k ≠ 5 ∧ k ≠ 6) → (q ≤ 22 ∨ 34 < q) → s' q k = s q k := by
  have hm := mny_le (n := n) (t := t)
  have hC := pC_le (n := n) (t := t)
  have e0 : f_X5_make s = g_X5_make_18 (mny n t : Int) s := by
    unfold f_X5_make
    rw [show s 1 9 = (pN n t : Int) from hR.1, show s 1 10 = (pC n t : Int) from hR.2.1]
    unfold mny
    by_cases h0 : pN n t = 0
    · rw [if_pos (by omega), if_pos h0]
      rfl
    · have hp2 : 2 ^ pC n t ≤ 64 := pow_pC
      have := oN_shl (a := 1) (k := pC n t) (by omega) (by omega)
      rw [Nat.one_mul] at this
      rw [if_neg (by omega), if_neg h0]
      have t' : i_shl 1 (pC n t : Int) = _ := this
      rw [t']
  rw [e0]
  unfold g_X5_make_18
  rw [sb_t]
  have fr0 : ∀ q k, (q = 22 → k ≠ 6) → (up s 22 6 (mny n t : Int)) q k = s q k := by
    intro q k x
    by_cases hq : q = 22
    · subst hq; exact up_k (x rfl)
    · exact up_q hq
  obtain ⟨s1, a1, a2, a3⟩ := mk_all (n := n) (t := t) hn (mny n t) 0 FU (up s 22 6 (mny n t : Int)) (by omega) (by unfold FU; omega) up_s (by rw [fr0 1 9 (fun q => by cases q)]; exact hR.1) (CP_fr hR.2.2.2.1 (fun q k hq => fr0 q k (fun z => by omega))) (fun v hv => by omega)
  obtain ⟨s2, b1, b2, b3⟩ := X5_findLines_v hn a2
  have hF := Lv_few hn b2
  have hLD := Lv_LD hn (fun j hj => (hF j hj).2)
  obtain ⟨s3, c1, c2, c3⟩ := X5_findShrinks_v hLD (fun j hj => (hF j hj).1)
  refine ⟨s3, ?_, ⟨⟨?_, fun v hv => ?_⟩, ?_, c2.2.1, c2.2.2, hLD, fun j hj => (hF j hj).2⟩, fun q k x y => ?_⟩
  · have a1' : f_X5_make_23 FU 0 (up s 22 6 (mny n t : Int)) = _ := a1
    rw [a1']
    unfold g_X5_make_87
    rw [b1, bn_t, c1, bn_t]
  · rw [c3 22 6 (fun _ => by decide) (by decide), b3 22 6 (by decide)]; exact a2.1
  · exact shO_ext (a2.2 v hv) (fun p _ _ => by rw [c3 p v (fun z => by omega) (by omega), b3 p v (by omega)])
  · rw [c2.1]
    exact (fewV_eq (en_few hn (fun j hj => (hF j hj).2) 99 (by decide))).symm
  · rw [c3 q k (fun z => ⟨(x z).1, (x z).2.1⟩) (by omega), b3 q k (by omega), a3 q k (by omega), fr0 q k (fun z => (x z).2.2)]
theorem X6_readDoc_v {s : SS} (h : CX1 n t s) : ∃ s', f_X6_readDoc s = some s' ∧ CX1 n t s' ∧ CR n t s' ∧ CW n t s' ∧ ∀ q k, (q = 1 → k = 8) → (q ≤ 2 ∨ (9 < q ∧ q < 22) ∨ 34 < q) → s' q k = s q k := by
  obtain ⟨s1, a1, a2, a3⟩ := X0_parse_v h
  obtain ⟨s2, b1, b2, b3⟩ := X5_make_v h.1 a2
  have fr : ∀ q k, (q = 1 → k = 8) → (q ≤ 2 ∨ (9 < q ∧ q < 22) ∨ 34 < q) → s2 q k = s q k := by
    intro q k x y
    rw [b3 q k (fun z => by omega) (by omega), a3 q k (fun z => by have := x z; omega) (by omega)]
  have f19 : ∀ q k, q ≤ 9 → s2 q k = s1 q k := fun q k hq => b3 q k (fun z => by omega) (by omega)
  refine ⟨s2, ?_, ?_, ?_, b2, fr⟩
  · unfold f_X6_readDoc
    rw [a1, bn_t, b1, bn_t]
  · obtain ⟨c1, c2, c3, c4⟩ := h
    exact ⟨c1, by rw [fr 1 8 (fun _ => rfl) (by omega)]; exact c2, fun j hj => by rw [fr 2 j (fun z => by cases z) (by omega)]; exact c3 j hj, c4⟩
  · obtain ⟨c1, c2, c3, c4, c5, c6, c7⟩ := a2
    refine ⟨by rw [f19 1 9 (by decide)]; exact c1, by rw [f19 1 10 (by decide)]; exact c2, by rw [f19 1 11 (by decide)]; exact c3, CP_fr c4 f19, fun j hj => by rw [f19 4 j (by decide), f19 5 j (by decide)]; exact c5 j hj, fun hj => by rw [f19 6 0 (by decide)]; exact c6 hj, fun j h1 h2 => by rw [f19 6 j (by decide)]; exact c7 j h1 h2⟩
end WW
