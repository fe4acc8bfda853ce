/-! ===== the class begins a part ===== -/
def FST (s : SS) (K : Nat → Int) (p : Nat) : Prop := ∀ j, j < p → s 7 j = if ar (K j) ≠ 0 ∧ j + 1 < p then ((j + 1 : Nat) : Int) else -1
def SND (s : SS) (K : Nat → Int) (p : Nat) : Prop := ∀ j, j < p → (s 8 j = -1 ∧ (ar (K j) = 2 → ∀ e, e < p → ¬ Sub K (j + 1) e)) ∨ ∃ e : Nat, e < p ∧ ar (K j) = 2 ∧ Sub K (j + 1) e ∧ s 8 j = (e : Int)
def ABV (s : SS) (K : Nat → Int) (p : Nat) : Prop := (0 < p → s 6 0 = -1) ∧ ∀ j, 0 < j → j < p → ∃ k : Nat, k < j ∧ s 6 j = (k : Int) ∧ ((ar (K k) ≠ 0 ∧ j = k + 1) ∨ (ar (K k) = 2 ∧ Sub K (k + 1) j))
def KND (s : SS) (K : Nat → Int) (p : Nat) : Prop := ∀ j, j < p → s 3 j = K j ∧ kinds6 (K j) ∧ 1 ≤ nde K j
def CI (s : SS) (K : Nat → Int) (p : Nat) (stk : List Nat) : Prop := s 1 9 = (p : Int) ∧ s 1 12 = hdI stk ∧ KND s K p ∧ (∀ o ∈ stk, o < p) ∧ CH s K stk ∧ TOP s K p stk ∧ FST s K p ∧ SND s K p ∧ ABV s K p
/-- a whole part ends with a word -/
theorem Sub.last {K : Nat → Int} {a p : Nat} (h : Sub K a (p + 1)) (ha : a ≤ p) : ar (K p) = 0 := by
  have hstep : nde K (p + 1) = nde K p + ar (K p) - 1 := rfl
  have h1 := h.2.1
  have h2 := h.2.2 p ha (by omega)
  have := ar_3 (K p)
  omega
theorem Sub.two {K : Nat → Int} {a b p : Nat} (ha : ar (K a) = 2) (hb : ar (K b) = 2) (h1 : Sub K (a + 1) p) (h2 : Sub K (b + 1) p) : a = b := by
  have e1 : nde K (a + 1) = nde K a + ar (K a) - 1 := rfl
  have e2 : nde K (b + 1) = nde K b + ar (K b) - 1 := rfl
  have n1 := h1.2.1
  have n2 := h2.2.1
  rcases Nat.lt_trichotomy a b with h | h | h
  · have := h1.2.2 b h (by have := h2.1; omega)
    omega
  · exact h
  · have := h2.2.2 a h (by have := h1.1; omega)
    omega
/-- part p is written, but hangs below nothing yet -/
def CIp (z : SS) (K : Nat → Int) (p : Nat) (stk : List Nat) : Prop := z 1 9 = ((p + 1 : Nat) : Int) ∧ z 1 12 = hdI stk ∧ KND z K (p + 1) ∧ (∀ o ∈ stk, o < p) ∧ CH z K stk ∧ TOP z K p stk ∧ FST z K p ∧ SND z K p ∧ ABV z K p ∧ z 6 p = hdI stk ∧ z 7 p = -1 ∧ z 8 p = -1
def frH (z s' : SS) : Prop := ∀ q k, (q = 1 → k ≠ 12) → q ≠ 7 → q ≠ 8 → s' q k = z q k
theorem X0_hang {z : SS} {K : Nat → Int} {p : Nat} {stk : List Nat} (hp : p < 40) (h : CIp z K p stk) (hne : stk = [] → p = 0) :
    ∃ s', f_X0_hangBelowOpen (p : Int) z = some s' ∧ s' 1 12 = hdI stk ∧ KND s' K (p + 1) ∧ CH s' K stk ∧ FST s' K (p + 1) ∧ SND s' K (p + 1) ∧ ABV s' K (p + 1) ∧ (∀ q k, q ≠ 7 → q ≠ 8 → s' q k = z q k) ∧ s' 7 p = -1 ∧ s' 8 p = -1 ∧
      (∀ o r, stk = o :: r → (p = o + 1 ∧ s' 7 o = ((o + 1 : Nat) : Int) ∧ s' 8 o = -1) ∨ (ar (K o) = 2 ∧ s' 8 o = (p : Int) ∧ Sub K (o + 1) p)) := by
  obtain ⟨h9, h12, hK, hin, hCH, hT, hF, hS, hA, h6, h7, h8⟩ := h
  have abv : ∀ s' : SS, (∀ k, s' 6 k = z 6 k) → (∀ o r, stk = o :: r → (ar (K o) ≠ 0 ∧ p = o + 1) ∨ (ar (K o) = 2 ∧ Sub K (o + 1) p)) → ABV s' K (p + 1) := by
    intro s' e hl
    refine ⟨fun _ => ?_, fun j j0 j1 => ?_⟩
    · rw [e]
      by_cases h0 : p = 0
      · subst h0
        match stk, hin, h6 with
        | [], _, h6 => rw [h6]; rfl
        | o :: r, hin, _ => exact absurd (hin o List.mem_cons_self) (by omega)
      · exact hA.1 (by omega)
    · rw [e]
      by_cases hj : j = p
      · subst hj
        match stk, hin, h6, hne, hl with
        | [], _, _, hne, _ => have := hne rfl; omega
        | o :: r, hin, h6, _, hl => exact ⟨o, hin o List.mem_cons_self, h6, hl o r rfl⟩
      · exact hA.2 j j0 (by omega)
  match stk, hne, hin, hCH, hT, h12, h6, abv with
  | [], hne, hin, hCH, hT, h12, h6, abv =>
    obtain rfl := hne rfl
    refine ⟨z, ?_, h12, hK, hCH, fun j hj => ?_, fun j hj => ?_, abv z (fun _ => rfl) (fun o r e => by cases e), fun _ _ _ _ => rfl, h7, h8, fun o r e => by cases e⟩
    · unfold f_X0_hangBelowOpen
      rw [h12, X0_hasPart_v, bn_t]
      have e2 : (if (0 : Int) ≤ hdI [] ∧ hdI [] < z 1 9 ∧ hdI [] < 40 then (1 : Int) else 0) = 0 := if_neg (by simp [hdI])
      rw [e2, if_pos rfl]
    · obtain rfl : j = 0 := by omega
      rw [h7, if_neg (by omega)]
    · obtain rfl : j = 0 := by omega
      exact Or.inl ⟨h8, fun _ e he q => by have := q.1; omega⟩
  | o :: r, hne, hin, hCH, hT, h12, h6, abv =>
    have ho := hin o List.mem_cons_self
    have hor := (CH_le o r hCH).1
    have har := (CH_ar hCH).1
    have e2 : (if (0 : Int) ≤ hdI (o :: r) ∧ hdI (o :: r) < z 1 9 ∧ hdI (o :: r) < 40 then (1 : Int) else 0) = 1 := if_pos (by rw [h9]; show (0 : Int) ≤ (o : Int) ∧ (o : Int) < _ ∧ (o : Int) < 40; omega)
    have unf : f_X0_hangBelowOpen (p : Int) z = if z 7 o = -1 then some (up z 7 o p) else some (up z 8 o p) := by
      unfold f_X0_hangBelowOpen g_X0_hangBelowOpen_48
      rw [h12, X0_hasPart_v, bn_t, e2, if_neg (by decide)]
      show gx (o : Int) 40 _ = _
      rw [gx_d (by omega) (by omega), gx_d (i := hdI (o :: r)) (by show (0 : Int) ≤ (o : Int); omega) (by show (o : Int) < _; omega), gx_d (i := hdI (o :: r)) (by show (0 : Int) ≤ (o : Int); omega) (by show (o : Int) < _; omega)]
      rfl
    rw [unf]
    rcases hT with ⟨t1, t2, t3⟩ | ⟨t1, t2, t3, t4⟩
    · rw [if_pos t2]
      have g : ∀ q k, q ≠ 7 → (up z 7 o (p : Int)) q k = z q k := fun q k hq => up_q hq
      refine ⟨_, rfl, by rw [g 1 12 (by decide)]; exact h12, fun j hj => by rw [g 3 j (by decide)]; exact hK j hj, CH_ext (o :: r) (fun x _ => ⟨g 6 x (by decide), g 8 x (by decide)⟩) hCH, fun j hj => ?_, fun j hj => ?_, abv _ (fun k => g 6 k (by decide)) (fun o' r' e => by cases e; exact Or.inl ⟨har, t1⟩), fun q k x7 _ => g q k x7, by rw [up_k (by omega)]; exact h7, by rw [g 8 p (by decide)]; exact h8, fun o' r' e => by
        cases e
        exact Or.inl ⟨t1, by rw [up_s, t1], by rw [g 8 o (by decide)]; exact t3⟩⟩
      · by_cases hjo : j = o
        · subst hjo
          rw [up_s, if_pos ⟨har, by omega⟩, t1]
        · rw [up_k hjo]
          by_cases hjp : j = p
          · subst hjp
            rw [h7, if_neg (by omega)]
          · rw [hF j (by omega)]
            by_cases hc : ar (K j) ≠ 0 ∧ j + 1 < p
            · rw [if_pos hc, if_pos ⟨hc.1, by omega⟩]
            · rw [if_neg hc, if_neg (fun q => hc ⟨q.1, by omega⟩)]
      · rw [g 8 j (by decide)]
        by_cases hjp : j = p
        · subst hjp
          exact Or.inl ⟨h8, fun _ e he q => by have := q.1; omega⟩
        · rcases hS j (by omega) with ⟨a, b⟩ | ⟨e, b1, b2, b3, b4⟩
          · refine Or.inl ⟨a, fun h2 e he q => ?_⟩
            by_cases hep : e = p
            · subst hep
              rw [t1] at q
              exact har (Sub.last q (by have := q.1; omega))
            · exact b h2 e (by omega) q
          · exact Or.inr ⟨e, by omega, b2, b3, b4⟩
    · rw [if_neg (by rw [t2]; omega)]
      have g : ∀ q k, q ≠ 8 → (up z 8 o (p : Int)) q k = z q k := fun q k hq => up_q hq
      refine ⟨_, rfl, by rw [g 1 12 (by decide)]; exact h12, fun j hj => by rw [g 3 j (by decide)]; exact hK j hj, ?_, fun j hj => ?_, fun j hj => ?_, abv _ (fun k => g 6 k (by decide)) (fun o' r' e => by cases e; exact Or.inr ⟨t1, t4⟩), fun q k _ x8 => g q k x8, by rw [g 7 p (by decide)]; exact h7, by rw [up_k (by omega)]; exact h8, fun o' r' e => by
        cases e
        exact Or.inr ⟨t1, up_s, t4⟩⟩
      · match r, hCH, hor with
        | [], hCH, _ => exact ⟨hCH.1, hCH.2.1, by rw [g 6 o (by decide)]; exact hCH.2.2⟩
        | o' :: r', hCH, hor =>
          refine ⟨hCH.1, by rw [g 6 o (by decide)]; exact hCH.2.1, ?_, CH_ext (o' :: r') (fun x hx => ⟨g 6 x (by decide), up_k (by have := hor x hx; omega)⟩) hCH.2.2.2⟩
          rw [up_k (by have := hor o' List.mem_cons_self; omega)]
          exact hCH.2.2.1
      · rw [g 7 j (by decide)]
        by_cases hjp : j = p
        · subst hjp
          rw [h7, if_neg (by omega)]
        · rw [hF j (by omega)]
          by_cases hc : ar (K j) ≠ 0 ∧ j + 1 < p
          · rw [if_pos hc, if_pos ⟨hc.1, by omega⟩]
          · rw [if_neg hc, if_neg]
            intro q
            have hjp1 : p = j + 1 := by
              rcases Nat.lt_or_ge (j + 1) p with h | h
              · exact absurd ⟨q.1, h⟩ hc
              · omega
            rw [hjp1] at t4
            exact q.1 (Sub.last t4 (by have := t4.1; omega))
      · by_cases hjp : j = p
        · subst hjp
          rw [up_k (by omega)]
          exact Or.inl ⟨h8, fun _ e he q => by have := q.1; omega⟩
        · by_cases hjo : j = o
          · subst hjo
            exact Or.inr ⟨p, by omega, t1, t4, up_s⟩
          · rw [up_k hjo]
            rcases hS j (by omega) with ⟨a, b⟩ | ⟨e, b1, b2, b3, b4⟩
            · refine Or.inl ⟨a, fun h2 e he q => ?_⟩
              by_cases hep : e = p
              · subst hep
                exact hjo (Sub.two h2 t1 q t4)
              · exact b h2 e (by omega) q
            · exact Or.inr ⟨e, by omega, b2, b3, b4⟩
theorem X0_begin_110 {z : SS} {K : Nat → Int} {p : Nat} {stk : List Nat} (hp : p < 40) (h : CIp z K p stk) (hne : stk = [] → p = 0) :
    ∃ s' stk', g_X0_begin_110 (K p) (p : Int) z = some s' ∧ CI s' K (p + 1) stk' ∧ frH z s' ∧ (ar (K p) ≠ 0 → stk' = p :: stk) := by
  have hz9 := h.1
  have hin := h.2.2.2.1
  have h6 := h.2.2.2.2.2.2.2.2.2.1
  obtain ⟨s1, a1, a2, a3, a4, a5, a6, a7, a8, a9, a10, a11⟩ := X0_hang hp h hne
  unfold g_X0_begin_110 g_X0_begin_133
  rw [a1, bn_t]
  have hk6 := (a3 p (by omega)).2.1
  have k0 : K p = 0 ↔ ar (K p) = 0 := by
    rcases hk6 with q | q | q | q | q | q <;> rw [q] <;> decide
  by_cases h0 : K p = 0
  · have ha0 := k0.mp h0
    rw [if_pos h0]
    obtain ⟨stk', b1, b2, b3, b4⟩ := X0_close (K := K) (p := p + 1) (by omega) stk 0 FU s1
      (by
        match stk, h.2.2.2.2.1, hin with
        | [], _, _ => simp
        | o :: r, hc, hin => have := (CH_le o r hc).2; have := hin o List.mem_cons_self; simp; omega)
      (by
        unfold FU
        match stk, h.2.2.2.2.1, hin with
        | [], _, _ => simp
        | o :: r, hc, hin => have := (CH_le o r hc).2; have := hin o List.mem_cons_self; simp; omega)
      (by rw [a8 1 9 (by decide) (by decide)]; exact hz9) a2
      (fun o ho => by
        have := hin o ho
        refine ⟨by omega, (a3 o (by omega)).1, (a3 o (by omega)).2.1, fun q => ?_⟩
        rw [a5 o (by omega), if_pos ⟨q, by omega⟩]) a4
      (fun o r e => by
        have hw : Sub K p (p + 1) := Sub.wd ha0
        have hne2 := (CH_ar (by rw [← e]; exact a4 : CH s1 K (o :: r))).1
        rcases a11 o r e with ⟨c1, c2, c3⟩ | ⟨c1, c2, c3⟩
        · rw [c1] at hw
          rw [c1]
          rcases ar_3 (K o) with q | q | q
          · exact absurd q hne2
          · exact Or.inl ⟨q, c2, hw⟩
          · exact Or.inr (Or.inl ⟨q, c3, hw⟩)
        · exact Or.inr (Or.inr ⟨p, c1, c2, c3, hw⟩))
      (fun e => by
        obtain rfl := hne e
        exact Sub.wd ha0)
    have b1' : f_X0_closeFull s1 = some (up s1 1 12 (hdI stk')) := b1
    rw [b1', bn_t]
    have g : ∀ q k, (q = 1 → k ≠ 12) → (up s1 1 12 (hdI stk')) q k = s1 q k := by
      intro q k hq
      by_cases h1 : q = 1
      · subst h1; exact up_k (hq rfl)
      · exact up_q h1
    refine ⟨_, stk', rfl, ⟨by rw [g 1 9 (fun _ => by decide), a8 1 9 (by decide) (by decide)]; exact hz9, up_s, fun j hj => by rw [g 3 j (fun q => by cases q)]; exact a3 j hj, fun o ho => by have := hin o (b4 o ho); omega, CH_ext stk' (fun o _ => ⟨g 6 o (fun q => by cases q), g 8 o (fun q => by cases q)⟩) b2, TOP_ext stk' (fun o _ => ⟨g 7 o (fun q => by cases q), g 8 o (fun q => by cases q)⟩) b3, fun j hj => by rw [g 7 j (fun q => by cases q)]; exact a5 j hj, fun j hj => by rw [g 8 j (fun q => by cases q)]; exact a6 j hj, ⟨fun q => by rw [g 6 0 (fun q => by cases q)]; exact a7.1 q, fun j j0 j1 => by rw [g 6 j (fun q => by cases q)]; exact a7.2 j j0 j1⟩⟩, fun q k x1 x7 x8 => by rw [g q k x1, a8 q k x7 x8], fun q => absurd ha0 q⟩
  · have ha0 : ar (K p) ≠ 0 := fun q => h0 (k0.mpr q)
    rw [if_neg h0, sb_t]
    have g : ∀ q k, (q = 1 → k ≠ 12) → (up s1 1 12 (p : Int)) q k = s1 q k := by
      intro q k hq
      by_cases h1 : q = 1
      · subst h1; exact up_k (hq rfl)
      · exact up_q h1
    have c6 : s1 6 p = hdI stk := by rw [a8 6 p (by decide) (by decide)]; exact h6
    have hch : CH (up s1 1 12 (p : Int)) K (p :: stk) := by
      have hc2 : CH (up s1 1 12 (p : Int)) K stk := CH_ext stk (fun o _ => ⟨g 6 o (fun q => by cases q), g 8 o (fun q => by cases q)⟩) a4
      match stk, hne, c6, a11, hc2 with
      | [], hne, c6, _, _ => exact ⟨hne rfl, ha0, by rw [g 6 p (fun q => by cases q)]; exact c6⟩
      | o :: r, _, c6, a11, hc2 =>
        refine ⟨ha0, by rw [g 6 p (fun q => by cases q)]; exact c6, ?_, hc2⟩
        rw [g 8 o (fun q => by cases q)]
        rcases a11 o r rfl with ⟨c1, c2, c3⟩ | ⟨c1, c2, c3⟩
        · exact Or.inr ⟨c1, c3⟩
        · exact Or.inl ⟨c2, c1, c3⟩
    refine ⟨_, p :: stk, rfl, ⟨by rw [g 1 9 (fun _ => by decide), a8 1 9 (by decide) (by decide)]; exact hz9, up_s, fun j hj => by rw [g 3 j (fun q => by cases q)]; exact a3 j hj, fun o ho => ?_, hch, Or.inl ⟨rfl, by rw [g 7 p (fun q => by cases q)]; exact a9, by rw [g 8 p (fun q => by cases q)]; exact a10⟩, fun j hj => by rw [g 7 j (fun q => by cases q)]; exact a5 j hj, fun j hj => by rw [g 8 j (fun q => by cases q)]; exact a6 j hj, ⟨fun q => by rw [g 6 0 (fun q => by cases q)]; exact a7.1 q, fun j j0 j1 => by rw [g 6 j (fun q => by cases q)]; exact a7.2 j j0 j1⟩⟩, fun q k x1 x7 x8 => by rw [g q k x1, a8 q k x7 x8], fun _ => rfl⟩
    rcases List.mem_cons.mp ho with rfl | ho
    · omega
    · have := hin o ho
      omega
