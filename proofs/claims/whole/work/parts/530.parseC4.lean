/-! ===== the class reads the text: all of it ===== -/
def frP (s s' : SS) : Prop := ∀ q k, (q = 1 → k ≠ 9 ∧ k ≠ 10 ∧ k ≠ 11 ∧ k ≠ 12) → q ≠ 3 → q ≠ 4 → q ≠ 6 → q ≠ 7 → q ≠ 8 → q ≠ 9 → s' q k = s q k
def rowsC (s : SS) (p : Nat) (P : List Pt) : Prop := ∀ j, j < P.length → s 9 (p + j) = (P.getD j (0, 0, 0)).2.1 ∧ s 4 (p + j) = (P.getD j (0, 0, 0)).2.2
def lowC (s s' : SS) (p : Nat) : Prop := ∀ j, j < p → s' 9 j = s 9 j ∧ s' 4 j = s 4 j
theorem rowsC_cons {s : SS} {p : Nat} {x : Pt} {P : List Pt} (h1 : s 9 p = x.2.1 ∧ s 4 p = x.2.2) (h : rowsC s (p + 1) P) : rowsC s p (x :: P) := by
  intro j hj
  match j, hj with
  | 0, _ => exact h1
  | j + 1, hj =>
    have := h j (by simpa using hj)
    rw [show p + (j + 1) = p + 1 + j by omega]
    simpa using this
theorem CI_0 {s : SS} {K : Nat → Int} {p : Nat} (h : CI s K p []) (hp : 0 < p) : nde K p = 0 := by
  rcases h.2.2.2.2.2.1 with q | q
  · omega
  · have := q.2.1
    have e : nde K 0 = 1 := rfl
    omega
theorem CI_1 {s : SS} {K : Nat → Int} {p o : Nat} {r : List Nat} (h : CI s K p (o :: r)) : 1 ≤ nde K p ∧ o < p := by
  have ho := h.2.2.2.1 o List.mem_cons_self
  have h1 := (h.2.2.1 o ho).2.2
  have har := (CH_ar h.2.2.2.2.1).1
  have hstep : nde K (o + 1) = nde K o + ar (K o) - 1 := rfl
  refine ⟨?_, ho⟩
  rcases h.2.2.2.2.2.1 with ⟨q, -, -⟩ | ⟨q, -, -, q2⟩
  · rw [q]; omega
  · have := q2.2.1
    omega
section GO
variable {s : SS} {K : Nat → Int} {p i : Nat} {stk : List Nat} {b : Int}
theorem go_0 (h : CI s K p []) (hp : 0 < p) (x b : Int) : f_X0_goesOn x b s = some (0, s) := by
  unfold f_X0_goesOn g_X0_goesOn_20
  have h9 := h.1
  have h12 : s 1 12 = -1 := h.2.1
  rw [if_neg (by omega), if_pos h12, if_neg (by decide)]
theorem go_1 {o : Nat} {r : List Nat} (h : CI s K p (o :: r)) (hp : p ≤ 40) (hk : K o = 4) (h9o : s 9 o = 0) (hb : 0 ≤ b ∧ b ≤ 255) (x : Int) : f_X0_goesOn x b s = if 49 ≤ b ∧ b ≤ 57 then some (1, up s 9 o (b - 48)) else some (0, s) := by
  have h9 := h.1
  have h12 : s 1 12 = (o : Int) := h.2.1
  have ho := (CI_1 h).2
  have h3 := (h.2.2.1 o ho).1
  unfold f_X0_goesOn g_X0_goesOn_19 g_X0_goesOn_20
  rw [if_neg (by omega), if_neg (by omega), if_pos rfl, h12, X0_hasPart_v, bn_t, h9, if_neg (by rw [if_pos (by omega)]; decide), gx_d (by omega) (by omega), tn_c, h3, if_pos hk, gx_d (by omega) (by omega), h9o, if_pos rfl]
  unfold f_X0_takesFigure g_X0_takesFigure_12
  by_cases h1 : b < 49
  · rw [if_pos h1, if_neg (by omega), cb_t, gb_0]
  · rw [if_neg h1]
    by_cases h2 : b ≤ 57
    · rw [if_pos h2, if_pos (by omega), h12, gx_d (by omega) (by omega), sb_t, tn_c, wr_t (by omega) (by omega), cb_t, gb_1]
    · rw [if_neg h2, if_neg (by omega), cb_t, gb_0]
theorem go_2 {ch : Nat} (h : CI s K p stk) (hp : p < 40) (h10 : s 1 10 = (ch : Int)) (hs : (p = 0 ∧ stk = []) ∨ ∃ o r, stk = o :: r ∧ ¬ (K o = 4 ∧ s 9 o = 0)) (x : Int) : f_X0_goesOn x b s = if kOf b = -1 ∨ (kOf b = 3 ∧ ch = 6) then some (0, s) else bn (f_X0_begin x (kOf b) b s) (fun s1 => some (1, s1)) := by
  have h9 := h.1
  have h12 := h.2.1
  have e69 : g_X0_goesOn_69 x b s = if kOf b = -1 ∨ (kOf b = 3 ∧ ch = 6) then some (0, s) else bn (f_X0_begin x (kOf b) b s) (fun s1 => some (1, s1)) := by
    unfold g_X0_goesOn_69 g_X0_goesOn_105 g_X0_goesOn_107
    rw [X0_kindOf_v, bn_t]
    by_cases h1 : kOf b = -1
    · rw [if_pos h1, if_pos (Or.inl h1)]
    · rw [if_neg h1, if_neg (by omega)]
      by_cases h3 : kOf b = 3
      · rw [if_pos h3, h10]
        by_cases h6 : ch = 6
        · rw [if_pos (by omega), if_pos (Or.inr ⟨h3, h6⟩)]
        · rw [if_neg (by omega), if_neg (by rintro (q | q) <;> omega)]
      · rw [if_neg h3, if_neg (by rintro (q | q) <;> omega)]
  rw [← e69]
  unfold f_X0_goesOn g_X0_goesOn_19 g_X0_goesOn_20
  rcases hs with ⟨h0, hs⟩ | ⟨o, r, hs, hn⟩
  · subst hs
    have h12' : s 1 12 = -1 := h12
    rw [if_pos (by omega), if_pos rfl, h12', X0_hasPart_v, bn_t, if_pos (by rw [if_neg (by omega)])]
  · subst hs
    have h12' : s 1 12 = (o : Int) := h12
    have ho := (CI_1 h).2
    have h3 := (h.2.2.1 o ho).1
    rw [if_neg (by omega), if_neg (by omega), if_pos rfl, h12', X0_hasPart_v, bn_t, h9, if_neg (by rw [if_pos (by omega)]; decide), gx_d (by omega) (by omega), tn_c, h3]
    by_cases h4 : K o = 4
    · rw [if_pos h4, gx_d (by omega) (by omega), if_neg (fun q => hn ⟨h4, q⟩)]
    · rw [if_neg h4]
end GO
theorem X0_exit {f : Nat} {x : Int} {s : SS} (h : s 1 11 ≠ -1) (hf : 0 < f) : f_X0_parse_22 f x s = g_X0_parse_72 s := by
  match f, hf with
  | f + 1, _ =>
    show g_X0_parse_22 (f_X0_parse_22 f) x s = _
    unfold g_X0_parse_22
    rw [if_neg h]
    split
    · rfl
    · split <;> rfl
theorem X0_loop {n : Nat} (hn : n ≤ 40) (hn0 : 0 < n) (t K : Nat → Int) (ht : ∀ j, j < n → 0 ≤ t j ∧ t j ≤ 255) : ∀ (r i nd ch p f : Nat) (pd : Bool) (stk : List Nat) (s : SS),
    i + r = n → r + 1 < f → p ≤ i → (0 < i → 0 < p) → ch ≤ 6 → s 1 8 = (n : Int) → s 1 11 = -1 → s 1 10 = (ch : Int) → (∀ j, j < n → s 2 j = t j) → CI s K p stk → nde K p = (nd : Int) →
    (pd = false → ∀ j, j < p → K j = 4 → s 9 j ≠ 0) → (pd = true → ∃ p' r', p = p' + 1 ∧ stk = p' :: r' ∧ K p' = 4 ∧ s 9 p' = 0 ∧ s 4 p' = (i : Int) - 1 ∧ ∀ j, j < p' → K j = 4 → s 9 j ≠ 0) →
    (∀ j, j < (bgn t r i nd ch pd).length → K (p + j) = (bgn t r i nd ch pd).getD j 0) →
    ∃ s1, f_X0_parse_22 f (i : Int) s = g_X0_parse_72 s1 ∧ s1 1 8 = (n : Int) ∧ frP s s1 ∧
      ((prs t r i nd ch pd).1 = -1 → s1 1 11 = -1 ∧ CI s1 K ((if pd = true then p - 1 else p) + (prs t r i nd ch pd).2.length) [] ∧ s1 1 10 = ((ch + chs (prs t r i nd ch pd).2 : Nat) : Int) ∧ rowsC s1 (if pd = true then p - 1 else p) (prs t r i nd ch pd).2 ∧ lowC s s1 (if pd = true then p - 1 else p)) ∧
      ((prs t r i nd ch pd).1 ≠ -1 → s1 1 11 = (prs t r i nd ch pd).1 ∨ (s1 1 11 = -1 ∧ s1 1 12 ≠ -1 ∧ (prs t r i nd ch pd).1 = (n : Int))) := by
  intro r
  induction r with
  | zero =>
    intro i nd ch p f pd stk s hir hf hpi hip hch h8 h11 h10 h2 hCI hnd hpf hpt hK
    match f, hf with
    | f + 1, _ =>
      refine ⟨s, ?_, h8, fun _ _ _ _ _ _ _ _ _ => rfl, ?_, ?_⟩
      · show g_X0_parse_22 (f_X0_parse_22 f) _ s = _
        unfold g_X0_parse_22
        rw [if_pos (by omega)]
      · intro h
        have hc : nd = 0 ∧ pd = false := by
          unfold prs at h
          by_cases q : nd = 0 ∧ pd = false
          · exact q
          · rw [if_neg q] at h; dsimp only at h; omega
        obtain ⟨h0, hpd⟩ := hc
        subst hpd
        have hs : stk = [] := by
          match stk, hCI with
          | [], _ => rfl
          | o :: r, hCI => have := (CI_1 hCI).1; omega
        subst hs
        refine ⟨h11, by simpa [prs] using hCI, by simpa [prs, chs] using h10, fun j hj => by simp [prs] at hj, fun j _ => ⟨rfl, rfl⟩⟩
      · intro h
        refine Or.inr ⟨h11, ?_, ?_⟩
        · rw [hCI.2.1]
          match stk, hCI with
          | [], hCI =>
            have h0 := CI_0 hCI (hip (by omega))
            exfalso
            apply h
            have hpd : pd = false := by
              cases pd with
              | false => rfl
              | true =>
                obtain ⟨_, _, _, hs, _⟩ := hpt rfl
                cases hs
            unfold prs
            rw [if_pos ⟨by omega, hpd⟩]
          | o :: r, _ => show (o : Int) ≠ -1; omega
        · unfold prs at h ⊢
          by_cases q : nd = 0 ∧ pd = false
          · rw [if_pos q] at h; exact absurd rfl h
          · rw [if_neg q]; dsimp only; omega
  | succ r ih =>
    intro i nd ch p f pd stk s hir hf hpi hip hch h8 h11 h10 h2 hCI hnd hpf hpt hK
    match f, hf with
    | f + 1, hf =>
      have hb := ht i (by omega)
      have hunf : f_X0_parse_22 (f + 1) (i : Int) s = cb (f_X0_goesOn (i : Int) (t i) s) (fun y1 s1 => if y1 = 0 then sb (up s1 1 11 (i : Int)) (fun s2 => g_X0_parse_66 (f_X0_parse_22 f) (i : Int) s2) else g_X0_parse_66 (f_X0_parse_22 f) (i : Int) s1) := by
        show g_X0_parse_22 (f_X0_parse_22 f) _ s = _
        unfold g_X0_parse_22
        rw [if_neg (by omega), if_neg (by omega), if_pos h11, gx_d (by omega) (by omega), tn_c, h2 i (by omega)]
      -- it goes wrong here
      have bad : f_X0_goesOn (i : Int) (t i) s = some (0, s) → (prs t (r + 1) i nd ch pd).1 = (i : Int) → ∃ s1, f_X0_parse_22 (f + 1) (i : Int) s = g_X0_parse_72 s1 ∧ s1 1 8 = (n : Int) ∧ frP s s1 ∧
          ((prs t (r + 1) i nd ch pd).1 = -1 → s1 1 11 = -1 ∧ CI s1 K ((if pd = true then p - 1 else p) + (prs t (r + 1) i nd ch pd).2.length) [] ∧ s1 1 10 = ((ch + chs (prs t (r + 1) i nd ch pd).2 : Nat) : Int) ∧ rowsC s1 (if pd = true then p - 1 else p) (prs t (r + 1) i nd ch pd).2 ∧ lowC s s1 (if pd = true then p - 1 else p)) ∧
          ((prs t (r + 1) i nd ch pd).1 ≠ -1 → s1 1 11 = (prs t (r + 1) i nd ch pd).1 ∨ (s1 1 11 = -1 ∧ s1 1 12 ≠ -1 ∧ (prs t (r + 1) i nd ch pd).1 = (n : Int))) := by
        intro hg hp1
        refine ⟨up s 1 11 (i : Int), ?_, by rw [up_k (by decide)]; exact h8, fun q k x1 _ _ _ _ _ _ => ?_, fun h => by omega, fun _ => Or.inl (by rw [up_s, hp1])⟩
        · rw [hunf, hg, cb_t, if_pos rfl, sb_t]
          unfold g_X0_parse_66
          rw [sb_t]
          exact X0_exit (by rw [up_s]; omega) (by omega)
        · by_cases hq : q = 1
          · subst hq; exact up_k (x1 rfl).2.2.1
          · exact up_q hq
      -- it goes on
      have good : ∀ s' : SS, f_X0_goesOn (i : Int) (t i) s = some (1, s') → f_X0_parse_22 (f + 1) (i : Int) s = f_X0_parse_22 f ((i + 1 : Nat) : Int) s' := by
        intro s' hg
        rw [hunf, hg, cb_t, if_neg (by decide)]
        unfold g_X0_parse_66
        rw [sb_t, wr_t (by omega) (by omega), show (i : Int) + 1 = ((i + 1 : Nat) : Int) by omega]
      cases pd with
      | true =>
        obtain ⟨p', r', e1, e2, e3, e4, e5, e6⟩ := hpt rfl
        subst e1
        subst e2
        have hg := go_1 hCI (by omega) e3 e4 hb (i : Int)
        by_cases hfig : 49 ≤ t i ∧ t i ≤ 57
        · rw [if_pos hfig] at hg
          have hpr : prs t (r + 1) i nd ch true = ((prs t r (i + 1) nd ch false).1, (4, t i - 48, (i : Int) - 1) :: (prs t r (i + 1) nd ch false).2) := by rw [prs, if_pos hfig]
          have hbg : bgn t (r + 1) i nd ch true = bgn t r (i + 1) nd ch false := by rw [bgn, if_pos hfig]
          have g : ∀ q k, q ≠ 9 → (up s 9 p' (t i - 48)) q k = s q k := fun q k hq => up_q hq
          obtain ⟨s1, a1, a2, a3, a4, a5⟩ := ih (i + 1) nd ch (p' + 1) f false (p' :: r') (up s 9 p' (t i - 48)) (by omega) (by omega) (by omega) (fun _ => by omega) hch (by rw [g 1 8 (by decide)]; exact h8) (by rw [g 1 11 (by decide)]; exact h11) (by rw [g 1 10 (by decide)]; exact h10) (fun j hj => by rw [g 2 j (by decide)]; exact h2 j hj)
            (by
              obtain ⟨c1, c2, c3, c4, c5, c6, c7, c8, c9⟩ := hCI
              exact ⟨by rw [g 1 9 (by decide)]; exact c1, by rw [g 1 12 (by decide)]; exact c2, fun j hj => by rw [g 3 j (by decide)]; exact c3 j hj, c4, CH_ext _ (fun o _ => ⟨g 6 o (by decide), g 8 o (by decide)⟩) c5, TOP_ext _ (fun o _ => ⟨g 7 o (by decide), g 8 o (by decide)⟩) c6, fun j hj => by rw [g 7 j (by decide)]; exact c7 j hj, fun j hj => by rw [g 8 j (by decide)]; exact c8 j hj, ⟨fun q => by rw [g 6 0 (by decide)]; exact c9.1 q, fun j j0 j1 => by rw [g 6 j (by decide)]; exact c9.2 j j0 j1⟩⟩)
            hnd (fun _ j hj hk4 => by
              by_cases hjp : j = p'
              · subst hjp; rw [up_s]; omega
              · rw [up_k hjp]; exact e6 j (by omega) hk4) (fun q => by cases q) (fun j hj => by rw [hbg] at hK; exact hK j hj)
          rw [hpr]
          dsimp only
          refine ⟨s1, by rw [good _ hg, a1], a2, fun q k x1 x3 x4 x6 x7 x8 x9 => by rw [a3 q k x1 x3 x4 x6 x7 x8 x9, g q k x9], fun h => ?_, a5⟩
          obtain ⟨b1, b2, b3, b4, b5⟩ := a4 h
          simp only [if_true, if_false, Bool.false_eq_true] at b2 b4 b5 ⊢
          have hl := b5 p' (by omega)
          refine ⟨b1, ?_, by rw [b3]; simp [chs], ?_, fun j hj => ?_⟩
          · rw [List.length_cons, show p' + 1 - 1 + ((prs t r (i + 1) nd ch false).2.length + 1) = p' + 1 + (prs t r (i + 1) nd ch false).2.length by omega]
            exact b2
          · rw [show p' + 1 - 1 = p' by omega]
            refine rowsC_cons ⟨by rw [hl.1, up_s], by rw [hl.2, g 4 p' (by decide)]; exact e5⟩ b4
          · have := b5 j (by omega)
            rw [up_k (by omega), g 4 j (by decide)] at this
            exact this
        · rw [if_neg hfig] at hg
          exact bad hg (by rw [prs, if_neg hfig])
      | false =>
        by_cases hst0 : stk = [] ∧ 0 < p
        · obtain ⟨e1, e2⟩ := hst0
          subst e1
          have h0 := CI_0 hCI e2
          exact bad (go_0 hCI e2 _ _) (by rw [prs, if_pos (Or.inl (by omega))])
        · have hs : (p = 0 ∧ stk = []) ∨ ∃ o r, stk = o :: r ∧ ¬ (K o = 4 ∧ s 9 o = 0) := by
            match stk, hCI, hst0 with
            | [], _, hst0 =>
              have hp0 : ¬ 0 < p := fun q => hst0 ⟨rfl, q⟩
              exact Or.inl ⟨by omega, rfl⟩
            | o :: r, hCI, _ => exact Or.inr ⟨o, r, rfl, fun q => hpf rfl o (CI_1 hCI).2 q.1 q.2⟩
          have hn1 : 1 ≤ nde K p := by
            rcases hs with ⟨q, -⟩ | ⟨o, r, q, -⟩
            · rw [q]; show (1 : Int) ≤ 1; omega
            · subst q; exact (CI_1 hCI).1
          have hne : stk = [] → p = 0 := by
            intro q
            rcases hs with ⟨q2, -⟩ | ⟨o, r, q2, -⟩
            · exact q2
            · rw [q] at q2; cases q2
          have hg := go_2 (b := t i) hCI (by omega) h10 hs (i : Int)
          by_cases hbad : kOf (t i) = -1 ∨ (kOf (t i) = 3 ∧ ch = 6)
          · rw [if_pos hbad] at hg
            exact bad hg (by rw [prs, if_pos (Or.inr hbad)])
          · rw [if_neg hbad] at hg
            have hbad2 : ¬ (nd = 0 ∨ kOf (t i) = -1 ∨ (kOf (t i) = 3 ∧ ch = 6)) := by
              rintro (q | q)
              · omega
              · exact hbad q
            have hk6 : kinds6 (kOf (t i)) := by
              rcases kOf_c (t i) with q | ⟨q, -⟩ | q | q | q | q | q
              · exact absurd (Or.inl q) hbad
              all_goals (unfold kinds6; omega)
            -- the part's kind is the next one
            have hKp : K p = kOf (t i) := by
              have := hK 0 (by
                rw [bgn, if_neg hbad2]
                split <;> simp)
              rw [bgn, if_neg hbad2] at this
              by_cases h4 : kOf (t i) = 4
              · rw [if_pos h4] at this; rw [h4]; simpa using this
              · rw [if_neg h4] at this; simpa using this
            rw [← hKp] at hg hk6
            have hc6 : ch < 6 ∨ (ch = 6 ∧ K p ≠ 3) := by
              by_cases q : ch = 6
              · exact Or.inr ⟨q, fun q2 => hbad (Or.inr ⟨by rw [← hKp]; exact q2, q⟩)⟩
              · exact Or.inl (by omega)
            obtain ⟨s', stk', c1, c2, c3, c4, c5, c6, c7⟩ := X0_begin_v (i := i) (b := t i) (by omega) (by omega) hCI h10 hc6 hk6 hn1 hne (fun q => by
              rcases kOf_c (t i) with q2 | ⟨q2, q3⟩ | q2 | q2 | q2 | q2 | q2
              · rw [← hKp] at q2; omega
              · exact q3
              all_goals (rw [← hKp] at q2; omega))
            rw [c1, bn_t] at hg
            have fr1 : ∀ q k, (q = 1 → k ≠ 9 ∧ k ≠ 10 ∧ k ≠ 12) → q ≠ 3 → q ≠ 6 → q ≠ 7 → q ≠ 8 → q ≠ 4 → q ≠ 9 → s' q k = s q k := fun q k x1 x3 x6 x7 x8 x4 x9 => c3 q k x1 x3 x6 x7 x8 (fun h => absurd h x4) (fun h => absurd h x9)
            have row9 : ∀ j, j ≠ p → s' 9 j = s 9 j ∧ s' 4 j = s 4 j := fun j hj => ⟨c3 9 j (fun q => by cases q) (by decide) (by decide) (by decide) (by decide) (fun q => by cases q) (fun _ => hj), c3 4 j (fun q => by cases q) (by decide) (by decide) (by decide) (by decide) (fun _ => hj) (fun q => by cases q)⟩
            have hstep : nde K (p + 1) = nde K p + ar (K p) - 1 := rfl
            by_cases h4 : K p = 4
            · have ha4 : ar (K p) = 1 := by rw [h4]; decide
              have hpr : prs t (r + 1) i nd ch false = prs t r (i + 1) nd ch true := by rw [prs, if_neg hbad2, if_pos (by rw [← hKp]; exact h4)]
              have hbg : bgn t (r + 1) i nd ch false = 4 :: bgn t r (i + 1) nd ch true := by rw [bgn, if_neg hbad2, if_pos (by rw [← hKp]; exact h4)]
              obtain ⟨s1, a1, a2, a3, a4, a5⟩ := ih (i + 1) nd ch (p + 1) f true stk' s' (by omega) (by omega) (by omega) (fun _ => by omega) hch (by rw [fr1 1 8 (fun _ => by decide) (by decide) (by decide) (by decide) (by decide) (by decide) (by decide)]; exact h8) (by rw [fr1 1 11 (fun _ => by decide) (by decide) (by decide) (by decide) (by decide) (by decide) (by decide)]; exact h11) (by rw [c6, if_neg (by rw [h4]; decide)]) (fun j hj => by rw [fr1 2 j (fun q => by cases q) (by decide) (by decide) (by decide) (by decide) (by decide) (by decide)]; exact h2 j hj) c2 (by rw [hstep, ha4, hnd]; simp) (fun q => by cases q)
                (fun _ => ⟨p, stk, rfl, c7 (by omega), h4, by rw [c5, h4]; rfl, by rw [c4]; omega, fun j hj hk => by rw [(row9 j (by omega)).1]; exact hpf rfl j hj hk⟩)
                (fun j hj => by
                  have := hK (j + 1) (by rw [hbg]; simpa using hj)
                  rw [hbg, show p + (j + 1) = p + 1 + j by omega] at this
                  simpa using this)
              rw [hpr]
              refine ⟨s1, by rw [good _ hg, a1], a2, fun q k x1 x3 x4 x6 x7 x8 x9 => by rw [a3 q k x1 x3 x4 x6 x7 x8 x9, fr1 q k (fun h => ⟨(x1 h).1, (x1 h).2.1, (x1 h).2.2.2⟩) x3 x6 x7 x8 x4 x9], fun h => ?_, a5⟩
              obtain ⟨b1, b2, b3, b4, b5⟩ := a4 h
              simp only [if_true, if_false, Bool.false_eq_true, Nat.add_sub_cancel] at b2 b4 b5 ⊢
              exact ⟨b1, b2, b3, b4, fun j hj => by have := b5 j hj; rw [(row9 j (by omega)).1, (row9 j (by omega)).2] at this; exact this⟩
            · have h4' : ¬ kOf (t i) = 4 := by rw [← hKp]; exact h4
              have hpr : prs t (r + 1) i nd ch false = ((prs t r (i + 1) (nd + ar (kOf (t i)) - 1) (if kOf (t i) = 3 then ch + 1 else ch) false).1, (kOf (t i), if kOf (t i) = 0 then t i - 96 else if kOf (t i) = 3 then (ch : Int) else 0, (i : Int)) :: (prs t r (i + 1) (nd + ar (kOf (t i)) - 1) (if kOf (t i) = 3 then ch + 1 else ch) false).2) := by rw [prs, if_neg hbad2, if_neg h4']
              have hbg : bgn t (r + 1) i nd ch false = kOf (t i) :: bgn t r (i + 1) (nd + ar (kOf (t i)) - 1) (if kOf (t i) = 3 then ch + 1 else ch) false := by rw [bgn, if_neg hbad2, if_neg h4']
              rw [← hKp] at hpr hbg
              obtain ⟨s1, a1, a2, a3, a4, a5⟩ := ih (i + 1) (nd + ar (K p) - 1) (if K p = 3 then ch + 1 else ch) (p + 1) f false stk' s' (by omega) (by omega) (by omega) (fun _ => by omega) (by split <;> omega) (by rw [fr1 1 8 (fun _ => by decide) (by decide) (by decide) (by decide) (by decide) (by decide) (by decide)]; exact h8) (by rw [fr1 1 11 (fun _ => by decide) (by decide) (by decide) (by decide) (by decide) (by decide) (by decide)]; exact h11) c6 (fun j hj => by rw [fr1 2 j (fun q => by cases q) (by decide) (by decide) (by decide) (by decide) (by decide) (by decide)]; exact h2 j hj) c2 (by rw [hstep, hnd]; omega)
                (fun _ j hj hk => by
                  by_cases hjp : j = p
                  · subst hjp; exact absurd hk h4
                  · rw [(row9 j hjp).1]; exact hpf rfl j (by omega) hk) (fun q => by cases q)
                (fun j hj => by
                  have := hK (j + 1) (by rw [hbg]; simpa using hj)
                  rw [hbg, show p + (j + 1) = p + 1 + j by omega] at this
                  simpa using this)
              rw [hpr]
              dsimp only
              refine ⟨s1, by rw [good _ hg, a1], a2, fun q k x1 x3 x4 x6 x7 x8 x9 => by rw [a3 q k x1 x3 x4 x6 x7 x8 x9, fr1 q k (fun h => ⟨(x1 h).1, (x1 h).2.1, (x1 h).2.2.2⟩) x3 x6 x7 x8 x4 x9], fun h => ?_, a5⟩
              obtain ⟨b1, b2, b3, b4, b5⟩ := a4 h
              simp only [if_false, Bool.false_eq_true] at b2 b4 b5 ⊢
              have hl := b5 p (by omega)
              refine ⟨b1, ?_, ?_, rowsC_cons ⟨by rw [hl.1, c5], by rw [hl.2, c4]⟩ b4, fun j hj => ?_⟩
              · rw [List.length_cons, show p + ((prs t r (i + 1) (nd + ar (K p) - 1) (if K p = 3 then ch + 1 else ch) false).2.length + 1) = p + 1 + (prs t r (i + 1) (nd + ar (K p) - 1) (if K p = 3 then ch + 1 else ch) false).2.length by omega]
                exact b2
              · rw [b3]
                simp only [chs]
                congr 1
                split <;> omega
              · have := b5 j (by omega)
                rw [(row9 j (by omega)).1, (row9 j (by omega)).2] at this
                exact this
