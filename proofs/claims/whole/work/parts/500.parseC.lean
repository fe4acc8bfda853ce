/-! ===== how the class reads the text: parts that wait for others ===== -/
theorem Sub.wd {kd : Nat → Int} {k : Nat} (h : ar (kd k) = 0) : Sub kd k (k + 1) := by
  have hstep : nde kd (k + 1) = nde kd k + ar (kd k) - 1 := rfl
  refine ⟨by omega, by rw [hstep, h]; simp, fun j h1 h2 => ?_⟩
  obtain rfl : j = k := by omega
  omega
theorem Sub.un {kd : Nat → Int} {k e : Nat} (h : ar (kd k) = 1) (h1 : Sub kd (k + 1) e) : Sub kd k e := by
  have hstep : nde kd (k + 1) = nde kd k + ar (kd k) - 1 := rfl
  have e1 : nde kd (k + 1) = nde kd k := by rw [hstep, h]; simp
  refine ⟨by have := h1.1; omega, by rw [h1.2.1, e1], fun j h2 h3 => ?_⟩
  rcases Nat.eq_or_lt_of_le h2 with h4 | h4
  · subst h4; omega
  · have := h1.2.2 j h4 h3
    omega
theorem Sub.bi {kd : Nat → Int} {k m e : Nat} (h : ar (kd k) = 2) (h1 : Sub kd (k + 1) m) (h2 : Sub kd m e) : Sub kd k e := by
  have hstep : nde kd (k + 1) = nde kd k + ar (kd k) - 1 := rfl
  have e1 : nde kd (k + 1) = nde kd k + 1 := by rw [hstep, h]; simp; omega
  refine ⟨by have := h1.1; have := h2.1; omega, by rw [h2.2.1, h1.2.1, e1]; omega, fun j h3 h4 => ?_⟩
  rcases Nat.eq_or_lt_of_le h3 with h5 | h5
  · subst h5; omega
  · rcases Nat.lt_or_ge j m with h6 | h6
    · have := h1.2.2 j h5 h6
      omega
    · have := h2.2.2 j h6 h4
      have := h1.2.1
      omega
def hdI : List Nat → Int
  | [] => -1
  | o :: _ => (o : Int)
/-- each waits below the next one -/
def CH (s : SS) (K : Nat → Int) : List Nat → Prop
  | [] => True
  | [o] => o = 0 ∧ ar (K o) ≠ 0 ∧ s 6 o = -1
  | o :: o' :: r => ar (K o) ≠ 0 ∧ s 6 o = (o' : Int) ∧ ((s 8 o' = (o : Int) ∧ ar (K o') = 2 ∧ Sub K (o' + 1) o) ∨ (o = o' + 1 ∧ s 8 o' = -1)) ∧ CH s K (o' :: r)
theorem CH_lt {s : SS} {K : Nat → Int} {o o' : Nat} {r : List Nat} (h : CH s K (o :: o' :: r)) : o' < o := by
  obtain ⟨-, -, h, -⟩ := h
  rcases h with ⟨-, -, h⟩ | ⟨h, -⟩
  · have := h.1; omega
  · omega
theorem CH_ar {s : SS} {K : Nat → Int} {o : Nat} {r : List Nat} (h : CH s K (o :: r)) : ar (K o) ≠ 0 ∧ s 6 o = hdI r := by
  match r, h with
  | [], h => exact ⟨h.2.1, h.2.2⟩
  | _ :: _, h => exact ⟨h.1, h.2.1⟩
theorem CH_tail {s : SS} {K : Nat → Int} {o : Nat} {r : List Nat} (h : CH s K (o :: r)) : CH s K r := by
  match r, h with
  | [], _ => trivial
  | _ :: _, h => exact h.2.2.2
theorem CH_ext {s s' : SS} {K : Nat → Int} : ∀ (l : List Nat), (∀ o ∈ l, s' 6 o = s 6 o ∧ s' 8 o = s 8 o) → CH s K l → CH s' K l
  | [], _, _ => trivial
  | [o], h, hc => ⟨hc.1, hc.2.1, by rw [(h o List.mem_cons_self).1]; exact hc.2.2⟩
  | o :: o' :: r, h, hc => ⟨hc.1, by rw [(h o List.mem_cons_self).1]; exact hc.2.1, by rw [(h o' (List.mem_cons_of_mem _ List.mem_cons_self)).2]; exact hc.2.2.1, CH_ext (o' :: r) (fun x hx => h x (List.mem_cons_of_mem _ hx)) hc.2.2.2⟩
theorem CH_le {s : SS} {K : Nat → Int} : ∀ (o : Nat) (r : List Nat), CH s K (o :: r) → (∀ x ∈ r, x < o) ∧ r.length ≤ o
  | o, [], _ => ⟨fun x hx => (by cases hx), by simp⟩
  | o, o' :: r, h => by
      have h1 := CH_lt h
      obtain ⟨a, b⟩ := CH_le o' r (CH_tail h)
      refine ⟨fun x hx => ?_, by simp; omega⟩
      rcases List.mem_cons.mp hx with rfl | hx
      · exact h1
      · have := a x hx
        omega
/-- the last one below o is whole: it ends ahead of p -/
def LW (s : SS) (K : Nat → Int) (p o : Nat) : Prop := (ar (K o) = 1 ∧ s 7 o = ((o + 1 : Nat) : Int) ∧ Sub K (o + 1) p) ∨ (ar (K o) = 2 ∧ s 8 o = -1 ∧ Sub K (o + 1) p) ∨ ∃ e : Nat, ar (K o) = 2 ∧ s 8 o = (e : Int) ∧ Sub K (o + 1) e ∧ Sub K e p
/-- who waits, p parts being there -/
def TOP (s : SS) (K : Nat → Int) (p : Nat) : List Nat → Prop
  | [] => p = 0 ∨ Sub K 0 p
  | o :: _ => (p = o + 1 ∧ s 7 o = -1 ∧ s 8 o = -1) ∨ (ar (K o) = 2 ∧ s 7 o = ((o + 1 : Nat) : Int) ∧ s 8 o = -1 ∧ Sub K (o + 1) p)
theorem TOP_ext {s s' : SS} {K : Nat → Int} {p : Nat} : ∀ l : List Nat, (∀ x ∈ l, s' 7 x = s 7 x ∧ s' 8 x = s 8 x) → TOP s K p l → TOP s' K p l
  | [], _, h => h
  | o :: r, h, ht => by
      obtain ⟨a, b⟩ := h o List.mem_cons_self
      show (p = o + 1 ∧ s' 7 o = -1 ∧ s' 8 o = -1) ∨ (ar (K o) = 2 ∧ s' 7 o = ((o + 1 : Nat) : Int) ∧ s' 8 o = -1 ∧ Sub K (o + 1) p)
      rw [a, b]
      exact ht
theorem X0_hasPart_v (x : Int) (s : SS) : f_X0_hasPart x s = some (if 0 ≤ x ∧ x < s 1 9 ∧ x < 40 then 1 else 0) := by
  unfold f_X0_hasPart g_X0_hasPart_22 g_X0_hasPart_23
  by_cases h1 : x < 0
  · rw [if_pos h1, gb_0, if_neg (by omega)]
  · rw [if_neg h1]
    by_cases h2 : s 1 9 ≤ x
    · rw [if_pos h2, gb_0, if_neg (by omega)]
    · rw [if_neg h2]
      by_cases h3 : 40 ≤ x
      · rw [if_pos h3, gb_0, if_neg (by omega)]
      · rw [if_neg h3, gb_1, if_pos (by omega)]
theorem X0_hasTwo_v {o : Nat} {s : SS} (ho : o < 40) : f_X0_hasTwo (o : Int) s = some (if s 3 o = 1 ∨ s 3 o = 2 ∨ s 3 o = 3 then 1 else 0) := by
  unfold f_X0_hasTwo g_X0_hasTwo_30 g_X0_hasTwo_35
  rw [gx_d (by omega) (by omega), tn_c]
  by_cases h1 : s 3 o = 1
  · rw [if_pos h1, gb_1, if_pos (Or.inl h1)]
  · rw [if_neg h1, gx_d (by omega) (by omega)]
    by_cases h2 : s 3 o = 2
    · rw [if_pos h2, gb_1, if_pos (Or.inr (Or.inl h2))]
    · rw [if_neg h2, gx_d (by omega) (by omega)]
      by_cases h3 : s 3 o = 3
      · rw [if_pos h3, gb_1, if_pos (Or.inr (Or.inr h3))]
      · rw [if_neg h3, gb_0, if_neg (by rintro (h | h | h) <;> omega)]
def kinds6 (k : Int) : Prop := k = 0 ∨ k = 1 ∨ k = 2 ∨ k = 3 ∨ k = 4 ∨ k = 5
theorem ar2_iff {k : Int} (h : kinds6 k) : ar k = 2 ↔ (k = 1 ∨ k = 2 ∨ k = 3) := by
  rcases h with rfl | rfl | rfl | rfl | rfl | rfl <;> decide
theorem X0_close {K : Nat → Int} {p : Nat} (hp : p ≤ 40) : ∀ (stk : List Nat) (st f : Nat) (s : SS), st + stk.length ≤ 40 → stk.length < f → s 1 9 = (p : Int) → s 1 12 = hdI stk → (∀ o ∈ stk, o < p ∧ s 3 o = K o ∧ kinds6 (K o) ∧ (ar (K o) ≠ 0 → s 7 o = ((o + 1 : Nat) : Int))) → CH s K stk → (∀ o r, stk = o :: r → LW s K p o) → (stk = [] → Sub K 0 p) →
    ∃ stk', f_X0_closeFull_2 f (st : Int) s = some (up s 1 12 (hdI stk')) ∧ CH s K stk' ∧ TOP s K p stk' ∧ (∀ o ∈ stk', o ∈ stk) := by
  intro stk
  induction stk with
  | nil =>
    intro st f s _ hf h9 h12 _ _ _ hS
    match f, hf with
    | f + 1, _ =>
      refine ⟨[], ?_, trivial, Or.inr (hS rfl), fun o h => h⟩
      have e : up s 1 12 (hdI []) = s := by
        funext q k
        unfold up
        split
        · rename_i h
          rw [h.1, h.2, h12]
        · rfl
      show g_X0_closeFull_2 (f_X0_closeFull_2 f) _ s = _
      unfold g_X0_closeFull_2 g_X0_closeFull_77
      have e2 : (if (0 : Int) ≤ hdI [] ∧ hdI [] < s 1 9 ∧ hdI [] < 40 then (1 : Int) else 0) = 0 := if_neg (by simp [hdI])
      rw [e, h12, X0_hasPart_v, bn_t, e2, if_pos rfl]
      split <;> rfl
  | cons o r ih =>
    intro st f s hst hf h9 h12 hin hCH hLW _
    match f, hf with
    | f + 1, hf =>
      simp only [List.length_cons] at hst hf
      obtain ⟨i1, i2, i3, i4⟩ := hin o List.mem_cons_self
      obtain ⟨c1, c2⟩ := CH_ar hCH
      have self : up s 1 12 (hdI (o :: r)) = s := by
        funext q k
        unfold up
        split
        · rename_i h
          rw [h.1, h.2, h12]
        · rfl
      show ∃ stk', g_X0_closeFull_2 (f_X0_closeFull_2 f) _ s = _ ∧ _
      unfold g_X0_closeFull_2
      rw [if_neg (by omega), h12, X0_hasPart_v, bn_t]
      have e2 : (if (0 : Int) ≤ hdI (o :: r) ∧ hdI (o :: r) < s 1 9 ∧ hdI (o :: r) < 40 then (1 : Int) else 0) = 1 := if_pos (by rw [h9]; show (0 : Int) ≤ (o : Int) ∧ (o : Int) < _ ∧ (o : Int) < 40; omega)
      rw [e2, if_neg (by decide)]
      show ∃ stk', (bn (f_X0_hasTwo (o : Int) s) _) = _ ∧ _
      rw [X0_hasTwo_v (by omega), bn_t, i2]
      -- one step up
      have step : Sub K o p → ∃ stk', g_X0_closeFull_51 (f_X0_closeFull_2 f) (st : Int) (if ar (K o) = 2 then s 8 o else s 7 o) s = some (up s 1 12 (hdI stk')) ∧ CH s K stk' ∧ TOP s K p stk' ∧ (∀ o' ∈ stk', o' ∈ o :: r) ∨ (if ar (K o) = 2 then s 8 o else s 7 o) = -1 := by
        intro hso
        by_cases hz : (if ar (K o) = 2 then s 8 o else s 7 o) = -1
        · exact ⟨[], Or.inr hz⟩
        · have g : ∀ q k, (q = 1 → k ≠ 12) → (up s 1 12 (s 6 o)) q k = s q k := by
            intro q k h
            by_cases hq : q = 1
            · subst hq; exact up_k (h rfl)
            · exact up_q hq
          obtain ⟨stk', a1, a2, a3, a4⟩ := ih (st + 1) f (up s 1 12 (s 6 o)) (by omega) (by omega) (by rw [g 1 9 (fun _ => by decide)]; exact h9) (by rw [up_s, c2])
            (fun o' ho' => by rw [g 3 o' (fun h => by cases h), g 7 o' (fun h => by cases h)]; exact hin o' (List.mem_cons_of_mem _ ho'))
            (CH_ext r (fun o' _ => ⟨g 6 o' (fun h => by cases h), g 8 o' (fun h => by cases h)⟩) (CH_tail hCH))
            (fun o' r' hr => by
              subst hr
              have hL : LW s K p o' := by
                have hlink := hCH.2.2.1
                obtain ⟨j1, j2, j3, j4⟩ := hin o' (List.mem_cons_of_mem _ List.mem_cons_self)
                rcases hlink with ⟨l1, l2, l3⟩ | ⟨l1, l2⟩
                · exact Or.inr (Or.inr ⟨o, l2, l1, l3, hso⟩)
                · rw [l1] at hso
                  have hne := (CH_ar (CH_tail hCH)).1
                  rcases ar_3 (K o') with h | h | h
                  · exact absurd h hne
                  · exact Or.inl ⟨h, j4 hne, hso⟩
                  · exact Or.inr (Or.inl ⟨h, l2, hso⟩)
              unfold LW at hL ⊢
              rw [g 7 o' (fun h => by cases h), g 8 o' (fun h => by cases h)]
              exact hL)
            (fun hr => by
              subst hr
              obtain ⟨h0, -, -⟩ := hCH
              subst h0
              exact hso)
          refine ⟨stk', Or.inl ⟨?_, ?_, ?_, fun o' ho' => List.mem_cons_of_mem _ (a4 o' ho')⟩⟩
          · unfold g_X0_closeFull_51
            rw [if_neg hz, h12]
            show (gx (o : Int) 40 _) = _
            rw [gx_d (by omega) (by omega), sb_t, sb_t, wr_t (by omega) (by omega), show (st : Int) + 1 = ((st + 1 : Nat) : Int) by omega]
            show f_X0_closeFull_2 f _ (up s 1 12 (s 6 o)) = _
            rw [a1]
            congr 1
            funext q k
            unfold up
            split <;> rfl
          · exact CH_ext stk' (fun o' _ => ⟨(g 6 o' (fun h => by cases h)).symm, (g 8 o' (fun h => by cases h)).symm⟩) a2
          · exact TOP_ext stk' (fun o' _ => ⟨(g 7 o' (fun h => by cases h)).symm, (g 8 o' (fun h => by cases h)).symm⟩) a3
      have hif : (if (if K o = 1 ∨ K o = 2 ∨ K o = 3 then (1 : Int) else 0) = 0 then gx (s 1 12) 40 (g_X0_closeFull_51 (f_X0_closeFull_2 f) (st : Int) (s 7 (s 1 12).toNat) s) else gx (s 1 12) 40 (g_X0_closeFull_51 (f_X0_closeFull_2 f) (st : Int) (s 8 (s 1 12).toNat) s)) = g_X0_closeFull_51 (f_X0_closeFull_2 f) (st : Int) (if ar (K o) = 2 then s 8 o else s 7 o) s := by
        rw [h12]
        show (if _ then gx (o : Int) 40 _ else gx (o : Int) 40 _) = _
        by_cases h2 : K o = 1 ∨ K o = 2 ∨ K o = 3
        · rw [if_pos h2, if_neg (by decide), gx_d (by omega) (by omega), if_pos ((ar2_iff i3).mpr h2)]
          rfl
        · rw [if_neg h2, if_pos rfl, gx_d (by omega) (by omega), if_neg (fun q => h2 ((ar2_iff i3).mp q))]
          rfl
      rw [h12] at hif
      have hif' := hif
      rw [show (hdI (o :: r)) = (o : Int) from rfl] at hif'
      show ∃ stk', (if (if K o = 1 ∨ K o = 2 ∨ K o = 3 then (1 : Int) else 0) = 0 then gx (o : Int) 40 (g_X0_closeFull_51 (f_X0_closeFull_2 f) (st : Int) (s 7 ((o : Int)).toNat) s) else gx (o : Int) 40 (g_X0_closeFull_51 (f_X0_closeFull_2 f) (st : Int) (s 8 ((o : Int)).toNat) s)) = _ ∧ _
      rw [hif']
      rcases hLW o r rfl with ⟨h, h7, hs⟩ | ⟨h, h8, hs⟩ | ⟨e, h, h8, hs1, hs2⟩
      · obtain ⟨stk', hh | hh⟩ := step (Sub.un h hs)
        · exact ⟨stk', hh⟩
        · rw [if_neg (by omega), h7] at hh
          omega
      · refine ⟨o :: r, ?_, hCH, Or.inr ⟨h, i4 (by omega), h8, hs⟩, fun o' ho' => ho'⟩
        unfold g_X0_closeFull_51 g_X0_closeFull_57
        rw [if_pos h, if_pos h8, self]
      · obtain ⟨stk', hh | hh⟩ := step (Sub.bi h hs1 hs2)
        · exact ⟨stk', hh⟩
        · rw [if_pos h, h8] at hh
          omega
