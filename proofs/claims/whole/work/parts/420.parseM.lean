/-! ===== the text's parts; how the model reads them ===== -/
def kOf (b : Int) : Int := if 97 ≤ b ∧ b ≤ 105 then 0 else if b = 72 then 1 else if b = 86 then 2 else if b = 67 then 3 else if b = 78 then 4 else if b = 70 then 5 else -1
abbrev Pt : Type := Int × Int × Int
/-- r bytes from i on, nd wanted, ch choices so far; whether a figure is wanted: where it goes wrong (or -1), its parts -/
def prs (t : Nat → Int) : Nat → Nat → Nat → Nat → Bool → Int × List Pt
  | 0, i, nd, _, p => (if nd = 0 ∧ p = false then -1 else (i : Int), [])
  | r + 1, i, nd, ch, true => if 49 ≤ t i ∧ t i ≤ 57 then ((prs t r (i + 1) nd ch false).1, (4, t i - 48, (i : Int) - 1) :: (prs t r (i + 1) nd ch false).2) else ((i : Int), [])
  | r + 1, i, nd, ch, false => if nd = 0 ∨ kOf (t i) = -1 ∨ (kOf (t i) = 3 ∧ ch = 6) then ((i : Int), [])
      else if kOf (t i) = 4 then prs t r (i + 1) nd ch true
      else ((prs t r (i + 1) (nd + ar (kOf (t i)) - 1) (if kOf (t i) = 3 then ch + 1 else ch) false).1, (kOf (t i), if kOf (t i) = 0 then t i - 96 else if kOf (t i) = 3 then (ch : Int) else 0, (i : Int)) :: (prs t r (i + 1) (nd + ar (kOf (t i)) - 1) (if kOf (t i) = 3 then ch + 1 else ch) false).2)
theorem X7_kindOf_v (b : Int) : f_X7_kindOf b = some (kOf b) := by
  unfold f_X7_kindOf g_X7_kindOf_66 kOf
  rw [X7_in_v, bn_t]
  by_cases h : 97 ≤ b ∧ b ≤ 105
  · rw [if_pos h, if_pos h, if_neg (by decide)]
  · rw [if_neg h, if_neg h, if_pos rfl]
    split
    · rfl
    · split
      · rfl
      · split
        · rfl
        · split
          · rfl
          · split <;> rfl
theorem X7_twofold_v (k : Int) : f_X7_isTwofold k = some (if 1 ≤ k ∧ k ≤ 3 then 1 else 0) := by
  unfold f_X7_isTwofold
  rw [X7_in_v, bn_t]
  split
  · rw [gb_1]
  · rw [gb_0]
theorem kOf_c (b : Int) : kOf b = -1 ∨ (kOf b = 0 ∧ 97 ≤ b ∧ b ≤ 105) ∨ kOf b = 1 ∨ kOf b = 2 ∨ kOf b = 3 ∨ kOf b = 4 ∨ kOf b = 5 := by
  unfold kOf
  split
  · exact Or.inr (Or.inl ⟨rfl, by omega, by omega⟩)
  · split
    · simp
    · split
      · simp
      · split
        · simp
        · split
          · simp
          · split <;> simp
section RT
variable {k25 : Int → Int → SS → Option (Int × SS)} {nd i p ch n : Nat} {s : SS}
/-- a part's rows, as they are written -/
def wP (s : SS) (p i : Nat) (k num ch' : Int) : SS := up (up (up (up (up s 2 p k) 4 p i) 3 p num) 0 5 ch') 0 4 ((p : Int) + 1)
theorem gx_d {β : Type} {i : Int} {n : Nat} {x : Option β} (h1 : 0 ≤ i) (h2 : i < n) : gx i n x = x := if_pos ⟨h1, h2⟩
theorem rT_0 (hs4 : s 0 4 = p) (hs5 : s 0 5 = ch) (hp : p < 40) (hi : i < 40) (hnd : nd ≤ 1000) (hch : ch ≤ 6) (hb : 97 ≤ s 1 i ∧ s 1 i ≤ 105) : g_X7_readsText_68 k25 nd i 0 s = k25 ((nd : Int) - 1) ((i : Int) + 1) (wP s p i 0 (s 1 i - 96) ch) := by
  unfold g_X7_readsText_68 g_X7_readsText_127 g_X7_readsText_143 g_X7_readsText_168 g_X7_readsText_228
  simp (disch := omega) [sb_t, hs4, hs5, up_q, up_k, gx_d, wr_t, up_s]
  unfold wP
  rw [show s 1 i - 97 + 1 = s 1 i - 96 by omega]
  rfl
theorem rT_12 {k : Int} (hk : k = 1 ∨ k = 2) (hs4 : s 0 4 = p) (hs5 : s 0 5 = ch) (hp : p < 40) (hi : i < 40) (hnd : nd ≤ 1000) (hch : ch ≤ 6) : g_X7_readsText_68 k25 nd i k s = k25 ((nd : Int) + 1) ((i : Int) + 1) (wP s p i k 0 ch) := by
  unfold g_X7_readsText_68 g_X7_readsText_127 g_X7_readsText_143 g_X7_readsText_168 g_X7_readsText_228
  rcases hk with rfl | rfl <;> (simp (disch := omega) [sb_t, hs4, hs5, up_q, up_k, gx_d, wr_t, up_s, X7_twofold_v, bn_t]; rfl)
theorem rT_3 (hs4 : s 0 4 = p) (hs5 : s 0 5 = ch) (hp : p < 40) (hi : i < 40) (hnd : nd ≤ 1000) (hch : ch ≤ 6) : g_X7_readsText_68 k25 nd i 3 s = k25 ((nd : Int) + 1) ((i : Int) + 1) (wP s p i 3 ch ((ch : Int) + 1)) := by
  unfold g_X7_readsText_68 g_X7_readsText_127 g_X7_readsText_143 g_X7_readsText_168 g_X7_readsText_228
  simp (disch := omega) [sb_t, hs4, hs5, up_q, up_k, gx_d, wr_t, up_s, X7_twofold_v, bn_t]
  rfl
theorem rT_5 (hs4 : s 0 4 = p) (hs5 : s 0 5 = ch) (hp : p < 40) (hi : i < 40) (hnd : nd ≤ 1000) (hch : ch ≤ 6) : g_X7_readsText_68 k25 nd i 5 s = k25 (nd : Int) ((i : Int) + 1) (wP s p i 5 0 ch) := by
  unfold g_X7_readsText_68 g_X7_readsText_127 g_X7_readsText_143 g_X7_readsText_168 g_X7_readsText_228
  simp (disch := omega) [sb_t, hs4, hs5, up_q, up_k, gx_d, wr_t, up_s, X7_twofold_v, bn_t]
  rfl
/-- the rows of a part that is pushed, ahead of its figure -/
def wQ (s : SS) (p i : Nat) (ch : Int) : SS := up (up (up (up s 2 p 4) 4 p i) 3 p 0) 0 5 ch
theorem rT_4 (hs0 : s 0 0 = n) (hs4 : s 0 4 = p) (hs5 : s 0 5 = ch) (hp : p < 40) (hi : i < 40) (hn : n ≤ 40) (hnd : nd ≤ 1000) (hch : ch ≤ 6) (hR : ∀ j, j < n → 0 ≤ s 1 j ∧ s 1 j ≤ 255) : g_X7_readsText_68 k25 nd i 4 s = if i + 1 < n ∧ 49 ≤ s 1 (i + 1) ∧ s 1 (i + 1) ≤ 57 then k25 (nd : Int) ((i : Int) + 2) (up (up (wQ s p i ch) 3 p (s 1 (i + 1) - 48)) 0 4 ((p : Int) + 1)) else some ((i : Int) + 1, wQ s p i ch) := by
  unfold g_X7_readsText_68 g_X7_readsText_127 g_X7_readsText_143 g_X7_readsText_168 g_X7_readsText_228 g_X7_readsText_199 g_X7_readsText_212
  simp (disch := omega) [sb_t, hs4, hs5, hs0, up_q, up_k, gx_d, wr_t, up_s, X7_twofold_v, bn_t, X7_in_v]
  by_cases hin : i + 1 < n
  · have h1 := hR (i + 1) hin
    rw [if_neg (by omega), wr_t (by omega) (by omega)]
    by_cases h2 : 49 ≤ s 1 (i + 1) ∧ s 1 (i + 1) ≤ 57
    · rw [if_neg (by omega), if_pos ⟨hin, h2⟩]
      unfold g_X7_readsText_228
      simp (disch := omega) [sb_t, hs4, up_q, up_k, up_s, wr_t]
      rfl
    · rw [if_pos (by omega), if_neg (fun h => h2 h.2)]
      rfl
  · rw [if_pos (by omega), if_neg (fun h => hin h.1)]
    rfl
/-- what reading the text leaves as it was -/
def frR (s s' : SS) : Prop := ∀ q k, (q = 0 → k ≠ 4 ∧ k ≠ 5) → q ≠ 2 → q ≠ 3 → q ≠ 4 → s' q k = s q k
/-- the rows of the parts from p on -/
def rows (s : SS) (p : Nat) (P : List Pt) : Prop := ∀ j, j < P.length → s 2 (p + j) = (P.getD j (0, 0, 0)).1 ∧ s 3 (p + j) = (P.getD j (0, 0, 0)).2.1 ∧ s 4 (p + j) = (P.getD j (0, 0, 0)).2.2
def chs : List Pt → Nat
  | [] => 0
  | x :: t => (if x.1 = 3 then 1 else 0) + chs t
theorem frR_wP {s s' : SS} {p i : Nat} {k num ch' : Int} (h : frR (wP s p i k num ch') s') : frR s s' := by
  intro q k2 h0 h2 h3 h4
  rw [h q k2 h0 h2 h3 h4]
  unfold wP
  by_cases hq : q = 0
  · subst hq
    rw [up_k (h0 rfl).1, up_k (h0 rfl).2, up_q (by decide), up_q (by decide), up_q (by decide)]
  · rw [up_q hq, up_q hq, up_q h3, up_q h4, up_q h2]
/-- below p the rows stay -/
def low (s s' : SS) (p : Nat) : Prop := ∀ j, j < p → s' 2 j = s 2 j ∧ s' 3 j = s 3 j ∧ s' 4 j = s 4 j
theorem low_wP {s s' : SS} {p i : Nat} {k num ch' : Int} (h : low (wP s p i k num ch') s' (p + 1)) : low s s' p ∧ s' 2 p = k ∧ s' 3 p = num ∧ s' 4 p = i := by
  refine ⟨fun j hj => ?_, ?_⟩
  · obtain ⟨a, b, c⟩ := h j (by omega)
    rw [a, b, c]
    unfold wP
    have hjp : j ≠ p := by omega
    refine ⟨?_, ?_, ?_⟩
    · rw [up_q (by decide), up_q (by decide), up_q (by decide), up_q (by decide), up_k hjp]
    · rw [up_q (by decide), up_q (by decide), up_k hjp, up_q (by decide), up_q (by decide)]
    · rw [up_q (by decide), up_q (by decide), up_q (by decide), up_k hjp, up_q (by decide)]
  · obtain ⟨a, b, c⟩ := h p (by omega)
    rw [a, b, c]
    unfold wP
    refine ⟨?_, ?_, ?_⟩
    · rw [up_q (by decide), up_q (by decide), up_q (by decide), up_q (by decide), up_s]
    · rw [up_q (by decide), up_q (by decide), up_s]
    · rw [up_q (by decide), up_q (by decide), up_q (by decide), up_s]
theorem rows_cons {s : SS} {p : Nat} {x : Pt} {P : List Pt} (h1 : s 2 p = x.1 ∧ s 3 p = x.2.1 ∧ s 4 p = x.2.2) (h : rows s (p + 1) P) : rows s p (x :: P) := by
  intro j hj
  match j, hj with
  | 0, _ => exact h1
  | j + 1, hj =>
    have := h j (by simpa using hj)
    rw [show p + (j + 1) = p + 1 + j by omega]
    simpa using this
theorem rT_all (n : Nat) (hn : n ≤ 40) : ∀ (r i nd ch p f : Nat) (s : SS), i + r = n → r < f → p ≤ i → nd ≤ 1000 - 10 * r → ch ≤ 6 → s 0 0 = n → s 0 4 = p → s 0 5 = ch → (∀ j, j < n → 0 ≤ s 1 j ∧ s 1 j ≤ 255) →
    ∃ s', f_X7_readsText_25 f nd i s = some ((prs (s 1) r i nd ch false).1, s') ∧ frR s s' ∧ low s s' p ∧ ((prs (s 1) r i nd ch false).1 = -1 → s' 0 4 = p + (prs (s 1) r i nd ch false).2.length ∧ s' 0 5 = ch + chs (prs (s 1) r i nd ch false).2 ∧ rows s' p (prs (s 1) r i nd ch false).2) := by
  intro r
  induction r using Nat.strongRecOn with
  | ind r ih =>
    intro i nd ch p f s hir hf hp hnd hch hs0 hs4 hs5 hb
    match f, hf with
    | 0, hf => omega
    | f + 1, hf =>
      show ∃ s', g_X7_readsText_25 (f_X7_readsText_25 f) nd i s = _ ∧ _
      unfold g_X7_readsText_25
      match r, ih, hir, hf, hnd with
      | 0, ih, hir, hf, hnd =>
        rw [if_pos (by omega)]
        unfold g_X7_readsText_241 g_X7_readsText_253
        refine ⟨s, ?_, fun _ _ _ _ _ _ => rfl, fun _ _ => ⟨rfl, rfl, rfl⟩, fun h => ?_⟩
        · by_cases h0 : nd = 0
          · simp [prs, h0]
          · rw [if_neg (by omega), hs0]
            simp [prs, h0]
            omega
        · have : (prs (s 1) 0 i nd ch false).2 = [] := rfl
          rw [this]
          refine ⟨by rw [hs4]; simp, by rw [hs5]; simp [chs], fun j hj => by simp at hj⟩
      | r + 1, ih, hir, hf, hnd =>
        rw [if_neg (by omega), gx_d (by omega) (by omega), tn_c, X7_kindOf_v, bn_t]
        unfold g_X7_readsText_66
        by_cases hbad : nd = 0 ∨ kOf (s 1 i) = -1 ∨ (kOf (s 1 i) = 3 ∧ ch = 6)
        · have e : prs (s 1) (r + 1) i nd ch false = ((i : Int), []) := by rw [prs, if_pos hbad]
          rw [e]
          refine ⟨s, ?_, fun _ _ _ _ _ _ => rfl, fun _ _ => ⟨rfl, rfl, rfl⟩, fun h => ?_⟩
          · rcases hbad with h | h | h
            · rw [if_pos (by omega)]
            · by_cases h0 : nd = 0
              · rw [if_pos (by omega)]
              · rw [if_neg (by omega), if_pos h]
            · by_cases h0 : nd = 0
              · rw [if_pos (by omega)]
              · rw [if_neg (by omega), if_neg (by omega), if_pos h.1, if_pos (by rw [hs5, h.2]; rfl)]
          · dsimp only at h; omega
        · have n0 : nd ≠ 0 := fun h => hbad (Or.inl h)
          have n1 : kOf (s 1 i) ≠ -1 := fun h => hbad (Or.inr (Or.inl h))
          have e68 : (if (nd : Int) = 0 then some ((i : Int), s) else if kOf (s 1 i) = -1 then some ((i : Int), s) else if kOf (s 1 i) = 3 then (if s 0 5 = 6 then some ((i : Int), s) else g_X7_readsText_68 (f_X7_readsText_25 f) nd i (kOf (s 1 i)) s) else g_X7_readsText_68 (f_X7_readsText_25 f) nd i (kOf (s 1 i)) s) = g_X7_readsText_68 (f_X7_readsText_25 f) nd i (kOf (s 1 i)) s := by
            rw [if_neg (by omega), if_neg n1]
            by_cases h3 : kOf (s 1 i) = 3
            · rw [if_pos h3, if_neg (fun h => hbad (Or.inr (Or.inr ⟨h3, by omega⟩)))]
            · rw [if_neg h3]
          rw [e68]
          clear e68
          have p40 : p < 40 := by omega
          have i40 : i < 40 := by omega
          have fin : ∀ (k num : Int) (nd' ch2 : Nat), nd' ≤ nd + 1 → ch2 ≤ 6 → ch2 = (if k = 3 then 1 else 0) + ch → prs (s 1) (r + 1) i nd ch false = ((prs (s 1) r (i + 1) nd' ch2 false).1, (k, num, (i : Int)) :: (prs (s 1) r (i + 1) nd' ch2 false).2) → g_X7_readsText_68 (f_X7_readsText_25 f) nd i (kOf (s 1 i)) s = f_X7_readsText_25 f nd' ((i : Int) + 1) (wP s p i k num ch2) →
              ∃ s', g_X7_readsText_68 (f_X7_readsText_25 f) nd i (kOf (s 1 i)) s = some ((prs (s 1) (r + 1) i nd ch false).1, s') ∧ frR s s' ∧ low s s' p ∧ ((prs (s 1) (r + 1) i nd ch false).1 = -1 → s' 0 4 = p + (prs (s 1) (r + 1) i nd ch false).2.length ∧ s' 0 5 = ch + chs (prs (s 1) (r + 1) i nd ch false).2 ∧ rows s' p (prs (s 1) (r + 1) i nd ch false).2) := by
            intro k num nd' ch2 hnd' hch2 hchk he hg
            have e1 : (wP s p i k num ch2) 1 = s 1 := by
              funext j
              unfold wP
              rw [up_q (by decide), up_q (by decide), up_q (by decide), up_q (by decide), up_q (by decide)]
            obtain ⟨s', a1, a2, a3, a4⟩ := ih r (by omega) (i + 1) nd' ch2 (p + 1) f (wP s p i k num ch2) (by omega) (by omega) (by omega) (by omega) hch2 (by unfold wP; rw [up_k (by decide), up_k (by decide), up_q (by decide), up_q (by decide), up_q (by decide)]; exact hs0) (by unfold wP; rw [up_s]; simp) (by unfold wP; rw [up_k (by decide), up_s]) (by rw [e1]; exact hb)
            rw [e1] at a1 a4
            refine ⟨s', ?_, frR_wP a2, (low_wP a3).1, fun h => ?_⟩
            · rw [hg, he, show (i : Int) + 1 = ((i + 1 : Nat) : Int) by omega, a1]
            · rw [he] at h ⊢
              obtain ⟨b1, b2, b3⟩ := a4 h
              refine ⟨?_, ?_, rows_cons (low_wP a3).2 b3⟩
              · rw [b1, List.length_cons]; omega
              · rw [b2, chs, hchk]; dsimp only; split <;> omega
          rcases kOf_c (s 1 i) with h | ⟨h, hb1⟩ | h | h | h | h | h
          · exact absurd h n1
          · refine fin 0 (s 1 i - 96) (nd - 1) ch (by omega) hch (by simp) ?_ ?_
            · rw [prs, if_neg hbad, if_neg (by omega)]
              simp [h, ar]
            · rw [h, rT_0 hs4 hs5 p40 i40 (by omega) hch hb1, show (nd : Int) - 1 = ((nd - 1 : Nat) : Int) by omega]
          · refine fin 1 0 (nd + 1) ch (by omega) hch (by simp) ?_ ?_
            · rw [prs, if_neg hbad, if_neg (by omega)]
              simp [h, ar]
            · rw [h, rT_12 (Or.inl rfl) hs4 hs5 p40 i40 (by omega) hch]
              rfl
          · refine fin 2 0 (nd + 1) ch (by omega) hch (by simp) ?_ ?_
            · rw [prs, if_neg hbad, if_neg (by omega)]
              simp [h, ar]
            · rw [h, rT_12 (Or.inr rfl) hs4 hs5 p40 i40 (by omega) hch]
              rfl
          · have hc6 : ch ≠ 6 := fun q => hbad (Or.inr (Or.inr ⟨h, q⟩))
            refine fin 3 ch (nd + 1) (ch + 1) (by omega) (by omega) (by simp; omega) ?_ ?_
            · rw [prs, if_neg hbad, if_neg (by omega)]
              simp [h, ar]
            · rw [h, rT_3 hs4 hs5 p40 i40 (by omega) hch]
              rfl
          · rw [h, rT_4 hs0 hs4 hs5 p40 i40 hn (by omega) hch hb]
            have e4 : prs (s 1) (r + 1) i nd ch false = prs (s 1) r (i + 1) nd ch true := by rw [prs, if_neg hbad, if_pos h]
            rw [e4]
            have frQ : frR s (wQ s p i ch) := by
              intro q k2 h0 h2 h3 h4
              unfold wQ
              by_cases hq : q = 0
              · subst hq
                rw [up_k (h0 rfl).2, up_q (by decide), up_q (by decide), up_q (by decide)]
              · rw [up_q hq, up_q h3, up_q h4, up_q h2]
            have lowQ : low s (wQ s p i ch) p := by
              intro j hj
              have hjp : j ≠ p := by omega
              unfold wQ
              refine ⟨?_, ?_, ?_⟩
              · rw [up_q (by decide), up_q (by decide), up_q (by decide), up_k hjp]
              · rw [up_q (by decide), up_k hjp, up_q (by decide), up_q (by decide)]
              · rw [up_q (by decide), up_q (by decide), up_k hjp, up_q (by decide)]
            match r, ih, hir, hf, hnd with
            | 0, ih, hir, hf, hnd =>
              rw [if_neg (by omega)]
              refine ⟨_, ?_, frQ, lowQ, fun hh => ?_⟩
              · rw [prs]
                simp
              · rw [prs] at hh
                simp at hh
                omega
            | r + 1, ih, hir, hf, hnd =>
              by_cases hfig : 49 ≤ s 1 (i + 1) ∧ s 1 (i + 1) ≤ 57
              · rw [if_pos ⟨by omega, hfig⟩, prs, if_pos hfig, show i + 1 + 1 = i + 2 from rfl]
                have e1 : (up (up (wQ s p i ch) 3 p (s 1 (i + 1) - 48)) 0 4 ((p : Int) + 1)) 1 = s 1 := by
                  funext j
                  unfold wQ
                  rw [up_q (by decide), up_q (by decide), up_q (by decide), up_q (by decide), up_q (by decide), up_q (by decide)]
                have eq3 : up (up (wQ s p i ch) 3 p (s 1 (i + 1) - 48)) 0 4 ((p : Int) + 1) = wP s p i 4 (s 1 (i + 1) - 48) ch := by
                  funext q k2
                  unfold wQ wP up
                  repeat' split
                  all_goals (try rfl)
                  all_goals omega
                rw [eq3] at e1 ⊢
                obtain ⟨s', a1, a2, a3, a4⟩ := ih r (by omega) (i + 2) nd ch (p + 1) f (wP s p i 4 (s 1 (i + 1) - 48) ch) (by omega) (by omega) (by omega) (by omega) hch (by unfold wP; rw [up_k (by decide), up_k (by decide), up_q (by decide), up_q (by decide), up_q (by decide)]; exact hs0) (by unfold wP; rw [up_s]; simp) (by unfold wP; rw [up_k (by decide), up_s]) (by rw [e1]; exact hb)
                rw [e1] at a1 a4
                refine ⟨s', ?_, frR_wP a2, (low_wP a3).1, fun hh => ?_⟩
                · rw [show (i : Int) + 2 = ((i + 2 : Nat) : Int) by omega, a1]
                · obtain ⟨b1, b2, b3⟩ := a4 hh
                  have e5 := (low_wP a3).2
                  refine ⟨?_, ?_, rows_cons ⟨e5.1, e5.2.1, by rw [e5.2.2]; dsimp only; omega⟩ b3⟩
                  · rw [b1]; dsimp only; rw [List.length_cons]; omega
                  · rw [b2]; simp [chs]
              · rw [if_neg (fun q => hfig q.2), prs, if_neg hfig]
                refine ⟨_, rfl, frQ, lowQ, fun hh => ?_⟩
                dsimp only at hh
                omega
          · refine fin 5 0 nd ch (by omega) hch (by simp) ?_ ?_
            · rw [prs, if_neg hbad, if_neg (by omega)]
              simp [h, ar]
            · rw [h, rT_5 hs4 hs5 p40 i40 (by omega) hch]
end RT
