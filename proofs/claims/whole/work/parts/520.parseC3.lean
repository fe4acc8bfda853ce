/-! ===== the class reads the text ===== -/
theorem CIp_of {s z : SS} {K : Nat → Int} {p : Nat} {stk : List Nat} (h : CI s K p stk) (hk : kinds6 (K p)) (hn : 1 ≤ nde K p) (z9 : z 1 9 = ((p + 1 : Nat) : Int)) (z12 : z 1 12 = s 1 12) (zo : ∀ j, j ≠ p → z 3 j = s 3 j ∧ z 6 j = s 6 j ∧ z 7 j = s 7 j ∧ z 8 j = s 8 j) (z3 : z 3 p = K p) (z6 : z 6 p = s 1 12) (z7 : z 7 p = -1) (z8 : z 8 p = -1) : CIp z K p stk := by
  obtain ⟨h9, h12, hK, hin, hCH, hT, hF, hS, hA⟩ := h
  have ne : ∀ o ∈ stk, o ≠ p := fun o ho => by have := hin o ho; omega
  refine ⟨z9, by rw [z12, h12], fun j hj => ?_, hin, CH_ext stk (fun o ho => ⟨(zo o (ne o ho)).2.1, (zo o (ne o ho)).2.2.2⟩) hCH, TOP_ext stk (fun o ho => ⟨(zo o (ne o ho)).2.2.1, (zo o (ne o ho)).2.2.2⟩) hT, fun j hj => ?_, fun j hj => ?_, ⟨fun q => ?_, fun j j0 j1 => ?_⟩, by rw [z6, h12], z7, z8⟩
  · by_cases hjp : j = p
    · subst hjp; exact ⟨z3, hk, hn⟩
    · rw [(zo j hjp).1]; exact hK j (by omega)
  · rw [(zo j (by omega)).2.2.1]; exact hF j hj
  · rw [(zo j (by omega)).2.2.2]; exact hS j hj
  · rw [(zo 0 (by omega)).2.1]; exact hA.1 q
  · rw [(zo j (by omega)).2.1]; exact hA.2 j j0 j1
/-- what the reading of one byte may change -/
def frG (p : Nat) (s s' : SS) : Prop := ∀ q k, (q = 1 → k ≠ 9 ∧ k ≠ 10 ∧ k ≠ 12) → q ≠ 3 → q ≠ 6 → q ≠ 7 → q ≠ 8 → (q = 4 → k ≠ p) → (q = 9 → k ≠ p) → s' q k = s q k
theorem X0_begin_v {s : SS} {K : Nat → Int} {p i ch : Nat} {stk : List Nat} {b : Int} (hp : p < 40) (hi : i < 40) (h : CI s K p stk) (h10 : s 1 10 = (ch : Int)) (hch : ch < 6 ∨ (ch = 6 ∧ K p ≠ 3)) (hk : kinds6 (K p)) (hn : 1 ≤ nde K p) (hne : stk = [] → p = 0) (hb : K p = 0 → 97 ≤ b ∧ b ≤ 105) :
    ∃ s' stk', f_X0_begin (i : Int) (K p) b s = some s' ∧ CI s' K (p + 1) stk' ∧ frG p s s' ∧ s' 4 p = (i : Int) ∧ s' 9 p = (if K p = 0 then b - 96 else if K p = 3 then (ch : Int) else 0) ∧ s' 1 10 = ((if K p = 3 then ch + 1 else ch : Nat) : Int) ∧ (ar (K p) ≠ 0 → stk' = p :: stk) := by
  have h9 := h.1
  have fin : ∀ z : SS, f_X0_begin (i : Int) (K p) b s = g_X0_begin_110 (K p) (p : Int) z → CIp z K p stk → (∀ q k, (q = 1 → k ≠ 9 ∧ k ≠ 10) → q ≠ 3 → q ≠ 6 → q ≠ 7 → q ≠ 8 → (q = 4 → k ≠ p) → (q = 9 → k ≠ p) → z q k = s q k) → z 4 p = (i : Int) → z 9 p = (if K p = 0 then b - 96 else if K p = 3 then (ch : Int) else 0) → z 1 10 = ((if K p = 3 then ch + 1 else ch : Nat) : Int) → ∃ s' stk', f_X0_begin (i : Int) (K p) b s = some s' ∧ CI s' K (p + 1) stk' ∧ frG p s s' ∧ s' 4 p = (i : Int) ∧ s' 9 p = (if K p = 0 then b - 96 else if K p = 3 then (ch : Int) else 0) ∧ s' 1 10 = ((if K p = 3 then ch + 1 else ch : Nat) : Int) ∧ (ar (K p) ≠ 0 → stk' = p :: stk) := by
    intro z e hz zf z4 z9 z10
    obtain ⟨s', stk', a1, a2, a3, a4⟩ := X0_begin_110 hp hz hne
    refine ⟨s', stk', by rw [e, a1], a2, fun q k x1 x3 x6 x7 x8 x4 x9 => by rw [a3 q k (fun q => (x1 q).2.2) x7 x8]; exact zf q k (fun q => ⟨(x1 q).1, (x1 q).2.1⟩) x3 x6 x7 x8 x4 x9, ?_, ?_, ?_, a4⟩
    · rw [a3 4 p (fun q => by cases q) (by decide) (by decide)]; exact z4
    · rw [a3 9 p (fun q => by cases q) (by decide) (by decide)]; exact z9
    · rw [a3 1 10 (fun _ => by decide) (by decide) (by decide)]; exact z10
  have unf : f_X0_begin (i : Int) (K p) b s = (if K p = 0 then g_X0_begin_84 (K p) (p : Int) (up (up (up (up (up (up (up (up s 1 9 ((p : Int) + 1)) 3 p (K p)) 4 p i) 6 p (s 1 12)) 7 p (-1)) 8 p (-1)) 9 p 0) 9 p (wr (wr (b - 97) + 1))) else g_X0_begin_84 (K p) (p : Int) (up (up (up (up (up (up (up s 1 9 ((p : Int) + 1)) 3 p (K p)) 4 p i) 6 p (s 1 12)) 7 p (-1)) 8 p (-1)) 9 p 0)) := by
    unfold f_X0_begin
    simp only [sb_t, h9]
    rw [wr_t (a := (p : Int) + 1) (by omega) (by omega)]
    simp only [tn_c]
    rw [gx_d (by omega) (by omega), gx_d (by omega) (by omega), gx_d (by omega) (by omega), gx_d (by omega) (by omega), gx_d (by omega) (by omega), gx_d (by omega) (by omega), gx_d (by omega) (by omega)]
    rw [show (up (up (up s 1 9 ((p : Int) + 1)) 3 p (K p)) 4 p (i : Int)) 1 12 = s 1 12 by rw [up_q (by decide), up_q (by decide), up_k (by decide)]]
  generalize hz : up (up (up (up (up (up (up s 1 9 ((p : Int) + 1)) 3 p (K p)) 4 p (i : Int)) 6 p (s 1 12)) 7 p (-1)) 8 p (-1)) 9 p 0 = z at unf
  have b9 : z 1 9 = ((p + 1 : Nat) : Int) := by rw [← hz, up_q (by decide), up_q (by decide), up_q (by decide), up_q (by decide), up_q (by decide), up_q (by decide), up_s]; omega
  have b1 : ∀ k, k ≠ 9 → z 1 k = s 1 k := fun k hk => by rw [← hz, up_q (by decide), up_q (by decide), up_q (by decide), up_q (by decide), up_q (by decide), up_q (by decide), up_k hk]
  have b3 : z 3 p = K p := by rw [← hz, up_q (by decide), up_q (by decide), up_q (by decide), up_q (by decide), up_q (by decide), up_s]
  have b4 : z 4 p = (i : Int) := by rw [← hz, up_q (by decide), up_q (by decide), up_q (by decide), up_q (by decide), up_s]
  have b6 : z 6 p = s 1 12 := by rw [← hz, up_q (by decide), up_q (by decide), up_q (by decide), up_s]
  have b7 : z 7 p = -1 := by rw [← hz, up_q (by decide), up_q (by decide), up_s]
  have b8 : z 8 p = -1 := by rw [← hz, up_q (by decide), up_s]
  have b99 : z 9 p = 0 := by rw [← hz, up_s]
  have bo : ∀ q k, (q = 1 → k ≠ 9) → (q = 3 ∨ q = 4 ∨ q = 6 ∨ q = 7 ∨ q = 8 ∨ q = 9 → k ≠ p) → z q k = s q k := by
    intro q k x1 x2
    rw [← hz]
    unfold up
    repeat' split
    all_goals (first | rfl | (rename_i hc; exact absurd hc (fun hc => by
      obtain ⟨c1, c2⟩ := hc
      subst c1
      first | exact x1 rfl c2 | exact x2 (by decide) c2)))
  clear hz
  -- with two further rows at most
  have cip : ∀ z' : SS, (∀ q k, (q = 9 → k ≠ p) → (q = 1 → k ≠ 10) → z' q k = z q k) → CIp z' K p stk := by
    intro z' e
    refine CIp_of h hk hn (by rw [e 1 9 (fun q => by cases q) (fun _ => by decide)]; exact b9) (by rw [e 1 12 (fun q => by cases q) (fun _ => by decide)]; exact b1 12 (by decide)) (fun j hj => ?_) (by rw [e 3 p (fun q => by cases q) (fun q => by cases q)]; exact b3) (by rw [e 6 p (fun q => by cases q) (fun q => by cases q)]; exact b6) (by rw [e 7 p (fun q => by cases q) (fun q => by cases q)]; exact b7) (by rw [e 8 p (fun q => by cases q) (fun q => by cases q)]; exact b8)
    rw [e 3 j (fun q => by cases q) (fun q => by cases q), e 6 j (fun q => by cases q) (fun q => by cases q), e 7 j (fun q => by cases q) (fun q => by cases q), e 8 j (fun q => by cases q) (fun q => by cases q)]
    exact ⟨bo 3 j (fun q => by cases q) (fun _ => hj), bo 6 j (fun q => by cases q) (fun _ => hj), bo 7 j (fun q => by cases q) (fun _ => hj), bo 8 j (fun q => by cases q) (fun _ => hj)⟩
  have bo2 : ∀ q k, (q = 1 → k ≠ 9 ∧ k ≠ 10) → q ≠ 3 → q ≠ 6 → q ≠ 7 → q ≠ 8 → (q = 4 → k ≠ p) → (q = 9 → k ≠ p) → z q k = s q k := by
    intro q k x1 x3 x6 x7 x8 x4 x9
    refine bo q k (fun h => (x1 h).1) ?_
    rintro (h | h | h | h | h | h)
    · exact absurd h x3
    · exact x4 h
    · exact absurd h x6
    · exact absurd h x7
    · exact absurd h x8
    · exact x9 h
  by_cases k0 : K p = 0
  · have hb0 := hb k0
    rw [if_pos k0, wr_t (a := b - 97) (by omega) (by omega), wr_t (by omega) (by omega)] at unf
    refine fin (up z 9 p (b - 97 + 1)) ?_ (cip _ (fun q k x9 _ => ?_)) (fun q k x1 x3 x6 x7 x8 x4 x9 => ?_) ?_ ?_ ?_
    · rw [unf]
      unfold g_X0_begin_84
      rw [if_neg (by rw [k0]; decide)]
    · by_cases h9q : q = 9
      · subst h9q; exact up_k (x9 rfl)
      · exact up_q h9q
    · by_cases h9q : q = 9
      · subst h9q; rw [up_k (x9 rfl)]; exact bo2 9 k x1 x3 x6 x7 x8 x4 x9
      · rw [up_q h9q]; exact bo2 q k x1 x3 x6 x7 x8 x4 x9
    · rw [up_q (by decide)]; exact b4
    · rw [up_s, if_pos k0]; omega
    · rw [up_q (by decide), b1 10 (by decide), h10, if_neg (by rw [k0]; decide)]
  · rw [if_neg k0] at unf
    by_cases k3 : K p = 3
    · refine fin (up (up z 9 p ch) 1 10 ((ch : Int) + 1)) ?_ (cip _ (fun q k x9 x1 => ?_)) (fun q k x1 x3 x6 x7 x8 x4 x9 => ?_) ?_ ?_ ?_
      · rw [unf]
        unfold g_X0_begin_84
        rw [if_pos k3, gx_d (by omega) (by omega), tn_c, sb_t, sb_t, b1 10 (by decide), h10, up_q (by decide), b1 10 (by decide), h10, wr_t (by omega) (by omega)]
      · by_cases h1q : q = 1
        · subst h1q; rw [up_k (x1 rfl), up_q (by decide)]
        · rw [up_q h1q]
          by_cases h9q : q = 9
          · subst h9q; exact up_k (x9 rfl)
          · exact up_q h9q
      · by_cases h1q : q = 1
        · subst h1q; rw [up_k (x1 rfl).2, up_q (by decide)]; exact bo2 1 k x1 x3 x6 x7 x8 x4 x9
        · rw [up_q h1q]
          by_cases h9q : q = 9
          · subst h9q; rw [up_k (x9 rfl)]; exact bo2 9 k x1 x3 x6 x7 x8 x4 x9
          · rw [up_q h9q]; exact bo2 q k x1 x3 x6 x7 x8 x4 x9
      · rw [up_q (by decide), up_q (by decide)]; exact b4
      · rw [up_q (by decide), up_s, if_neg k0, if_pos k3]
      · rw [up_s, if_pos k3]; omega
    · refine fin z ?_ (cip z (fun _ _ _ _ => rfl)) bo2 b4 ?_ ?_
      · rw [unf]
        unfold g_X0_begin_84
        rw [if_neg k3]
      · rw [b99, if_neg k0, if_neg k3]
      · rw [b1 10 (by decide), h10, if_neg k3]
theorem X0_kindOf_v (b : Int) : f_X0_kindOf b = some (kOf b) := by
  unfold f_X0_kindOf g_X0_kindOf_78 g_X0_kindOf_79 kOf
  by_cases h1 : b = 67
  · subst h1; rfl
  · by_cases h2 : b = 70
    · subst h2; rfl
    · by_cases h3 : b = 72
      · subst h3; rfl
      · by_cases h4 : b = 78
        · subst h4; rfl
        · by_cases h5 : b = 86
          · subst h5; rfl
          · rw [if_neg h1, if_neg h2, if_neg h3, if_neg h4, if_neg h5]
            by_cases h6 : b < 97
            · rw [if_pos h6, if_neg (by omega), if_neg h3, if_neg h5, if_neg h1, if_neg h4, if_neg h2]
            · rw [if_neg h6]
              by_cases h7 : 105 < b
              · rw [if_pos h7, if_neg (by omega), if_neg h3, if_neg h5, if_neg h1, if_neg h4, if_neg h2]
              · rw [if_neg h7, if_pos (by omega)]
/-- the kinds of all the parts that are begun -/
def bgn (t : Nat → Int) : Nat → Nat → Nat → Nat → Bool → List Int
  | 0, _, _, _, _ => []
  | r + 1, i, nd, ch, true => if 49 ≤ t i ∧ t i ≤ 57 then bgn t r (i + 1) nd ch false else []
  | r + 1, i, nd, ch, false => if nd = 0 ∨ kOf (t i) = -1 ∨ (kOf (t i) = 3 ∧ ch = 6) then []
      else if kOf (t i) = 4 then 4 :: bgn t r (i + 1) nd ch true
      else kOf (t i) :: bgn t r (i + 1) (nd + ar (kOf (t i)) - 1) (if kOf (t i) = 3 then ch + 1 else ch) false
theorem bgn_prs (t : Nat → Int) : ∀ (r i nd ch : Nat) (p : Bool), (prs t r i nd ch p).1 = -1 → (prs t r i nd ch p).2.map (fun x => x.1) = (if p = true then [4] else []) ++ bgn t r i nd ch p := by
  intro r
  induction r with
  | zero =>
    intro i nd ch p h
    unfold prs at h ⊢
    cases p with
    | true => rw [if_neg (by simp)] at h; dsimp only at h; omega
    | false => rfl
  | succ r ih =>
    intro i nd ch p h
    cases p with
    | true =>
      unfold prs at h ⊢
      unfold bgn
      by_cases hf : 49 ≤ t i ∧ t i ≤ 57
      · rw [if_pos hf] at h ⊢
        rw [if_pos hf]
        have := ih (i + 1) nd ch false h
        dsimp only
        rw [List.map_cons, this]
        simp
      · rw [if_neg hf] at h; dsimp only at h; omega
    | false =>
      unfold prs at h ⊢
      unfold bgn
      by_cases hbad : nd = 0 ∨ kOf (t i) = -1 ∨ (kOf (t i) = 3 ∧ ch = 6)
      · rw [if_pos hbad] at h; dsimp only at h; omega
      · rw [if_neg hbad] at h ⊢
        rw [if_neg hbad]
        by_cases h4 : kOf (t i) = 4
        · rw [if_pos h4] at h ⊢
          rw [if_pos h4, ih (i + 1) nd ch true h]
          simp
        · rw [if_neg h4] at h ⊢
          rw [if_neg h4]
          dsimp only at h ⊢
          rw [List.map_cons, ih (i + 1) _ _ false h]
          simp
