/-! ===== what a text without a fault is ===== -/
def kdL (P : List Pt) (j : Nat) : Int := (P.getD j (0, 0, 0)).1
def nuL (P : List Pt) (j : Nat) : Int := (P.getD j (0, 0, 0)).2.1
def beL (P : List Pt) (j : Nat) : Int := (P.getD j (0, 0, 0)).2.2
theorem nde_shift (kd : Nat → Int) : ∀ k, nde kd (k + 1) = ar (kd 0) - 1 + nde (fun j => kd (j + 1)) k
  | 0 => by simp [nde]; omega
  | k + 1 => by
      have h := nde_shift kd k
      show nde kd (k + 1) + ar (kd (k + 1)) - 1 = _
      rw [h]
      show _ = _ + (nde (fun j => kd (j + 1)) k + ar (kd (k + 1)) - 1)
      omega
theorem kdL_s (x : Pt) (P : List Pt) : (fun j => kdL (x :: P) (j + 1)) = kdL P := by
  funext j
  simp [kdL]
/-- a part's own numbers, ch choices being ahead of it -/
def ptOK (x : Pt) (ch : Nat) : Prop := (x.1 = 0 ∧ 1 ≤ x.2.1 ∧ x.2.1 ≤ 9) ∨ ((x.1 = 1 ∨ x.1 = 2 ∨ x.1 = 5) ∧ x.2.1 = 0) ∨ (x.1 = 3 ∧ x.2.1 = ch ∧ ch < 6) ∨ (x.1 = 4 ∧ 1 ≤ x.2.1 ∧ x.2.1 ≤ 9)
def ptsOK : List Pt → Nat → Prop
  | [], ch => ch ≤ 6
  | x :: P, ch => ptOK x ch ∧ ptsOK P (ch + (if x.1 = 3 then 1 else 0))
theorem prs_ok (t : Nat → Int) : ∀ (r i nd ch : Nat) (p : Bool), ch ≤ 6 → (p = true → 1 ≤ nd) → (prs t r i nd ch p).1 = -1 →
    (∀ k, k < (prs t r i nd ch p).2.length → 1 ≤ (nd : Int) + (nde (kdL (prs t r i nd ch p).2) k - 1)) ∧ (nd : Int) + (nde (kdL (prs t r i nd ch p).2) (prs t r i nd ch p).2.length - 1) = 0 ∧ ptsOK (prs t r i nd ch p).2 ch ∧ (prs t r i nd ch p).2.length ≤ r := by
  intro r
  induction r with
  | zero =>
    intro i nd ch p hch hp h
    unfold prs at h ⊢
    dsimp only at h ⊢
    by_cases h0 : nd = 0 ∧ p = false
    · refine ⟨fun k hk => by simp at hk, by simp [nde, h0.1], hch, by simp⟩
    · rw [if_neg h0] at h
      omega
  | succ r ih =>
    intro i nd ch p hch hp h
    have consOK : ∀ (x : Pt) (Q : List Pt) (nd' ch' : Nat), 1 ≤ nd → ptOK x ch → (nd' : Int) = nd + ar x.1 - 1 → ch' = ch + (if x.1 = 3 then 1 else 0) →
        ((∀ k, k < Q.length → 1 ≤ (nd' : Int) + (nde (kdL Q) k - 1)) ∧ (nd' : Int) + (nde (kdL Q) Q.length - 1) = 0 ∧ ptsOK Q ch' ∧ Q.length ≤ r) →
        ((∀ k, k < (x :: Q).length → 1 ≤ (nd : Int) + (nde (kdL (x :: Q)) k - 1)) ∧ (nd : Int) + (nde (kdL (x :: Q)) (x :: Q).length - 1) = 0 ∧ ptsOK (x :: Q) ch ∧ (x :: Q).length ≤ r + 1) := by
      intro x Q nd' ch' hnd hx hnd' hch' hQ
      obtain ⟨a1, a2, a3, a4⟩ := hQ
      have e : ∀ k, nde (kdL (x :: Q)) (k + 1) = ar x.1 - 1 + nde (kdL Q) k := by
        intro k
        rw [nde_shift, kdL_s]
        rfl
      refine ⟨fun k hk => ?_, ?_, ⟨hx, by rw [← hch']; exact a3⟩, by simpa using a4⟩
      · match k, hk with
        | 0, _ => simp [nde]; omega
        | k + 1, hk =>
          rw [e]
          have := a1 k (by simpa using hk)
          omega
      · rw [List.length_cons, e]
        omega
    cases p with
    | true =>
      have h1 := hp rfl
      unfold prs at h ⊢
      by_cases hf : 49 ≤ t i ∧ t i ≤ 57
      · rw [if_pos hf] at h ⊢
        dsimp only at h ⊢
        exact consOK _ _ nd ch h1 (Or.inr (Or.inr (Or.inr ⟨rfl, by dsimp only; omega, by dsimp only; omega⟩))) (by simp [ar]) (by simp) (ih (i + 1) nd ch false hch (fun q => by cases q) h)
      · rw [if_neg hf] at h
        dsimp only at h
        omega
    | false =>
      unfold prs at h ⊢
      by_cases hbad : nd = 0 ∨ kOf (t i) = -1 ∨ (kOf (t i) = 3 ∧ ch = 6)
      · rw [if_pos hbad] at h
        dsimp only at h
        omega
      · rw [if_neg hbad] at h ⊢
        have n0 : nd ≠ 0 := fun q => hbad (Or.inl q)
        by_cases h4 : kOf (t i) = 4
        · rw [if_pos h4] at h ⊢
          obtain ⟨a1, a2, a3, a4⟩ := ih (i + 1) nd ch true hch (fun _ => by omega) h
          exact ⟨a1, a2, a3, by omega⟩
        · rw [if_neg h4] at h ⊢
          dsimp only at h ⊢
          have hc6 : kOf (t i) = 3 → ch ≠ 6 := fun q q2 => hbad (Or.inr (Or.inr ⟨q, q2⟩))
          refine consOK _ _ (nd + ar (kOf (t i)) - 1) (if kOf (t i) = 3 then ch + 1 else ch) (by omega) ?_ ?_ ?_ (ih (i + 1) _ _ false ?_ (fun q => by cases q) h)
          · rcases kOf_c (t i) with q | ⟨q, q1⟩ | q | q | q | q | q
            · exact absurd q (fun q => hbad (Or.inr (Or.inl q)))
            · exact Or.inl ⟨q, by simp only [q]; simp; omega, by simp only [q]; simp; omega⟩
            · exact Or.inr (Or.inl ⟨Or.inl q, by simp [q]⟩)
            · exact Or.inr (Or.inl ⟨Or.inr (Or.inl q), by simp [q]⟩)
            · exact Or.inr (Or.inr (Or.inl ⟨q, by simp [q], by have := hc6 q; omega⟩))
            · exact absurd q h4
            · exact Or.inr (Or.inl ⟨Or.inr (Or.inr q), by simp [q]⟩)
          · dsimp only; omega
          · dsimp only; split <;> omega
          · split
            · rename_i q
              have := hc6 q
              omega
            · exact hch
/-- the whole text: where it goes wrong, its parts if it doesn't -/
def fau (n : Nat) (t : Nat → Int) : Int := (prs t n 0 (if n = 0 then 0 else 1) 0 false).1
def pts (n : Nat) (t : Nat → Int) : List Pt := if fau n t = -1 then (prs t n 0 (if n = 0 then 0 else 1) 0 false).2 else []
theorem pts_wf {n : Nat} {t : Nat → Int} (h : pts n t ≠ []) : wfd (pts n t).length (kdL (pts n t)) ∧ fau n t = -1 := by
  unfold pts at h ⊢
  by_cases hf : fau n t = -1
  · rw [if_pos hf] at h ⊢
    have hn : n ≠ 0 := by
      intro q
      subst q
      exact h rfl
    rw [if_neg hn] at h ⊢
    unfold fau at hf
    rw [if_neg hn] at hf
    obtain ⟨a1, a2, -, -⟩ := prs_ok t n 0 1 0 false (by omega) (fun _ => by omega) hf
    refine ⟨⟨fun k hk => ?_, ?_⟩, by unfold fau; rw [if_neg hn]; exact hf⟩
    · have := a1 k hk
      omega
    · omega
  · rw [if_neg hf] at h
    exact absurd rfl h
theorem pts_ok (n : Nat) (t : Nat → Int) : ptsOK (pts n t) 0 ∧ (pts n t).length ≤ n := by
  unfold pts
  by_cases hf : fau n t = -1
  · rw [if_pos hf]
    unfold fau at hf
    obtain ⟨-, -, a3, a4⟩ := prs_ok t n 0 (if n = 0 then 0 else 1) 0 false (by omega) (fun q => by cases q) hf
    exact ⟨a3, a4⟩
  · rw [if_neg hf]
    exact ⟨by simp [ptsOK], by simp⟩
theorem chs_le : ∀ (P : List Pt) (ch : Nat), ptsOK P ch → ch + chs P ≤ 6
  | [], ch, h => by simpa [chs, ptsOK] using h
  | x :: P, ch, h => by
      have := chs_le P _ h.2
      simp only [chs]
      omega
theorem ptsOK_at : ∀ (P : List Pt) (ch j : Nat), ptsOK P ch → j < P.length → ptOK (P.getD j (0, 0, 0)) (ch + chs (P.take j)) ∧ (kdL P j = 3 → ch + chs (P.take j) < ch + chs P)
  | [], ch, j, h, hj => by simp at hj
  | x :: P, ch, 0, h, hj => by
      refine ⟨by simpa [chs] using h.1, fun q => ?_⟩
      have q2 : x.1 = 3 := q
      simp [chs, q2]
      omega
  | x :: P, ch, j + 1, h, hj => by
      obtain ⟨a, b⟩ := ptsOK_at P _ j h.2 (by simpa using hj)
      refine ⟨?_, fun q => ?_⟩
      · simp only [List.getD_cons_succ, List.take_succ_cons, chs]
        rw [show ch + ((if x.1 = 3 then 1 else 0) + chs (P.take j)) = ch + (if x.1 = 3 then 1 else 0) + chs (P.take j) by omega]
        exact a
      · have := b q
        simp only [List.take_succ_cons, chs]
        omega
/-- whose first or second one it is -/
def isPar (np : Nat) (kd : Nat → Int) (k j : Nat) : Prop := k < np ∧ ((ar (kd k) ≠ 0 ∧ j = k + 1) ∨ (ar (kd k) = 2 ∧ j = scn np kd k))
theorem isPar.unique {np : Nat} {kd : Nat → Int} (hw : wfd np kd) {a b j : Nat} (h1 : isPar np kd a j) (h2 : isPar np kd b j) : a = b := by
  have key : ∀ {a b : Nat}, a < np → b < np → ar (kd a) = 2 → ar (kd b) = 2 → scn np kd a = scn np kd b → a < b → False := by
    intro a b ha hb h1 h2 he hab
    have s1 := (wi_sub hw (wf_1 hw ha (by omega))).2.2
    have s2 := (wi_sub hw (wf_1 hw hb (by omega))).2.2
    have e1 : nde kd (a + 1) = nde kd a + ar (kd a) - 1 := rfl
    have e2 : nde kd (b + 1) = nde kd b + ar (kd b) - 1 := rfl
    have hb2 := sc_gt hw hb h2
    have := s1.2.2 b (by omega) (by show b < scn np kd a; omega)
    have h3 := s1.2.1
    have h4 := s2.2.1
    have e3 : a + 1 + wi np kd (a + 1) = b + 1 + wi np kd (b + 1) := he
    rw [e3, h4] at h3
    omega
  have key2 : ∀ {a b : Nat}, a < np → b < np → ar (kd a) ≠ 0 → ar (kd b) = 2 → a + 1 = scn np kd b → False := by
    intro a b ha hb h1 h2 he
    have s2 := (wi_sub hw (wf_1 hw hb (by omega))).2.2
    have e1 : nde kd (a + 1) = nde kd a + ar (kd a) - 1 := rfl
    have e2 : nde kd (b + 1) = nde kd b + ar (kd b) - 1 := rfl
    have hb2 := sc_gt hw hb h2
    have := s2.2.2 a (by omega) (by show a < scn np kd b; omega)
    have h4 := s2.2.1
    have e3 : b + 1 + wi np kd (b + 1) = a + 1 := he.symm
    rw [e3] at h4
    omega
  obtain ⟨ha, h1⟩ := h1
  obtain ⟨hb, h2⟩ := h2
  rcases h1 with ⟨p1, p2⟩ | ⟨p1, p2⟩ <;> rcases h2 with ⟨q1, q2⟩ | ⟨q1, q2⟩
  · omega
  · exact (key2 ha hb p1 q1 (by omega)).elim
  · exact (key2 hb ha q1 p1 (by omega)).elim
  · rcases Nat.lt_trichotomy a b with h | h | h
    · exact (key ha hb p1 q1 (by omega) h).elim
    · exact h
    · exact (key hb ha q1 p1 (by omega) h).elim
