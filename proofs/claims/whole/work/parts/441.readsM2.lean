/-! ===== the model's reading: all of it ===== -/
def szF (kd : Nat → Int) (k a b : Nat) : Nat := (if kd k = 4 then 2 else 1) + (if ar (kd k) = 0 then 0 else a) + (if ar (kd k) = 2 then b else 0)
theorem szF_ok (kd : Nat → Int) : evOK kd (szF kd) := by
  intro k a b a' b' ha hb
  unfold szF
  by_cases h0 : ar (kd k) = 0
  · have h2 : ¬ ar (kd k) = 2 := by omega
    rw [if_pos h0, if_pos h0, if_neg h2, if_neg h2]
  · rw [if_neg h0, if_neg h0, ha h0]
    by_cases h2 : ar (kd k) = 2
    · rw [if_pos h2, if_pos h2, hb h2]
    · rw [if_neg h2, if_neg h2]
def sz (np : Nat) (kd : Nat → Int) : Nat → Nat := EV 0 (szF kd) np kd
theorem sz_le {np : Nat} {kd : Nat → Int} (hw : wfd np kd) : ∀ k, k < np → sz np kd k ≤ 2 * wi np kd k := by
  refine part_ind hw (fun k hk h1 h2 => ?_)
  have e : sz np kd k = szF kd k (sz np kd (k + 1)) (sz np kd (scn np kd k)) := EV_eq hw (szF_ok kd) hk
  rw [e]
  unfold szF
  rcases ar_3 (kd k) with h | h | h
  · rw [wi_0 hw hk h, if_pos h, if_neg (show ¬ ar (kd k) = 2 by omega)]
    split <;> omega
  · have := h1 (by omega)
    rw [wi_1 hw hk h, if_neg (show ¬ ar (kd k) = 0 by omega), if_neg (show ¬ ar (kd k) = 2 by omega)]
    split <;> omega
  · have := h1 (by omega)
    have := h2 h
    rw [wi_2 hw hk h, if_neg (show ¬ ar (kd k) = 0 by omega), if_pos h]
    split <;> omega
/-- the rows that are worked out from part c on -/
def MB (np : Nat) (kd : Nat → Int) (c : Nat) (s : SS) : Prop := ∀ k, c ≤ k → k < np → s 5 k = sz np kd k ∧ s 6 k = wi np kd k ∧ (ar (kd k) ≠ 0 → s 8 (k + 1) = k) ∧ (ar (kd k) = 2 → s 7 k = scn np kd k ∧ s 8 (scn np kd k) = k)
def frB (s s' : SS) : Prop := ∀ q k, q ≠ 5 → q ≠ 6 → q ≠ 7 → q ≠ 8 → s' q k = s q k
def kOK (np : Nat) (kd : Nat → Int) : Prop := ∀ k, k < np → kd k = 0 ∨ kd k = 1 ∨ kd k = 2 ∨ kd k = 3 ∨ kd k = 4 ∨ kd k = 5
theorem ar_of {k : Int} : (k = 0 → ar k = 0) ∧ ((k = 4 ∨ k = 5) → ar k = 1) ∧ ((k = 1 ∨ k = 2 ∨ k = 3) → ar k = 2) := by
  refine ⟨fun h => by simp [ar, h], fun h => by rcases h with rfl | rfl <;> simp [ar], fun h => by rcases h with rfl | rfl | rfl <;> simp [ar]⟩
theorem rd_all {np : Nat} {kd : Nat → Int} (hnp : np ≤ 40) (hw : wfd np kd) (hk : kOK np kd) : ∀ (c f : Nat) (s : SS), c ≤ np → c < f → (∀ k, k < np → s 2 k = kd k) → MB np kd c s →
    ∃ s', f_X7_reads_55 f ((c : Int) - 1) s = some (up s' 8 0 (-1)) ∧ frB s s' ∧ MB np kd 0 s' := by
  intro c
  induction c with
  | zero =>
    intro f s _ hf _ hM
    match f, hf with
    | f + 1, _ =>
      refine ⟨s, ?_, fun _ _ _ _ _ _ => rfl, hM⟩
      show g_X7_reads_55 (f_X7_reads_55 f) _ s = _
      unfold g_X7_reads_55 g_X7_reads_202
      rw [if_pos (by omega), gx_d (by omega) (by omega), sb_t]
      rfl
  | succ c ih =>
    intro f s hc hf hs hM
    match f, hf with
    | f + 1, hf =>
      have hcn : c < np := by omega
      rw [show ((c + 1 : Nat) : Int) - 1 = (c : Int) by omega]
      show ∃ s', g_X7_reads_55 (f_X7_reads_55 f) _ s = _ ∧ _
      have esz : sz np kd c = szF kd c (sz np kd (c + 1)) (sz np kd (scn np kd c)) := EV_eq hw (szF_ok kd) hcn
      -- what follows a step
      have fin : ∀ s1 : SS, g_X7_reads_55 (f_X7_reads_55 f) (c : Int) s = f_X7_reads_55 f ((c : Int) - 1) s1 → frB s s1 → MB np kd c s1 → ∃ s', g_X7_reads_55 (f_X7_reads_55 f) (c : Int) s = some (up s' 8 0 (-1)) ∧ frB s s' ∧ MB np kd 0 s' := by
        intro s1 h1 h2 h3
        obtain ⟨s', a1, a2, a3⟩ := ih f s1 (by omega) (by omega) (fun k hk => by rw [h2 2 k (by decide) (by decide) (by decide) (by decide)]; exact hs k hk) h3
        exact ⟨s', by rw [h1, a1], fun q k x1 x2 x3 x4 => by rw [a2 q k x1 x2 x3 x4, h2 q k x1 x2 x3 x4], a3⟩
      -- the children of later parts are other ones
      have apart : ∀ k, c + 1 ≤ k → k < np → (ar (kd k) ≠ 0 → ar (kd c) ≠ 0 → k + 1 ≠ c + 1) ∧ (ar (kd k) ≠ 0 → ar (kd c) = 2 → k + 1 ≠ scn np kd c) ∧ (ar (kd k) = 2 → ar (kd c) ≠ 0 → scn np kd k ≠ c + 1) ∧ (ar (kd k) = 2 → ar (kd c) = 2 → scn np kd k ≠ scn np kd c) := by
        intro k hk1 hk2
        refine ⟨fun _ _ => by omega, fun a b e => ?_, fun a b e => ?_, fun a b e => ?_⟩
        · have := isPar.unique hw (a := k) (b := c) (j := k + 1) ⟨hk2, Or.inl ⟨a, rfl⟩⟩ ⟨hcn, Or.inr ⟨b, e⟩⟩
          omega
        · have := isPar.unique hw (a := k) (b := c) (j := c + 1) ⟨hk2, Or.inr ⟨a, e.symm⟩⟩ ⟨hcn, Or.inl ⟨b, rfl⟩⟩
          omega
        · have := isPar.unique hw (a := k) (b := c) (j := scn np kd k) ⟨hk2, Or.inr ⟨a, rfl⟩⟩ ⟨hcn, Or.inr ⟨b, e⟩⟩
          omega
      rcases ar_3 (kd c) with h0 | h0 | h0
      · have hk0 : kd c = 0 := by
          rcases hk c hcn with h | h | h | h | h | h <;> first | exact h | (rw [h] at h0; exact absurd h0 (by decide))
        refine fin _ (rd_0 (by omega) (by rw [hs c hcn, hk0])) (fun q k x1 x2 x3 x4 => by rw [up_q x2, up_q x1]) (fun k hk1 hk2 => ?_)
        by_cases hkc : k = c
        · subst hkc
          refine ⟨?_, ?_, fun h => absurd h0 h, fun h => by omega⟩
          · rw [up_q (by decide), up_s, esz]
            simp [szF, hk0, ar]
          · rw [up_s, wi_0 hw hk2 h0]
            rfl
        · obtain ⟨a, b, d, e⟩ := hM k (by omega) hk2
          refine ⟨by rw [up_q (by decide), up_k hkc]; exact a, by rw [up_k hkc, up_q (by decide)]; exact b, fun h => by rw [up_q (by decide), up_q (by decide)]; exact d h, fun h => ?_⟩
          rw [up_q (by decide), up_q (by decide), up_q (by decide), up_q (by decide)]
          exact e h
      · have hk0 : kd c = 4 ∨ kd c = 5 := by
          rcases hk c hcn with h | h | h | h | h | h
          · rw [h] at h0; exact absurd h0 (by decide)
          · rw [h] at h0; exact absurd h0 (by decide)
          · rw [h] at h0; exact absurd h0 (by decide)
          · rw [h] at h0; exact absurd h0 (by decide)
          · exact Or.inl h
          · exact Or.inr h
        have hc1 := wf_1 hw hcn (by omega)
        obtain ⟨a1, a2, -, -⟩ := hM (c + 1) (by omega) hc1
        have hz := sz_le hw (c + 1) hc1
        have hwi := (wi_sub hw hc1).2.1
        refine fin _ (rd_1 (by omega) hk0 (hs c hcn) a1 a2 (by omega) (by omega)) (fun q k x1 x2 x3 x4 => by rw [up_q x2, up_q x1, up_q x4, up_q x2, up_q x1]) (fun k hk1 hk2 => ?_)
        by_cases hkc : k = c
        · subst hkc
          refine ⟨?_, ?_, fun h => ?_, fun h => by omega⟩
          · rw [up_q (by decide), up_s, esz]
            unfold szF
            rw [if_neg (by omega : ¬ ar (kd k) = 0), if_neg (by omega : ¬ ar (kd k) = 2)]
            simp
          · rw [up_s, wi_1 hw hk2 h0]
          · rw [up_q (by decide), up_q (by decide), up_s]
        · obtain ⟨a, b, d, e⟩ := hM k (by omega) hk2
          obtain ⟨p1, p2, p3, p4⟩ := apart k (by omega) hk2
          refine ⟨by rw [up_q (by decide), up_k hkc, up_q (by decide), up_q (by decide), up_k hkc]; exact a, by rw [up_k hkc, up_q (by decide), up_q (by decide), up_k hkc, up_q (by decide)]; exact b, fun h => ?_, fun h => ?_⟩
          · rw [up_q (by decide), up_q (by decide), up_k (p1 h (by omega)), up_q (by decide), up_q (by decide)]
            exact d h
          · rw [up_q (by decide), up_q (by decide), up_q (by decide), up_q (by decide), up_q (by decide), up_q (by decide), up_q (by decide), up_k (p3 h (by omega)), up_q (by decide), up_q (by decide)]
            exact e h
      · have hk0 : kd c = 1 ∨ kd c = 2 ∨ kd c = 3 := by
          rcases hk c hcn with h | h | h | h | h | h
          · rw [h] at h0; exact absurd h0 (by decide)
          · exact Or.inl h
          · exact Or.inr (Or.inl h)
          · exact Or.inr (Or.inr h)
          · rw [h] at h0; exact absurd h0 (by decide)
          · rw [h] at h0; exact absurd h0 (by decide)
        have hc1 := wf_1 hw hcn (by omega)
        have hc2 := wf_2 hw hcn h0
        have hsc := sc_gt hw hcn h0
        obtain ⟨a1, a2, -, -⟩ := hM (c + 1) (by omega) hc1
        obtain ⟨b1, b2, -, -⟩ := hM (scn np kd c) (by omega) hc2
        have hz := sz_le hw (c + 1) hc1
        have hwi := wi_sub hw hc1
        have hz2 := sz_le hw (scn np kd c) hc2
        have hwi2 := wi_sub hw hc2
        have esc : scn np kd c = c + 1 + wi np kd (c + 1) := rfl
        have k4 : kd c ≠ 4 := by rcases hk0 with h | h | h <;> rw [h] <;> decide
        refine fin _ (rd_2 (w := wi np kd (c + 1)) (by omega) hk0 (hs c hcn) a1 a2 (by omega) (by omega) (by omega) b1 b2 (by omega) (by omega)) (fun q k x1 x2 x3 x4 => by rw [up_q x2, up_q x1, up_q x4, up_q x3, up_q x2, up_q x1, up_q x4, up_q x2, up_q x1]) (fun k hk1 hk2 => ?_)
        rw [← esc]
        by_cases hkc : k = c
        · subst hkc
          refine ⟨?_, ?_, fun h => ?_, fun h => ⟨?_, ?_⟩⟩
          · rw [up_q (by decide), up_s, esz]
            unfold szF
            rw [if_neg k4, if_neg (by omega : ¬ ar (kd k) = 0), if_pos h0]
            omega
          · rw [up_s, wi_2 hw hk2 h0]
            omega
          · rw [up_q (by decide), up_q (by decide), up_k (by omega), up_q (by decide), up_q (by decide), up_q (by decide), up_s]
          · rw [up_q (by decide), up_q (by decide), up_q (by decide), up_s, esc]
            omega
          · rw [up_q (by decide), up_q (by decide), up_s]
        · obtain ⟨a, b, d, e⟩ := hM k (by omega) hk2
          obtain ⟨p1, p2, p3, p4⟩ := apart k (by omega) hk2
          refine ⟨?_, ?_, fun h => ?_, fun h => ⟨?_, ?_⟩⟩
          · rw [up_q (by decide), up_k hkc, up_q (by decide), up_q (by decide), up_q (by decide), up_k hkc, up_q (by decide), up_q (by decide), up_k hkc]; exact a
          · rw [up_k hkc, up_q (by decide), up_q (by decide), up_q (by decide), up_k hkc, up_q (by decide), up_q (by decide), up_k hkc, up_q (by decide)]; exact b
          · rw [up_q (by decide), up_q (by decide), up_k (p2 h h0), up_q (by decide), up_q (by decide), up_q (by decide), up_k (p1 h (by omega)), up_q (by decide), up_q (by decide)]
            exact d h
          · rw [up_q (by decide), up_q (by decide), up_q (by decide), up_k hkc, up_q (by decide), up_q (by decide), up_q (by decide), up_q (by decide), up_q (by decide)]
            exact (e h).1
          · rw [up_q (by decide), up_q (by decide), up_k (p4 h h0), up_q (by decide), up_q (by decide), up_q (by decide), up_k (p3 h (by omega)), up_q (by decide), up_q (by decide)]
            exact (e h).2
/-- the model's state is of this text, this width -/
def MT (n : Nat) (t : Nat → Int) (s : SS) : Prop := n ≤ 40 ∧ s 0 0 = n ∧ (∀ j, j < n → s 1 j = t j) ∧ (∀ j, j < n → 0 ≤ t j ∧ t j ≤ 255)
/-- and it has read it -/
def MR (n : Nat) (t : Nat → Int) (s : SS) : Prop := s 0 3 = fau n t ∧ s 0 4 = (pts n t).length ∧ s 0 5 = chs (pts n t) ∧ (∀ j, j < (pts n t).length → s 2 j = kdL (pts n t) j ∧ s 3 j = nuL (pts n t) j ∧ s 4 j = beL (pts n t) j) ∧ MB (pts n t).length (kdL (pts n t)) 0 s ∧ s 8 0 = -1
def frM (s s' : SS) : Prop := ∀ q k, (q = 0 → k ≠ 3 ∧ k ≠ 4 ∧ k ≠ 5) → (q < 2 ∨ 8 < q) → s' q k = s q k
theorem kOK_of {P : List Pt} {ch : Nat} (h : ptsOK P ch) : kOK P.length (kdL P) := by
  intro k hk
  have h1 : ptOK (P.getD k (0, 0, 0)) _ := (ptsOK_at P ch k h hk).1
  have e : kdL P k = (P.getD k (0, 0, 0)).1 := rfl
  rw [e]
  rcases h1 with h | h | h | h
  · exact Or.inl h.1
  · rcases h.1 with h | h | h
    · exact Or.inr (Or.inl h)
    · exact Or.inr (Or.inr (Or.inl h))
    · exact Or.inr (Or.inr (Or.inr (Or.inr (Or.inr h))))
  · exact Or.inr (Or.inr (Or.inr (Or.inl h.1)))
  · exact Or.inr (Or.inr (Or.inr (Or.inr (Or.inl h.1))))
theorem prs_ext {t t' : Nat → Int} : ∀ (r i nd ch : Nat) (p : Bool), (∀ j, j < i + r → t j = t' j) → prs t r i nd ch p = prs t' r i nd ch p := by
  intro r
  induction r with
  | zero => intro i nd ch p h; rfl
  | succ r ih =>
    intro i nd ch p h
    have hi := h i (by omega)
    cases p with
    | true =>
      unfold prs
      rw [hi, ih (i + 1) nd ch false (fun j hj => h j (by omega))]
    | false =>
      unfold prs
      rw [hi, ih (i + 1) nd ch true (fun j hj => h j (by omega)), ih (i + 1) _ _ false (fun j hj => h j (by omega))]
theorem fau_ext {n : Nat} {t t' : Nat → Int} (h : ∀ j, j < n → t j = t' j) : fau n t = fau n t' ∧ pts n t = pts n t' := by
  have e := prs_ext (t := t) (t' := t') n 0 (if n = 0 then 0 else 1) 0 false (fun j hj => h j (by omega))
  have e2 : fau n t = fau n t' := by unfold fau; rw [e]
  exact ⟨e2, by unfold pts; rw [e2, e]⟩
theorem X7_reads_v {n : Nat} {t : Nat → Int} {s : SS} (h : MT n t s) : ∃ s', f_X7_reads s = some s' ∧ MR n t s' ∧ frM s s' := by
  obtain ⟨hn, h0, ht, hb⟩ := h
  have hex := fau_ext (t := s 1) (t' := t) ht
  unfold f_X7_reads f_X7_readsText g_X7_readsText_22
  simp only [sb_t]
  -- the first loop
  have start : ∀ (nd : Nat), nd = (if n = 0 then 0 else 1) → ∃ s', f_X7_readsText_25 FU nd 0 (up (up s 0 4 0) 0 5 0) = some (fau n t, s') ∧ frR (up (up s 0 4 0) 0 5 0) s' ∧ (fau n t = -1 → s' 0 4 = (pts n t).length ∧ s' 0 5 = chs (pts n t) ∧ rows s' 0 (pts n t)) := by
    intro nd hnd
    have e1 : (up (up s 0 4 0) 0 5 0) 1 = s 1 := by
      funext j
      rw [up_q (by decide), up_q (by decide)]
    obtain ⟨s', a1, a2, -, a4⟩ := rT_all n hn n 0 nd 0 0 FU (up (up s 0 4 0) 0 5 0) (by omega) (by unfold FU; omega) (by omega) (by split at hnd <;> omega) (by omega) (by rw [up_k (by decide), up_k (by decide)]; exact h0) (by rw [up_k (by decide), up_s]; rfl) (by rw [up_s]; rfl) (by rw [e1]; intro j hj; rw [ht j hj]; exact hb j hj)
    rw [e1, hnd] at a1 a4
    refine ⟨s', ?_, a2, fun hf => ?_⟩
    · rw [hnd, ← hex.1]
      exact a1
    · have hf2 : (prs (s 1) n 0 (if n = 0 then 0 else 1) 0 false).1 = -1 := by rw [← hex.1] at hf; exact hf
      obtain ⟨b1, b2, b3⟩ := a4 hf2
      have e2 : pts n t = (prs (s 1) n 0 (if n = 0 then 0 else 1) 0 false).2 := by
        rw [← hex.2]
        unfold pts
        rw [if_pos (by rw [hex.1]; exact hf)]
      rw [e2]
      exact ⟨by rw [b1]; omega, by rw [b2]; omega, b3⟩
  have est : (if (up (up s 0 4 0) 0 5 0) 0 0 ≤ 0 then f_X7_readsText_25 FU 0 0 (up (up s 0 4 0) 0 5 0) else f_X7_readsText_25 FU 1 0 (up (up s 0 4 0) 0 5 0)) = f_X7_readsText_25 FU ((if n = 0 then 0 else 1 : Nat) : Int) 0 (up (up s 0 4 0) 0 5 0) := by
    rw [up_k (by decide), up_k (by decide), h0]
    by_cases hn0 : n = 0
    · rw [if_pos (by omega), if_pos hn0]; rfl
    · rw [if_neg (by omega), if_neg hn0]; rfl
  rw [est]
  obtain ⟨s1, a1, a2, a3⟩ := start _ rfl
  rw [a1, cb_t]
  clear est start a1
  -- the fault, the parts, the choices
  have hpl := pts_ok n t
  have key : ∃ s2 : SS, (if (up s1 0 3 (fau n t)) 0 3 = -1 then g_X7_reads_25 ((up s1 0 3 (fau n t)) 0 4) (up s1 0 3 (fau n t)) else g_X7_reads_25 0 (up s1 0 3 (fau n t))) = f_X7_reads_55 FU (((pts n t).length : Int) - 1) s2 ∧ s2 0 3 = fau n t ∧ s2 0 4 = (pts n t).length ∧ s2 0 5 = chs (pts n t) ∧ rows s2 0 (pts n t) ∧ (∀ q k, (q = 0 → k ≠ 3 ∧ k ≠ 4 ∧ k ≠ 5) → q ≠ 2 → q ≠ 3 → q ≠ 4 → s2 q k = s q k) := by
    have frm : ∀ q k, (q = 0 → k ≠ 3 ∧ k ≠ 4 ∧ k ≠ 5) → q ≠ 2 → q ≠ 3 → q ≠ 4 → ∀ v w, (up (up (up s1 0 3 (fau n t)) 0 4 v) 0 5 w) q k = s q k := by
      intro q k x0 x2 x3 x4 v w
      by_cases hq : q = 0
      · subst hq
        obtain ⟨y1, y2, y3⟩ := x0 rfl
        rw [up_k y3, up_k y2, up_k y1, a2 0 k (fun _ => ⟨y2, y3⟩) x2 x3 x4, up_k y3, up_k y2]
      · rw [up_q hq, up_q hq, up_q hq, a2 q k (fun h => absurd h hq) x2 x3 x4, up_q hq, up_q hq]
    unfold g_X7_reads_25 g_X7_reads_45
    rw [up_s]
    by_cases hf : fau n t = -1
    · obtain ⟨b1, b2, b3⟩ := a3 hf
      rw [if_pos hf, up_k (by decide), b1]
      simp only [sb_t]
      have e3 : (up (up s1 0 3 (fau n t)) 0 4 ((pts n t).length : Int)) 0 3 = fau n t := by rw [up_k (by decide), up_s]
      have e5 : (up (up s1 0 3 (fau n t)) 0 4 ((pts n t).length : Int)) 0 5 = chs (pts n t) := by rw [up_k (by decide), up_k (by decide), b2]
      have e4 : (up (up (up s1 0 3 (fau n t)) 0 4 ((pts n t).length : Int)) 0 5 (chs (pts n t) : Int)) 0 4 = (pts n t).length := by rw [up_k (by decide), up_s]
      rw [e3, if_pos hf, e5, e4, wr_t (by omega) (by omega)]
      refine ⟨_, rfl, ?_, ?_, ?_, ?_, fun q k x0 x2 x3 x4 => frm q k x0 x2 x3 x4 _ _⟩
      · rw [up_k (by decide), up_k (by decide), up_s]
      · rw [up_k (by decide), up_s]
      · rw [up_s]
      · intro j hj
        rw [up_q (by decide), up_q (by decide), up_q (by decide), up_q (by decide), up_q (by decide), up_q (by decide), up_q (by decide), up_q (by decide), up_q (by decide)]
        exact b3 j hj
    · have e0 : pts n t = [] := by unfold pts; rw [if_neg hf]
      rw [if_neg hf, e0]
      simp only [sb_t]
      rw [up_k (by decide), up_s, if_neg hf, up_k (by decide), up_s, wr_t (by omega) (by omega)]
      refine ⟨_, rfl, ?_, ?_, ?_, fun j hj => by simp at hj, fun q k x0 x2 x3 x4 => frm q k x0 x2 x3 x4 _ _⟩
      · rw [up_k (by decide), up_k (by decide), up_s]
      · rw [up_k (by decide), up_s]; rfl
      · rw [up_s]; rfl
  obtain ⟨s2, c1, c2, c3, c4, c5, c6⟩ := key
  rw [c1]
  have hrow : ∀ j, j < (pts n t).length → s2 2 j = kdL (pts n t) j ∧ s2 3 j = nuL (pts n t) j ∧ s2 4 j = beL (pts n t) j := by
    intro j hj
    have := c5 j hj
    rw [Nat.zero_add] at this
    exact this
  have hlen : (pts n t).length ≤ 40 := by omega
  have hloop : ∃ s', f_X7_reads_55 FU (((pts n t).length : Int) - 1) s2 = some (up s' 8 0 (-1)) ∧ frB s2 s' ∧ MB (pts n t).length (kdL (pts n t)) 0 s' := by
    by_cases he : pts n t = []
    · rw [he]
      refine ⟨s2, ?_, fun _ _ _ _ _ _ => rfl, fun k _ hk => by simp at hk⟩
      show g_X7_reads_55 (f_X7_reads_55 199) _ s2 = _
      unfold g_X7_reads_55 g_X7_reads_202
      rw [if_pos (by simp), gx_d (by omega) (by omega), sb_t]
      rfl
    · exact rd_all hlen (pts_wf he).1 (kOK_of hpl.1) (pts n t).length FU s2 (Nat.le_refl _) (by unfold FU; omega) (fun k hk => (hrow k hk).1) (fun k h1 h2 => by omega)
  obtain ⟨s3, d1, d2, d3⟩ := hloop
  rw [d1]
  refine ⟨_, rfl, ⟨?_, ?_, ?_, fun j hj => ?_, ?_, up_s⟩, fun q k x0 x1 => ?_⟩
  · rw [up_q (by decide), d2 0 3 (by decide) (by decide) (by decide) (by decide)]; exact c2
  · rw [up_q (by decide), d2 0 4 (by decide) (by decide) (by decide) (by decide)]; exact c3
  · rw [up_q (by decide), d2 0 5 (by decide) (by decide) (by decide) (by decide)]; exact c4
  · rw [up_q (by decide), up_q (by decide), up_q (by decide), d2 2 j (by decide) (by decide) (by decide) (by decide), d2 3 j (by decide) (by decide) (by decide) (by decide), d2 4 j (by decide) (by decide) (by decide) (by decide)]
    exact hrow j hj
  · intro k h1 h2
    obtain ⟨y1, y2, y3, y4⟩ := d3 k h1 h2
    refine ⟨by rw [up_q (by decide)]; exact y1, by rw [up_q (by decide)]; exact y2, fun h => by rw [up_k (by omega)]; exact y3 h, fun h => ⟨by rw [up_q (by decide)]; exact (y4 h).1, ?_⟩⟩
    rw [up_k (by have := sc_lt (np := (pts n t).length) (kd := kdL (pts n t)) (k := k); omega)]
    exact (y4 h).2
  · rw [up_q (by omega), d2 q k (by omega) (by omega) (by omega) (by omega)]
    exact c6 q k x0 (by omega) (by omega) (by omega)
