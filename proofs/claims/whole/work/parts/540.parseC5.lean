/-! ===== the class has read the text ===== -/
def CX1 (n : Nat) (t : Nat → Int) (s : SS) : Prop := n ≤ 40 ∧ s 1 8 = (n : Int) ∧ (∀ j, j < n → s 2 j = t j) ∧ (∀ j, j < n → 0 ≤ t j ∧ t j ≤ 255)
/-- the rows of the parts, in the class -/
def CP (np : Nat) (kd nu : Nat → Int) (s : SS) : Prop := ∀ j, j < np → s 3 j = kd j ∧ s 9 j = nu j ∧ s 7 j = (if ar (kd j) = 0 then -1 else ((j + 1 : Nat) : Int)) ∧ s 8 j = (if ar (kd j) = 2 then (scn np kd j : Int) else -1)
def CR (n : Nat) (t : Nat → Int) (s : SS) : Prop := s 1 9 = ((pts n t).length : Int) ∧ s 1 10 = (chs (pts n t) : Int) ∧ s 1 11 = fau n t ∧ CP (pts n t).length (kdL (pts n t)) (nuL (pts n t)) s ∧ (∀ j, j < (pts n t).length → s 4 j = beL (pts n t) j ∧ s 5 j = (sz (pts n t).length (kdL (pts n t)) j : Int)) ∧ (0 < (pts n t).length → s 6 0 = -1) ∧ (∀ j, 0 < j → j < (pts n t).length → ∃ k : Nat, isPar (pts n t).length (kdL (pts n t)) k j ∧ s 6 j = (k : Int))
theorem X0_sizeBelow_v (x : Int) (s : SS) (h9 : s 1 9 ≤ 40) : f_X0_sizeBelow x s = some (if 0 ≤ x ∧ x < s 1 9 then s 5 x.toNat else 0) := by
  unfold f_X0_sizeBelow g_X0_sizeBelow_18
  rw [X0_hasPart_v, bn_t]
  by_cases h : 0 ≤ x ∧ x < s 1 9
  · rw [if_pos h, if_pos (⟨h.1, h.2, by omega⟩ : 0 ≤ x ∧ x < s 1 9 ∧ x < 40), if_neg (by decide), gx_d (by omega) (by omega)]
  · have e : (if 0 ≤ x ∧ x < s 1 9 ∧ x < 40 then (1 : Int) else 0) = 0 := if_neg (fun q => h ⟨q.1, q.2.1⟩)
    rw [if_neg h, e, if_pos rfl]
theorem X0_meas {np : Nat} {kd nu : Nat → Int} (hnp : np ≤ 40) (hw : wfd np kd) : ∀ (c f : Nat) (s : SS), c ≤ np → c < f → s 1 9 = (np : Int) → CP np kd nu s → (∀ j, c ≤ j → j < np → s 5 j = (sz np kd j : Int)) →
    ∃ s', f_X0_measure_7 f ((c : Int) - 1) s = some s' ∧ (∀ j, j < np → s' 5 j = (sz np kd j : Int)) ∧ ∀ q k, q ≠ 5 → s' q k = s q k := by
  intro c
  induction c with
  | zero =>
    intro f s _ hf _ _ h5
    match f, hf with
    | f + 1, _ =>
      refine ⟨s, ?_, fun j hj => h5 j (by omega) hj, fun _ _ _ => rfl⟩
      show g_X0_measure_7 (f_X0_measure_7 f) _ s = _
      unfold g_X0_measure_7 g_X0_measure_62
      rw [if_pos (by omega)]
  | succ c ih =>
    intro f s hc hf h9 hP h5
    match f, hf with
    | f + 1, hf =>
      have hcn : c < np := by omega
      obtain ⟨p3, p9, p7, p8⟩ := hP c hcn
      rw [show ((c + 1 : Nat) : Int) - 1 = (c : Int) by omega]
      show ∃ s', g_X0_measure_7 (f_X0_measure_7 f) _ s = _ ∧ _
      have esz : sz np kd c = szF kd c (sz np kd (c + 1)) (sz np kd (scn np kd c)) := EV_eq hw (szF_ok kd) hcn
      have hle := sz_le hw c hcn
      have hwi := (wi_sub hw hcn).2.1
      have fst : (if 0 ≤ s 7 c ∧ s 7 c < s 1 9 then s 5 (s 7 c).toNat else 0) = ((if ar (kd c) = 0 then 0 else sz np kd (c + 1) : Nat) : Int) := by
        rw [p7, h9]
        by_cases h0 : ar (kd c) = 0
        · rw [if_pos h0, if_pos h0, if_neg (by omega)]; rfl
        · have := wf_1 hw hcn h0
          rw [if_neg h0, if_neg h0, if_pos (by omega), tn_c]
          exact h5 (c + 1) (by omega) this
      have snd : (if 0 ≤ s 8 c ∧ s 8 c < s 1 9 then s 5 (s 8 c).toNat else 0) = ((if ar (kd c) = 2 then sz np kd (scn np kd c) else 0 : Nat) : Int) := by
        rw [p8, h9]
        by_cases h0 : ar (kd c) = 2
        · have h1 := wf_2 hw hcn h0
          have h2 := sc_gt hw hcn h0
          rw [if_pos h0, if_pos h0, if_pos (by omega), tn_c]
          exact h5 _ (by omega) h1
        · rw [if_neg h0, if_neg h0, if_neg (by omega)]; rfl
      have fin : ∀ z : Int, z = (if kd c = 4 then 2 else 1) → ∃ s', g_X0_measure_26 (f_X0_measure_7 f) (c : Int) z s = some s' ∧ (∀ j, j < np → s' 5 j = (sz np kd j : Int)) ∧ ∀ q k, q ≠ 5 → s' q k = s q k := by
        intro z hz
        unfold g_X0_measure_26
        rw [gx_d (by omega) (by omega), tn_c, X0_sizeBelow_v _ _ (by omega), bn_t, gx_d (by omega) (by omega), X0_sizeBelow_v _ _ (by omega), bn_t, gx_d (by omega) (by omega), fst, snd]
        have ez : z + ((if ar (kd c) = 0 then 0 else sz np kd (c + 1) : Nat) : Int) + ((if ar (kd c) = 2 then sz np kd (scn np kd c) else 0 : Nat) : Int) = (sz np kd c : Int) := by
          rw [esz, hz]
          unfold szF
          split <;> split <;> split <;> omega
        have hz2 : 1 ≤ z ∧ z ≤ 2 := by rw [hz]; split <;> omega
        rw [wr_t (a := z + _) (by omega) (by omega), ez, wr_t (by omega) (by omega), sb_t, sb_t, wr_t (by omega) (by omega), show (c : Int) + -1 = (c : Int) - 1 by omega]
        have g : ∀ q k, q ≠ 5 → (up s 5 c (sz np kd c : Int)) q k = s q k := fun q k hq => up_q hq
        obtain ⟨s', a1, a2, a3⟩ := ih f (up s 5 c (sz np kd c : Int)) (by omega) (by omega) (by rw [g 1 9 (by decide)]; exact h9) (fun j hj => by rw [g 3 j (by decide), g 9 j (by decide), g 7 j (by decide), g 8 j (by decide)]; exact hP j hj) (fun j j0 j1 => by
          by_cases hjc : j = c
          · subst hjc; exact up_s
          · rw [up_k hjc]; exact h5 j (by omega) j1)
        exact ⟨s', a1, a2, fun q k hq => by rw [a3 q k hq, g q k hq]⟩
      unfold g_X0_measure_7
      rw [if_neg (by omega), gx_d (by omega) (by omega), tn_c, p3]
      by_cases h4 : kd c = 4
      · rw [if_pos h4]; exact fin 2 (by rw [if_pos h4])
      · rw [if_neg h4]; exact fin 1 (by rw [if_neg h4])
def frC (s s' : SS) : Prop := ∀ q k, (q = 1 → k ≠ 9 ∧ k ≠ 10 ∧ k ≠ 11 ∧ k ≠ 12) → (q < 3 ∨ 9 < q) → s' q k = s q k
theorem X0_meas0 {s : SS} (h : s 1 9 = 0) : f_X0_measure s = some s := by
  unfold f_X0_measure
  rw [h, sb_t]
  show g_X0_measure_7 (f_X0_measure_7 199) _ s = _
  unfold g_X0_measure_7 g_X0_measure_62
  rw [if_pos (by decide)]
theorem kdL_map (P : List Pt) : (fun j => (P.map (fun x => x.1)).getD j 0) = kdL P := by
  funext j
  unfold kdL
  simp only [List.getD_eq_getElem?_getD, List.getElem?_map]
  cases P[j]? <;> rfl
theorem X0_parse_v {n : Nat} {t : Nat → Int} {s : SS} (h : CX1 n t s) : ∃ s', f_X0_parse s = some s' ∧ CR n t s' ∧ frC s s' := by
  obtain ⟨hn, h8, h2, hb⟩ := h
  unfold f_X0_parse
  simp only [sb_t]
  generalize hs4 : up (up (up (up s 1 9 0) 1 10 0) 1 11 (-1)) 1 12 (-1) = s4
  have f4 : ∀ q k, (q = 1 → k ≠ 9 ∧ k ≠ 10 ∧ k ≠ 11 ∧ k ≠ 12) → s4 q k = s q k := by
    intro q k hq
    rw [← hs4]
    by_cases h1 : q = 1
    · subst h1
      obtain ⟨a, b, c, d⟩ := hq rfl
      rw [up_k d, up_k c, up_k b, up_k a]
    · rw [up_q h1, up_q h1, up_q h1, up_q h1]
  have e9 : s4 1 9 = 0 := by rw [← hs4, up_k (by decide), up_k (by decide), up_k (by decide), up_s]
  have e10 : s4 1 10 = 0 := by rw [← hs4, up_k (by decide), up_k (by decide), up_s]
  have e11 : s4 1 11 = -1 := by rw [← hs4, up_k (by decide), up_s]
  have e12 : s4 1 12 = -1 := by rw [← hs4, up_s]
  have e8 : s4 1 8 = (n : Int) := by rw [f4 1 8 (fun _ => by decide)]; exact h8
  clear hs4
  -- with a fault there are no parts
  have wrong : ∀ s1 : SS, frP s4 s1 → s1 1 11 = fau n t → fau n t ≠ -1 → ∃ s', g_X0_parse_96 s1 = some s' ∧ CR n t s' ∧ frC s s' := by
    intro s1 hf h11 hne
    have e0 : pts n t = [] := by unfold pts; rw [if_neg hne]
    unfold g_X0_parse_96 g_X0_parse_114
    rw [h11, if_neg hne, sb_t, sb_t, X0_meas0 (by rw [up_k (by decide), up_s]), bn_t]
    refine ⟨_, rfl, ?_, fun q k x1 x2 => ?_⟩
    · unfold CR
      rw [e0]
      exact ⟨by rw [up_k (by decide), up_s]; rfl, by rw [up_s]; rfl, by rw [up_k (by decide), up_k (by decide)]; exact h11, fun j hj => by simp at hj, fun j hj => by simp at hj, fun q => by simp at q, fun j _ hj => by simp at hj⟩
    · by_cases hq : q = 1
      · subst hq
        obtain ⟨a, b, c, d⟩ := x1 rfl
        rw [up_k b, up_k a, hf 1 k x1 (by decide) (by decide) (by decide) (by decide) (by decide) (by decide)]
        exact f4 1 k x1
      · rw [up_q hq, up_q hq, hf q k x1 (by omega) (by omega) (by omega) (by omega) (by omega) (by omega)]
        exact f4 q k x1
  by_cases hn0 : n = 0
  · have ef : fau n t = -1 := by subst hn0; rfl
    have ep : pts n t = [] := by subst hn0; rfl
    have eu : f_X0_parse_22 FU 0 s4 = g_X0_parse_72 s4 := by
      show g_X0_parse_22 (f_X0_parse_22 199) 0 s4 = _
      unfold g_X0_parse_22
      rw [if_pos (by rw [e8]; omega)]
    rw [eu]
    unfold g_X0_parse_72 g_X0_parse_96 g_X0_parse_114
    rw [if_pos e11, if_pos e12, if_pos e11, X0_meas0 e9, bn_t]
    refine ⟨s4, rfl, ?_, fun q k x1 _ => f4 q k x1⟩
    unfold CR
    rw [ep, ef]
    exact ⟨e9, e10, e11, fun j hj => by simp at hj, fun j hj => by simp at hj, fun q => by simp at q, fun j _ hj => by simp at hj⟩
  · have efau : fau n t = (prs t n 0 1 0 false).1 := by unfold fau; rw [if_neg hn0]
    obtain ⟨s1, a1, a2, a3, a4, a5⟩ := X0_loop hn (by omega) t (fun j => (bgn t n 0 1 0 false).getD j 0) hb n 0 1 0 0 FU false [] s4 (by omega) (by unfold FU; omega) (by omega) (fun q => by omega) (by omega) e8 e11 e10 (fun j hj => by rw [f4 2 j (fun q => by cases q)]; exact h2 j hj)
      ⟨e9, e12, fun j hj => by omega, fun o ho => (by cases ho), trivial, Or.inl rfl, fun j hj => by omega, fun j hj => by omega, ⟨fun q => by omega, fun j _ hj => by omega⟩⟩ rfl (fun _ j hj => by omega) (fun q => by cases q) (fun j hj => by rw [Nat.zero_add])
    have a1' : f_X0_parse_22 FU 0 s4 = g_X0_parse_72 s1 := a1
    rw [a1']
    rw [← efau] at a4 a5
    simp only [if_false, Bool.false_eq_true, Nat.zero_add] at a4
    by_cases hf : fau n t = -1
    · have ep : pts n t = (prs t n 0 1 0 false).2 := by unfold pts; rw [if_pos hf, if_neg hn0]
      obtain ⟨b1, b2, b3, b4, -⟩ := a4 hf
      rw [← ep] at b2 b3 b4
      have hkm : (fun j => (bgn t n 0 1 0 false).getD j 0) = kdL (pts n t) := by
        have := bgn_prs t n 0 1 0 false (by rw [← efau]; exact hf)
        rw [← ep] at this
        simp only [if_false, Bool.false_eq_true, List.nil_append] at this
        rw [← this]
        exact kdL_map _
      rw [hkm] at b2
      obtain ⟨c1, c2, c3, -, -, c6, c7, c8, c9⟩ := b2
      have hne : pts n t ≠ [] := by
        intro q
        have hl := (pts_ok n t)
        rw [q] at c6
        rcases c6 with w | w
        · -- a text without parts
          have h1 := prs_ok t n 0 1 0 false (by omega) (fun q => by cases q) (by rw [← efau]; exact hf)
          rw [← ep, q] at h1
          have := h1.2.1
          simp [nde] at this
        · have := w.1; simp at this
      obtain ⟨hw, -⟩ := pts_wf hne
      have hlen : (pts n t).length ≤ 40 := by have := (pts_ok n t).2; omega
      generalize hnp : (pts n t).length = np at *
      generalize hkd : kdL (pts n t) = kd at *
      have hCP : CP np kd (nuL (pts n t)) s1 := by
        intro j hj
        have r4 := b4 j (by omega)
        rw [Nat.zero_add] at r4
        refine ⟨(c3 j hj).1, r4.1, ?_, ?_⟩
        · rw [c7 j hj]
          by_cases h0 : ar (kd j) = 0
          · rw [if_pos h0, if_neg (fun q => q.1 h0)]
          · rw [if_neg h0, if_pos ⟨h0, wf_1 hw hj h0⟩]
        · by_cases h0 : ar (kd j) = 2
          · rw [if_pos h0]
            have hsub : Sub kd (j + 1) (scn np kd j) := (wi_sub hw (wf_1 hw hj (by omega))).2.2
            rcases c8 j hj with ⟨-, q⟩ | ⟨e, -, -, q2, q3⟩
            · exact absurd hsub (q h0 _ (wf_2 hw hj h0))
            · rw [q3, hsub.unique q2]
          · rw [if_neg h0]
            rcases c8 j hj with ⟨q, -⟩ | ⟨e, -, q2, -, -⟩
            · exact q
            · exact absurd q2 h0
      obtain ⟨s', d1, d2, d3⟩ := X0_meas (nu := nuL (pts n t)) hlen hw np FU s1 (Nat.le_refl _) (by unfold FU; omega) c1 hCP (fun j j0 j1 => by omega)
      unfold g_X0_parse_72 g_X0_parse_96 g_X0_parse_114
      have c2' : s1 1 12 = -1 := c2
      rw [if_pos b1, if_pos c2', if_pos b1]
      unfold f_X0_measure
      rw [c1, sb_t, wr_t (by omega) (by omega), d1, bn_t]
      refine ⟨s', rfl, ?_, fun q k x1 x2 => ?_⟩
      · unfold CR
        rw [hnp, hkd, hf]
        refine ⟨by rw [d3 1 9 (by decide)]; exact c1, by rw [d3 1 10 (by decide), b3], by rw [d3 1 11 (by decide)]; exact b1, fun j hj => by rw [d3 3 j (by decide), d3 9 j (by decide), d3 7 j (by decide), d3 8 j (by decide)]; exact hCP j hj, fun j hj => ⟨?_, d2 j hj⟩, fun q => by rw [d3 6 0 (by decide)]; exact c9.1 q, fun j j0 j1 => ?_⟩
        · have r4 := b4 j (by omega)
          rw [Nat.zero_add] at r4
          rw [d3 4 j (by decide)]
          exact r4.2
        · obtain ⟨k, k1, k2, k3⟩ := c9.2 j j0 j1
          refine ⟨k, ⟨by omega, ?_⟩, by rw [d3 6 j (by decide)]; exact k2⟩
          rcases k3 with q | ⟨q1, q2⟩
          · exact Or.inl q
          · have hsub : Sub kd (k + 1) (scn np kd k) := (wi_sub hw (wf_1 hw (by omega) (by omega))).2.2
            exact Or.inr ⟨q1, q2.unique hsub⟩
      · rw [d3 q k (by omega), a3 q k x1 (by omega) (by omega) (by omega) (by omega) (by omega) (by omega)]
        exact f4 q k x1
    · unfold g_X0_parse_72
      rcases a5 hf with q | ⟨q1, q2, q3⟩
      · rw [if_neg (by rw [q]; exact hf)]
        exact wrong s1 a3 q hf
      · rw [if_pos q1, if_neg q2, sb_t]
        refine wrong _ (fun q k x1 x3 x4 x6 x7 x8 x9 => ?_) (by rw [up_s, a2, q3]) hf
        by_cases hq : q = 1
        · subst hq; rw [up_k (x1 rfl).2.2.1]; exact a3 1 k x1 x3 x4 x6 x7 x8 x9
        · rw [up_q hq]; exact a3 q k x1 x3 x4 x6 x7 x8 x9
