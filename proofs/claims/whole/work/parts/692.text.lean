/-! ===== the text, the width ===== -/
section TXT
variable {n : Nat} {t : Nat → Int} {W : Int} {s s' : SS}
theorem CX1_ext (h : CX1 n t s) (f : ∀ q k, 1 ≤ q → q ≤ 40 → s' q k = s q k) : CX1 n t s' := by
  refine ⟨h.1, ?_, fun j hj => ?_, h.2.2.2⟩
  · rw [f 1 8 (by decide) (by decide)]; exact h.2.1
  · rw [f 2 j (by decide) (by decide)]; exact h.2.2.1 j hj
theorem CB_ext (h : CB n t W s) (f : ∀ q k, 1 ≤ q → q ≤ 40 → s' q k = s q k) (f0 : ∀ k, k ≠ 7 → s' 0 k = s 0 k) : CB n t W s' := by
  obtain ⟨h1, ⟨h2, h3, h4, ⟨m1, m2, m3⟩, h6⟩, ⟨⟨a1, a2⟩, a3, a4, a5, a6, a7⟩, h8, h9, h10, h11, h12, h13⟩ := h
  obtain ⟨b1, b2, b3, b4, b5, b6, b7⟩ := h4
  have g : ∀ q k, 1 ≤ q → q ≤ 9 → s' q k = s q k := fun q k _ _ => f q k (by omega) (by omega)
  refine ⟨CX1_ext h1 f, ⟨h2, h3, ⟨?_, ?_, ?_, fun k hk => ?_, fun j hj => ?_, fun h0 => ?_, fun j h1 h2 => ?_⟩, ⟨?_, ?_, fun k k1 k2 => ?_⟩, fun h0 => ?_⟩, ⟨⟨?_, fun w hw => shO_ext (a2 w hw) (fun p _ _ => f p w (by omega) (by omega))⟩, ?_, ?_, fun j hj => ?_, a6, a7⟩, ?_, h9, ?_, ?_, fun x hx => shAt_ext (h12 x hx) (fun p _ _ => f p 0 (by omega) (by omega)), CL_ext h13 (fun q k _ _ => f q k (by omega) (by omega))⟩
  · rw [g 1 9 (by decide) (by decide)]; exact b1
  · rw [g 1 10 (by decide) (by decide)]; exact b2
  · rw [g 1 11 (by decide) (by decide)]; exact b3
  · rw [g 3 k (by decide) (by decide), g 9 k (by decide) (by decide), g 7 k (by decide) (by decide), g 8 k (by decide) (by decide)]; exact b4 k hk
  · rw [g 4 j (by decide) (by decide), g 5 j (by decide) (by decide)]; exact b5 j hj
  · rw [g 6 0 (by decide) (by decide)]; exact b6 h0
  · rw [g 6 j (by decide) (by decide)]; exact b7 j h1 h2
  · rw [f 10 2 (by decide) (by decide)]; exact m1
  · rw [f 10 3 (by decide) (by decide)]; exact m2
  · obtain ⟨y1, y2, y3, y4⟩ := m3 k k1 k2
    exact ⟨by rw [f 16 k (by decide) (by decide)]; exact y1, fun j hj => shAt_ext (y2 j hj) (fun p _ _ => f p _ (by omega) (by omega)), y3, y4⟩
  · rw [f 16 0 (by decide) (by decide)]; exact h6 h0
  · rw [f 22 6 (by decide) (by decide)]; exact a1
  · rw [f 22 5 (by decide) (by decide)]; exact a3
  · rw [f 22 4 (by decide) (by decide)]; exact a4
  · rw [f 34 j (by decide) (by decide)]; exact a5 j hj
  · rw [f0 6 (by decide)]; exact h8
  · rw [f0 8 (by decide)]; exact h10
  · rw [f0 9 (by decide)]; exact h11
theorem TX_ext (h : TX n t W s) (h0 : s' 0 0 = s 0 0) (h2 : s' 0 2 = s 0 2) (h1 : ∀ j, s' 1 j = s 1 j) : TX n t W s' := by
  obtain ⟨⟨a1, a2, a3, a4⟩, b1, b2, b3⟩ := h
  exact ⟨⟨a1, by rw [h0]; exact a2, fun j hj => by rw [h1]; exact a3 j hj, a4⟩, by rw [h2]; exact b1, b2, b3⟩
end TXT
/-- the text is the same, but the class has not worked it out yet -/
def INW (n : Nat) (t : Nat → Int) (W : Int) (c m : SS) : Prop := CX1 n t c ∧ c 0 6 = W ∧ TX n t W m ∧ c 0 7 = m 0 30 ∧ ∀ j, j < 4 → SHT c m j
section TOK
variable {n : Nat} {t : Nat → Int} {W : Int} {c m : SS}
theorem INW_of (hC : CB n t W c) (hT : TX n t W m) (h7 : c 0 7 = m 0 30) (hS : ∀ j, j < 4 → SHT c m j) : INW n t W c m := ⟨hC.1, hC.2.2.2.1, hT, h7, hS⟩
theorem INW_rc (h : INW n t W c m) : ∃ c2 c3, f_X6_readDoc c = some c2 ∧ f_X6_chooseBest c2 = some c3 ∧ CB n t W c3 ∧ INV c3 m := by
  obtain ⟨a1, a2, a3, a4, a5⟩ := h
  obtain ⟨c2, c3, b1, b2, b3, b4, b5⟩ := X6_rc_v a1 a2 a3.2.2
  exact ⟨c2, c3, b1, b2, b3, n, t, W, b3, a3, by rw [b5]; exact a4, fun j hj => SHT_ext (a5 j hj) (fun k => b4 _ k (by omega)) (fun k => b4 _ k (by omega)) rfl rfl rfl (fun _ _ => rfl)⟩
/-- a byte comes -/
def txN (n : Nat) (t : Nat → Int) (b : Int) : Nat → Int := fun j => if j = n then b else t j
theorem ap_c (h : CX1 n t c) (b : Int) : f_X0_append b c = if n < 40 then some (1, up (up c 2 n b) 1 8 ((n + 1 : Nat) : Int)) else some (0, c) := by
  unfold f_X0_append g_X0_append_19
  obtain ⟨h1, h2, -, -⟩ := h
  by_cases q : n < 40
  · rw [h2, if_neg (by omega), if_pos (by omega), gx_d (by omega) (by omega), sb_t, sb_t, tn_c, up_q (by decide), h2, wr_t (by omega) (by omega), if_pos q]
    rfl
  · rw [h2, if_neg (by omega), if_neg (by omega), if_neg q]
theorem ap_m (h : TX n t W m) (b : Int) : f_X7_type b m = if 0 ≤ b ∧ b ≤ 255 then (if n < 40 then some (((n + 1 : Nat) : Int), up (up m 1 n b) 0 0 ((n + 1 : Nat) : Int)) else some (-4, m)) else some (-2, m) := by
  unfold f_X7_type
  obtain ⟨⟨h1, h2, -, -⟩, -⟩ := h
  rw [X7_in_v, bn_t]
  by_cases q0 : 0 ≤ b ∧ b ≤ 255
  · rw [if_pos q0, if_neg (show ¬ (1 : Int) = 0 by decide), if_pos q0, h2]
    by_cases q : n < 40
    · have e00 : up m 1 n b 0 0 = (n : Int) := by rw [up_q (by decide)]; exact h2
      rw [if_neg (by omega), gx_d (by omega) (by omega), sb_t, sb_t, tn_c, up_s, e00, wr_t (by omega) (by omega), if_pos q]
      rfl
    · rw [if_pos (by omega), if_neg q]
  · rw [if_neg q0, if_pos rfl, if_neg q0]
theorem INW_ap (h : INW n t W c m) (hn : n < 40) {b : Int} (hb : 0 ≤ b ∧ b ≤ 255) : INW (n + 1) (txN n t b) W (up (up c 2 n b) 1 8 ((n + 1 : Nat) : Int)) (up (up m 1 n b) 0 0 ((n + 1 : Nat) : Int)) := by
  obtain ⟨⟨a1, a2, a3, a4⟩, b1, ⟨⟨c1, c2, c3, c4⟩, d1, d2⟩, e1, e2⟩ := h
  have tb : ∀ j, j < n + 1 → 0 ≤ txN n t b j ∧ txN n t b j ≤ 255 := by
    intro j hj
    unfold txN
    by_cases q : j = n
    · rw [if_pos q]; exact hb
    · rw [if_neg q]; exact a4 j (by omega)
  refine ⟨⟨by omega, up_s, fun j hj => ?_, tb⟩, ?_, ⟨⟨by omega, up_s, fun j hj => ?_, tb⟩, ?_, d2⟩, ?_, fun j hj => ?_⟩
  · rw [up_q (by decide)]
    unfold txN
    by_cases q : j = n
    · rw [if_pos q, q, up_s]
    · rw [if_neg q, up_k q]; exact a3 j (by omega)
  · rw [up_q (by decide), up_q (by decide)]; exact b1
  · rw [up_q (by decide)]
    unfold txN
    by_cases q : j = n
    · rw [if_pos q, q, up_s]
    · rw [if_neg q, up_k q]; exact c3 j (by omega)
  · rw [up_k (by decide), up_q (by decide)]; exact d1
  · rw [up_q (by decide), up_q (by decide), up_k (by decide), up_q (by decide)]; exact e1
  · exact SHT_ext (e2 j hj) (fun k => by rw [up_q (by omega), up_q (by omega)]) (fun k => by rw [up_q (by omega), up_q (by omega)]) (by rw [up_q (by decide), up_q (by decide)]) (by rw [up_q (by decide), up_q (by decide)]) (by rw [up_q (by decide), up_q (by decide)]) (fun i _ => by rw [up_q (by decide), up_q (by decide)])
theorem X6_isByte_v (x : Int) : f_X6_isByte x = some (if 0 ≤ x ∧ x ≤ 255 then 1 else 0) := by
  unfold f_X6_isByte g_X6_isByte_15 g_X6_isByte_16
  by_cases h1 : x < 0
  · rw [if_pos h1, if_neg (by omega), gb_0]
  · rw [if_neg h1]
    by_cases h2 : 255 < x
    · rw [if_pos h2, if_neg (by omega), gb_0]
    · rw [if_neg h2, if_pos (by omega), gb_1]
theorem ok_type : SOK vI M_X6_type M_X7_type 1 INV := by
  intro c m as hl _ _ _ hI
  match as, hl with
  | [x], _ =>
    obtain ⟨n, t, W, hC, hT, h7, hS⟩ := id hI
    have em := ap_m hT x
    have ec := ap_c hC.1 x
    by_cases q0 : 0 ≤ x ∧ x ≤ 255
    · rw [if_pos q0] at em
      by_cases q : n < 40
      · rw [if_pos q] at em ec
        obtain ⟨c2, c3, b1, b2, b3, b4⟩ := INW_rc (INW_ap (INW_of hC hT h7 hS) q q0)
        refine ⟨_, c3, _, c_X6_type ?_, c_X7_type em, b4⟩
        unfold f_X6_type
        rw [X6_isByte_v, bn_t, if_pos q0, if_neg (show ¬ (1 : Int) = 0 by decide), ec, cb_t, if_neg (show ¬ (1 : Int) = 0 by decide), b1, bn_t, b2, bn_t, b3.1.2.1]
      · rw [if_neg q] at em ec
        refine ⟨_, c, m, c_X6_type ?_, c_X7_type em, hI⟩
        unfold f_X6_type
        rw [X6_isByte_v, bn_t, if_pos q0, if_neg (show ¬ (1 : Int) = 0 by decide), ec, cb_t, if_pos rfl]
    · rw [if_neg q0] at em
      refine ⟨_, c, m, c_X6_type ?_, c_X7_type em, hI⟩
      unfold f_X6_type
      rw [X6_isByte_v, bn_t, if_neg q0, if_pos rfl]
theorem INW_cut (h : INW n t W c m) {k : Nat} (hk : k ≤ n) : INW k t W (up c 1 8 (k : Int)) (up m 0 0 (k : Int)) := by
  obtain ⟨⟨a1, a2, a3, a4⟩, b1, ⟨⟨c1, c2, c3, c4⟩, d1, d2⟩, e1, e2⟩ := h
  refine ⟨⟨by omega, up_s, fun j hj => ?_, fun j hj => a4 j (by omega)⟩, ?_, ⟨⟨by omega, up_s, fun j hj => ?_, fun j hj => a4 j (by omega)⟩, ?_, d2⟩, ?_, fun j hj => ?_⟩
  · rw [up_q (by decide)]; exact a3 j (by omega)
  · rw [up_q (by decide)]; exact b1
  · rw [up_q (by decide)]; exact c3 j (by omega)
  · rw [up_k (by decide)]; exact d1
  · rw [up_q (by decide), up_k (by decide)]; exact e1
  · exact SHT_ext (e2 j hj) (fun k => by rw [up_q (by omega)]) (fun k => by rw [up_q (by omega)]) (by rw [up_q (by decide)]) (by rw [up_q (by decide)]) (by rw [up_q (by decide)]) (fun i _ => by rw [up_q (by decide)])
theorem ok_wipe : SOK vI M_X6_wipe M_X7_wipe 0 INV := by
  intro c m as hl _ _ _ hI
  match as, hl with
  | [], _ =>
    obtain ⟨n, t, W, hC, hT, h7, hS⟩ := id hI
    obtain ⟨c2, c3, b1, b2, b3, b4⟩ := INW_rc (INW_cut (k := 0) (INW_of hC hT h7 hS) (by omega))
    have b1' : f_X6_readDoc (up c 1 8 0) = some c2 := b1
    refine ⟨(n : Int), c3, _, c_X6_wipe ?_, c_X7_wipe ?_, b4⟩
    · unfold f_X6_wipe
      rw [sb_t, sb_t, b1', bn_t, b2, bn_t, hC.1.2.1]
    · unfold f_X7_wipe
      rw [sb_t, sb_t, hT.1.2.1]
      rfl
theorem ok_undo : SOK vI M_X6_undo M_X7_undo 0 INV := by
  intro c m as hl _ _ _ hI
  match as, hl with
  | [], _ =>
    obtain ⟨n, t, W, hC, hT, h7, hS⟩ := id hI
    have hn := hC.1.1
    by_cases q : n = 0
    · refine ⟨-3, c, m, c_X6_undo ?_, c_X7_undo ?_, hI⟩
      · unfold f_X6_undo
        rw [hC.1.2.1, if_pos (by omega)]
      · unfold f_X7_undo
        rw [hT.1.2.1, if_pos (by omega)]
    · obtain ⟨c2, c3, b1, b2, b3, b4⟩ := INW_rc (INW_cut (k := n - 1) (INW_of hC hT h7 hS) (by omega))
      refine ⟨((n - 1 : Nat) : Int), c3, _, c_X6_undo ?_, c_X7_undo ?_, b4⟩
      · unfold f_X6_undo
        rw [hC.1.2.1, if_neg (by omega), sb_t, wr_t (by omega) (by omega), show (n : Int) - 1 = ((n - 1 : Nat) : Int) by omega, b1, bn_t, b2, bn_t, b3.1.2.1]
      · unfold f_X7_undo
        rw [hT.1.2.1, if_neg (by omega), sb_t, wr_t (by omega) (by omega), show (n : Int) - 1 = ((n - 1 : Nat) : Int) by omega, up_s]
theorem ok_width : SOK vI M_X6_width M_X7_width 1 INV := by
  intro c m as hl _ _ _ hI
  match as, hl with
  | [x], _ =>
    obtain ⟨n, t, W, hC, hT, h7, hS⟩ := id hI
    by_cases q : 1 ≤ x ∧ x ≤ 99
    · have hX : CX1 n t (up c 0 6 x) := CX1_ext hC.1 (fun q k _ _ => by rw [up_q (by omega)])
      have hR : CR n t (up c 0 6 x) := by
        obtain ⟨b1, b2, b3, b4, b5, b6, b7⟩ := hC.2.1.2.2.1
        have g : ∀ q k, 1 ≤ q → up c 0 6 x q k = c q k := fun q k _ => up_q (by omega)
        refine ⟨?_, ?_, ?_, fun k hk => ?_, fun j hj => ?_, fun h0 => ?_, fun j h1 h2 => ?_⟩
        · rw [g 1 9 (by decide)]; exact b1
        · rw [g 1 10 (by decide)]; exact b2
        · rw [g 1 11 (by decide)]; exact b3
        · rw [g 3 k (by decide), g 9 k (by decide), g 7 k (by decide), g 8 k (by decide)]; exact b4 k hk
        · rw [g 4 j (by decide), g 5 j (by decide)]; exact b5 j hj
        · rw [g 6 0 (by decide)]; exact b6 h0
        · rw [g 6 j (by decide)]; exact b7 j h1 h2
      have hW : CW n t (up c 0 6 x) := by
        obtain ⟨⟨a1, a2⟩, a3, a4, a5, a6, a7⟩ := hC.2.2.1
        have g : ∀ q k, 1 ≤ q → up c 0 6 x q k = c q k := fun q k _ => up_q (by omega)
        refine ⟨⟨?_, fun w hw => shO_ext (a2 w hw) (fun p _ _ => g p w (by omega))⟩, ?_, ?_, fun j hj => ?_, a6, a7⟩
        · rw [g 22 6 (by decide)]; exact a1
        · rw [g 22 5 (by decide)]; exact a3
        · rw [g 22 4 (by decide)]; exact a4
        · rw [g 34 j (by decide)]; exact a5 j hj
      obtain ⟨c3, b2, b3, b4⟩ := X6_chooseBest_v hX hR hW (W := x) up_s q
      refine ⟨W, c3, up m 0 2 x, c_X6_width ?_, c_X7_width ?_, n, t, x, b3, ?_, ?_, fun j hj => ?_⟩
      · unfold f_X6_width
        rw [if_neg (by omega), if_pos q.2, sb_t, sb_t, b2, bn_t, hC.2.2.2.1]
      · unfold f_X7_width
        rw [X7_in_v, bn_t, if_pos q, if_neg (show ¬ (1 : Int) = 0 by decide), sb_t, sb_t, hT.2.1]
      · obtain ⟨⟨a1, a2, a3, a4⟩, -⟩ := hT
        exact ⟨⟨a1, by rw [up_k (by decide)]; exact a2, fun j hj => by rw [up_q (by decide)]; exact a3 j hj, a4⟩, up_s, q⟩
      · rw [b4 0 7 (fun _ => by decide) (by omega), up_k (by decide), up_k (by decide)]; exact h7
      · exact SHT_ext (hS j hj) (fun k => by rw [b4 _ k (by omega) (by omega), up_q (by omega)]) (fun k => by rw [b4 _ k (by omega) (by omega), up_q (by omega)]) (by rw [up_q (by decide)]) (by rw [up_q (by decide)]) (by rw [up_q (by decide)]) (fun i _ => by rw [up_q (by decide)])
    · refine ⟨-2, c, m, c_X6_width ?_, c_X7_width ?_, hI⟩
      · unfold f_X6_width g_X6_width_11
        by_cases q1 : x < 1
        · rw [if_pos q1]
        · rw [if_neg q1, if_neg (by omega)]
      · unfold f_X7_width
        rw [X7_in_v, bn_t, if_neg q, if_pos rfl]
end TOK
