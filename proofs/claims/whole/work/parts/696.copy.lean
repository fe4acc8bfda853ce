/-! ===== read, copy, write ===== -/
section RCW
variable {n : Nat} {t : Nat → Int} {W : Int} {c m : SS}
theorem rd28 {j : Nat} (hj : j < 4) : ∀ (r i fC fM n : Nat) (t : Nat → Int) (c m : SS) (k : Nat), i + r = k → r < fC → r < fM → k ≤ 60 → c (42 + 2 * j) 2 = (k : Int) → m 18 j = (k : Int) → (∀ i, i < k → c (43 + 2 * j) i = m 19 (60 * j + i)) → INW n t W c m → ∃ (y : Int) (c' m' : SS), f_X6_read_28 fC (42 + 2 * j) (i : Int) c = some (y, c') ∧ f_X7_read_27 fM (j : Int) (i : Int) m = some (y, m') ∧ INV c' m' := by
  intro r
  have fin : ∀ {n : Nat} {t : Nat → Int} {c m : SS} (y : Int), INW n t W c m → ∃ c', g_X6_read_68 y c = some (y, c') ∧ INV c' m := by
    intro n t c m y h
    obtain ⟨c2, c3, b1, b2, b3, b4⟩ := INW_rc h
    refine ⟨c3, ?_, b4⟩
    unfold g_X6_read_68
    rw [b1, bn_t, b2, bn_t]
  induction r with
  | zero =>
    intro i fC fM n t c m k hi hC hM hk h2 h18 h6 hW
    match fC, fM, hC, hM with
    | fC + 1, fM + 1, _, _ =>
      obtain ⟨c', a1, a2⟩ := fin (i : Int) hW
      refine ⟨(i : Int), c', m, ?_, ?_, a2⟩
      · show g_X6_read_28 (f_X6_read_28 fC) _ _ c = _
        unfold g_X6_read_28
        rw [h2, if_pos (by omega)]
        exact a1
      · show g_X7_read_27 (f_X7_read_27 fM) _ _ m = _
        unfold g_X7_read_27 g_X7_read_61
        rw [gx_d (by omega) (by omega), tn_c, h18, if_pos (by omega)]
  | succ r ih =>
    intro i fC fM n t c m k hi hC hM hk h2 h18 h6 hW
    match fC, fM, hC, hM with
    | fC + 1, fM + 1, hC, hM =>
      have ei : wr (wr (60 * (j : Int)) + (i : Int)) = ((60 * j + i : Nat) : Int) := by
        rw [wr_t (a := 60 * (j : Int)) (by omega) (by omega), wr_t (by omega) (by omega)]
        omega
      have ew : wr ((i : Int) + 1) = ((i + 1 : Nat) : Int) := by rw [wr_t (by omega) (by omega)]; omega
      have eI : f_X4_itemAt (42 + 2 * j) (i : Int) c = some (m 19 (60 * j + i)) := by
        rw [X4_itemAt_v h2 hk (by omega), show 42 + 2 * j + 1 = 43 + 2 * j by omega, h6 i (by omega)]
      have ec := ap_c hW.1 (m 19 (60 * j + i))
      have em := ap_m hW.2.2.1 (m 19 (60 * j + i))
      have uC : f_X6_read_28 (fC + 1) (42 + 2 * j) (i : Int) c = if 0 ≤ m 19 (60 * j + i) ∧ m 19 (60 * j + i) ≤ 255 then (cb (f_X0_append (m 19 (60 * j + i)) c) fun y4 s1 => if y4 = 0 then g_X6_read_68 (i : Int) s1 else f_X6_read_28 fC (42 + 2 * j) ((i + 1 : Nat) : Int) s1) else g_X6_read_68 (i : Int) c := by
        show g_X6_read_28 (f_X6_read_28 fC) _ _ c = _
        unfold g_X6_read_28
        rw [h2, if_neg (by omega), eI, bn_t, X6_isByte_v, bn_t, bn_t]
        simp only [sb_t, ew]
        by_cases q : 0 ≤ m 19 (60 * j + i) ∧ m 19 (60 * j + i) ≤ 255
        · rw [if_pos q, if_pos q, if_neg (show ¬ (1 : Int) = 0 by decide)]
        · rw [if_neg q, if_neg q, if_pos rfl]
      have uM : f_X7_read_27 (fM + 1) (j : Int) (i : Int) m = (cb (f_X7_type (m 19 (60 * j + i)) m) fun y1 s1 => if y1 ≤ 0 then some ((i : Int), s1) else f_X7_read_27 fM (j : Int) ((i + 1 : Nat) : Int) s1) := by
        show g_X7_read_27 (f_X7_read_27 fM) _ _ m = _
        unfold g_X7_read_27 g_X7_read_61
        rw [gx_d (by omega) (by omega), tn_c, h18, if_neg (by omega), ei, gx_d (by omega) (by omega), tn_c]
        simp only [sb_t, ew]
      rw [uC, uM]
      by_cases q0 : 0 ≤ m 19 (60 * j + i) ∧ m 19 (60 * j + i) ≤ 255
      · rw [if_pos q0] at em ⊢
        by_cases q : n < 40
        · rw [if_pos q] at em ec
          rw [ec, em, cb_t, cb_t, if_neg (show ¬ (1 : Int) = 0 by decide), if_neg (by omega)]
          refine ih (i + 1) fC fM (n + 1) _ _ _ k (by omega) (by omega) (by omega) hk ?_ ?_ (fun l hl => ?_) (INW_ap hW q q0)
          · rw [up_q (by omega), up_q (by omega)]; exact h2
          · rw [up_q (by decide), up_q (by decide)]; exact h18
          · rw [up_q (by omega), up_q (by omega), up_q (by decide), up_q (by decide)]; exact h6 l hl
        · rw [if_neg q] at em ec
          obtain ⟨c', a1, a2⟩ := fin (i : Int) hW
          rw [ec, em, cb_t, cb_t, if_pos rfl, if_pos (by decide)]
          exact ⟨(i : Int), c', m, a1, rfl, a2⟩
      · rw [if_neg q0] at em ⊢
        obtain ⟨c', a1, a2⟩ := fin (i : Int) hW
        rw [em, cb_t, if_pos (by decide)]
        exact ⟨(i : Int), c', m, a1, rfl, a2⟩
theorem ok_read : SOK vI M_X6_read M_X7_read 1 INV := by
  intro c m as hl _ _ _ hI
  match as, hl with
  | [x], _ =>
    by_cases h1 : 0 ≤ x ∧ x ≤ 3
    · obtain ⟨j, rfl, hj⟩ := nat_of h1
      obtain ⟨n, t, W, hC, hT, h7, hA⟩ := id hI
      have hS : SHT c m j := hA j hj
      have g : ∀ {β : Type} {z : Option β}, gx (j : Int) 4 z = z := fun {β z} => gx_d (by omega) (by omega)
      by_cases h2 : c (42 + 2 * j) 1 = -1
      · have e16 := SHT_lost hS h2
        refine ⟨wr (-10 - 1), up c 0 7 1, up m 0 30 1, c_X6_read ?_, c_X7_read ?_, INV_f hI 1⟩
        · unfold f_X6_read
          rw [sheetC hj, bn_t, ob_ts, gp_j hj, X4_isLost_v, bn_t, if_pos h2, if_neg (show ¬ (1 : Int) = 0 by decide), found_v, cb_t]
        · unfold f_X7_read
          rw [X7_isSheet_v, bn_t, if_pos h1, if_neg (show ¬ (1 : Int) = 0 by decide), g, tn_c, if_pos e16, meets_v, cb_t]
      · obtain ⟨k, e16, e1, e2, e3, e4, e5, e6⟩ := SHT_there hS h2
        obtain ⟨y, c', m', a1, a2, a3⟩ := rd28 hj k 0 FU FU n t c m k (by omega) (by unfold FU; omega) (by unfold FU; omega) e3 e5 e4 e6 (INW_of hC hT h7 hA)
        refine ⟨y, c', m', c_X6_read ?_, c_X7_read ?_, a3⟩
        · unfold f_X6_read
          rw [sheetC hj, bn_t, ob_ts, gp_j hj, X4_isLost_v, bn_t, if_neg h2, if_pos rfl]
          exact a1
        · unfold f_X7_read
          rw [X7_isSheet_v, bn_t, if_pos h1, if_neg (show ¬ (1 : Int) = 0 by decide), g, tn_c, if_neg (by rw [e16]; decide)]
          exact a2
    · refine ⟨-2, c, m, c_X6_read ?_, c_X7_read ?_, hI⟩
      · unfold f_X6_read
        rw [sheetN h1, bn_t, ob_tn]
      · unfold f_X7_read
        rw [X7_isSheet_v, bn_t, if_neg h1, if_pos rfl]
/-! copy -/
theorem cp157 {j b N : Nat} (hj : j < 4) (hb : b + N ≤ 60) {m0 : SS} : ∀ (r i f : Nat) (m : SS), i + r = N → r < f → (∀ l, l < i → m 19 (60 * j + b + l) = m0 20 l) → (∀ p k, (p = 19 → k < 60 * j + b ∨ 60 * j + b + i ≤ k) → m p k = m0 p k) → ∃ m', f_X7_copy_157 f (j : Int) (b : Int) (N : Int) (i : Int) m = some (1, m') ∧ (∀ l, l < N → m' 19 (60 * j + b + l) = m0 20 l) ∧ ∀ p k, (p = 19 → k < 60 * j + b ∨ 60 * j + b + N ≤ k) → m' p k = m0 p k := by
  intro r
  induction r with
  | zero =>
    intro i f m hi hf h1 h2
    match f, hf with
    | f + 1, _ =>
      obtain rfl : i = N := by omega
      refine ⟨m, ?_, h1, h2⟩
      show g_X7_copy_157 (f_X7_copy_157 f) _ _ _ _ m = _
      unfold g_X7_copy_157 g_X7_copy_192
      rw [if_pos (by omega)]
  | succ r ih =>
    intro i f m hi hf h1 h2
    match f, hf with
    | f + 1, hf =>
      show ∃ m', g_X7_copy_157 (f_X7_copy_157 f) _ _ _ _ m = _ ∧ _
      have ei : wr (wr (wr (60 * (j : Int)) + (b : Int)) + (i : Int)) = ((60 * j + b + i : Nat) : Int) := by
        rw [wr_t (a := 60 * (j : Int)) (by omega) (by omega), wr_t (a := 60 * (j : Int) + (b : Int)) (by omega) (by omega), wr_t (by omega) (by omega)]
        omega
      unfold g_X7_copy_157
      rw [if_neg (by omega), gx_d (by omega) (by omega), ei, gx_d (by omega) (by omega), sb_t, sb_t, tn_c, tn_c, wr_t (by omega) (by omega), show (i : Int) + 1 = ((i + 1 : Nat) : Int) by omega, h2 20 i (by omega)]
      refine ih (i + 1) f _ (by omega) (by omega) (fun l hl => ?_) (fun p k h => ?_)
      · by_cases e : l = i
        · subst e; exact up_s
        · rw [up_k (by omega)]; exact h1 l (by omega)
      · by_cases e : p = 19
        · subst e
          have := h rfl
          rw [up_k (by omega)]
          exact h2 19 k (fun _ => by omega)
        · rw [up_q e]; exact h2 p k (fun z => absurd z e)
theorem cp120 {j a N : Nat} (hj : j < 4) (ha : a + N ≤ 60) (x3 x4 : Int) {m0 : SS} : ∀ (r i f : Nat) (m : SS), i + r = N → r < f → (∀ l, l < i → m 20 l = m0 19 (60 * j + a + l)) → (∀ p k, p ≠ 20 → m p k = m0 p k) → ∃ m', f_X7_copy_120 f (j : Int) (a : Int) x3 x4 (N : Int) (i : Int) m = g_X7_copy_154 x3 x4 (N : Int) m' ∧ (∀ l, l < N → m' 20 l = m0 19 (60 * j + a + l)) ∧ ∀ p k, p ≠ 20 → m' p k = m0 p k := by
  intro r
  induction r with
  | zero =>
    intro i f m hi hf h1 h2
    match f, hf with
    | f + 1, _ =>
      obtain rfl : i = N := by omega
      refine ⟨m, ?_, h1, h2⟩
      show g_X7_copy_120 (f_X7_copy_120 f) _ _ _ _ _ _ m = _
      unfold g_X7_copy_120
      rw [if_pos (by omega)]
  | succ r ih =>
    intro i f m hi hf h1 h2
    match f, hf with
    | f + 1, hf =>
      show ∃ m', g_X7_copy_120 (f_X7_copy_120 f) _ _ _ _ _ _ m = _ ∧ _
      have ei : wr (wr (wr (60 * (j : Int)) + (a : Int)) + (i : Int)) = ((60 * j + a + i : Nat) : Int) := by
        rw [wr_t (a := 60 * (j : Int)) (by omega) (by omega), wr_t (a := 60 * (j : Int) + (a : Int)) (by omega) (by omega), wr_t (by omega) (by omega)]
        omega
      unfold g_X7_copy_120
      rw [if_neg (by omega), ei, gx_d (by omega) (by omega), gx_d (by omega) (by omega), sb_t, sb_t, tn_c, tn_c, wr_t (by omega) (by omega), show (i : Int) + 1 = ((i + 1 : Nat) : Int) by omega, h2 19 _ (by decide)]
      refine ih (i + 1) f _ (by omega) (by omega) (fun l hl => ?_) (fun p k h => by rw [up_q h]; exact h2 p k h)
      by_cases e : l = i
      · subst e; exact up_s
      · rw [up_k e]; exact h1 l (by omega)
theorem wl_t {a : Int} (h1 : -9223372036854775808 ≤ a) (h2 : a ≤ 9223372036854775807) : wl a = a := tl_of ⟨h1, h2⟩
theorem lc_gt {a b : Int} : (0 < l_cmp a b) ↔ b < a := by
  unfold l_cmp
  split
  · omega
  · split <;> omega
theorem lc_le {a b : Int} : (l_cmp a b ≤ 0) ↔ a ≤ b := by
  unfold l_cmp
  split
  · omega
  · split <;> omega
theorem ok_copy : SOK vI M_X6_copy M_X7_copy 5 INV := by
  intro c m as hl hR _ _ hI
  match as, hl with
  | [x, y, z, u, v], _ =>
    have ry : IR y := hR y (by simp)
    have ru : IR u := hR u (by simp)
    have rv : IR v := hR v (by simp)
    obtain ⟨ry1, ry2⟩ := ry
    obtain ⟨ru1, ru2⟩ := ru
    obtain ⟨rv1, rv2⟩ := rv
    have n10 : ¬ (1 : Int) = 0 := by decide
    by_cases hx : 0 ≤ x ∧ x ≤ 3
    · obtain ⟨i, rfl, hi⟩ := nat_of hx
      by_cases hz : 0 ≤ z ∧ z ≤ 3
      · obtain ⟨j, rfl, hj⟩ := nat_of hz
        obtain ⟨n, t, W, hC, hT, h7, hA⟩ := id hI
        have hSi := hA i hi
        have hSj := hA j hj
        have g : ∀ {β : Type} {z : Option β}, gx (i : Int) 4 z = z := fun {β z} => gx_d (by omega) (by omega)
        have g' : ∀ {β : Type} {z : Option β}, gx (j : Int) 4 z = z := fun {β z} => gx_d (by omega) (by omega)
        have uC : f_X6_copy (i : Int) y (j : Int) u v c = if c (42 + 2 * i) 1 = -1 ∨ c (42 + 2 * j) 1 = -1 then some (wr (-10 - 1), up c 0 7 1) else if c (42 + 2 * i) 1 = c (42 + 2 * j) 1 then (bn (f_X4_hasItems (42 + 2 * i) y v c) fun y5 => if y5 = 0 then some (wr (-10 - 2), up c 0 7 2) else bn (f_X4_hasItems (42 + 2 * j) u v c) fun y6 => if y6 = 0 then some (wr (-10 - 2), up c 0 7 2) else gc y u v 60 60 (some (1, cpy c (42 + 2 * i + 1) (42 + 2 * j + 1) y.toNat u.toNat v.toNat))) else some (wr (-10 - 4), up c 0 7 4) := by
          unfold f_X6_copy g_X6_copy_24 g_X6_copy_91 g_X6_copy_43
          simp only [found_v, cb_t, sb_t]
          rw [sheetC hi, bn_t, sheetC hj, bn_t, ob_ts, gp_j hi, ob_ts, gp_j hj, X4_isLost_v, bn_t, X4_isLost_v, bn_t]
          by_cases q1 : c (42 + 2 * i) 1 = -1
          · rw [if_pos q1, if_neg n10, if_pos (Or.inl q1)]
          · rw [if_neg q1, if_pos rfl]
            by_cases q2 : c (42 + 2 * j) 1 = -1
            · rw [if_pos q2, if_neg n10, if_pos (Or.inr q2)]
            · rw [if_neg q2, if_pos rfl, if_neg (show ¬ (c (42 + 2 * i) 1 = -1 ∨ c (42 + 2 * j) 1 = -1) from fun z => z.elim q1 q2)]
        rw [show ([(i : Int), y, (j : Int), u, v] : List Int).map vI = [vI (i : Int), vI y, vI (j : Int), vI u, vI v] from rfl]
        by_cases q1 : c (42 + 2 * i) 1 = -1
        · rw [if_pos (Or.inl q1)] at uC
          refine ⟨_, _, _, c_X6_copy uC, c_X7_copy (s1 := up m 0 30 1) ?_, INV_f hI 1⟩
          unfold f_X7_copy g_X7_copy_35
          rw [X7_isSheet_v, bn_t, if_pos hx, if_neg n10, X7_isSheet_v, bn_t, if_pos hz, if_neg n10, g, tn_c, if_pos (SHT_lost hSi q1), meets_v, cb_t]
        · obtain ⟨k, e16, e1, e2, e3, e4, e5, e6⟩ := SHT_there hSi q1
          by_cases q2 : c (42 + 2 * j) 1 = -1
          · rw [if_pos (Or.inr q2)] at uC
            refine ⟨_, _, _, c_X6_copy uC, c_X7_copy (s1 := up m 0 30 1) ?_, INV_f hI 1⟩
            unfold f_X7_copy g_X7_copy_35
            rw [X7_isSheet_v, bn_t, if_pos hx, if_neg n10, X7_isSheet_v, bn_t, if_pos hz, if_neg n10, g, tn_c, if_neg (by rw [e16]; decide), g', tn_c, if_pos (SHT_lost hSj q2), meets_v, cb_t]
          · obtain ⟨k', d16, d1, d2, d3, d4, d5, d6⟩ := SHT_there hSj q2
            rw [if_neg (fun z => z.elim q1 q2)] at uC
            have uM : f_X7_copy (i : Int) y (j : Int) u v m = if m 17 i = m 17 j then (if (0 ≤ y ∧ 0 ≤ v ∧ y + v ≤ (k : Int)) ∧ (0 ≤ u ∧ 0 ≤ v ∧ u + v ≤ (k' : Int)) then f_X7_copy_120 FU (i : Int) y (j : Int) u v 0 m else some (wr (-10 - 2), up m 0 30 2)) else some (wr (-10 - 4), up m 0 30 4) := by
              unfold f_X7_copy g_X7_copy_111
              simp only [meets_v, cb_t]
              rw [X7_isSheet_v, bn_t, if_pos hx, if_neg n10, X7_isSheet_v, bn_t, if_pos hz, if_neg n10]
              have w1 : wl (y + v) = y + v := wl_t (by omega) (by omega)
              have w2 : wl (u + v) = u + v := wl_t (by omega) (by omega)
              simp only [g, g', tn_c, e4, d4, w1, w2]
              rw [if_neg (show ¬ m 16 i = 0 by rw [e16]; decide), if_neg (show ¬ m 16 j = 0 by rw [d16]; decide)]
              by_cases q3 : m 17 i = m 17 j
              · rw [if_pos q3, if_pos q3]
                by_cases p1 : y < 0
                · rw [if_pos p1, if_neg (by omega)]
                · rw [if_neg p1]
                  by_cases p2 : u < 0
                  · rw [if_pos p2, if_neg (by omega)]
                  · rw [if_neg p2]
                    by_cases p3 : v < 0
                    · rw [if_pos p3, if_neg (by omega)]
                    · rw [if_neg p3]
                      by_cases p4 : (k : Int) < y + v
                      · rw [if_pos (lc_gt.mpr p4), if_neg (by omega)]
                      · rw [if_neg (fun z => p4 (lc_gt.mp z))]
                        by_cases p5 : u + v ≤ (k' : Int)
                        · rw [if_pos (lc_le.mpr p5), if_pos (by omega)]
                        · rw [if_neg (fun z => p5 (lc_le.mp z)), if_neg (by omega)]
              · rw [if_neg q3, if_neg q3]
            by_cases q3 : m 17 i = m 17 j
            · rw [if_pos q3] at uM
              rw [if_pos (show c (42 + 2 * i) 1 = c (42 + 2 * j) 1 by rw [e1, d1]; exact q3), X4_hasItems_v e5 e3, bn_t, X4_hasItems_v d5 d3, bn_t] at uC
              by_cases p : (0 ≤ y ∧ 0 ≤ v ∧ y + v ≤ (k : Int)) ∧ (0 ≤ u ∧ 0 ≤ v ∧ u + v ≤ (k' : Int))
              · have egc : ∀ {β : Type} {z : Option β}, gc y u v 60 60 z = z := fun {β z} => if_pos (by omega)
                rw [if_pos p.1, if_neg n10, if_pos p.2, if_neg n10, egc] at uC
                rw [if_pos p] at uM
                obtain ⟨⟨y0, v0, yk⟩, u0, -, uk⟩ := p
                obtain ⟨a, rfl⟩ : ∃ a : Nat, y = (a : Int) := ⟨y.toNat, by omega⟩
                obtain ⟨b, rfl⟩ : ∃ a : Nat, u = (a : Int) := ⟨u.toNat, by omega⟩
                obtain ⟨N, rfl⟩ : ∃ a : Nat, v = (a : Int) := ⟨v.toNat, by omega⟩
                obtain ⟨m1, f1, f2, f3⟩ := cp120 (j := i) (a := a) (N := N) hi (by omega) (j : Int) (b : Int) (m0 := m) N 0 FU m (by omega) (by unfold FU; omega) (fun l hl => by omega) (fun _ _ _ => rfl)
                obtain ⟨m2, g1, g2, g3⟩ := cp157 (j := j) (b := b) (N := N) hj (by omega) (m0 := m1) N 0 FU m1 (by omega) (by unfold FU; omega) (fun l hl => by omega) (fun _ _ _ => rfl)
                have eM : f_X7_copy (i : Int) (a : Int) (j : Int) (b : Int) (N : Int) m = some (1, m2) := by
                  rw [uM]
                  have f1' : f_X7_copy_120 FU (i : Int) (a : Int) (j : Int) (b : Int) (N : Int) 0 m = g_X7_copy_154 (j : Int) (b : Int) (N : Int) m1 := f1
                  rw [f1']
                  exact g1
                have mo : ∀ p k, p ≠ 20 → (p = 19 → k < 60 * j + b ∨ 60 * j + b + N ≤ k) → m2 p k = m p k := fun p k z1 z2 => by rw [g3 p k z2, f3 p k z1]
                refine ⟨1, _, m2, c_X6_copy uC, c_X7_copy eM, ?_⟩
                rw [tn_c, tn_c, tn_c]
                have co : ∀ p k, p ≠ 43 + 2 * j → cpy c (42 + 2 * i + 1) (42 + 2 * j + 1) a b N p k = c p k := fun p k z => by
                  unfold cpy
                  rw [if_neg (fun w => by omega)]
                refine INV_j hI hj (fun p k _ p2 => co p k p2) (fun k => mo 0 k (by decide) (by omega)) (fun k => mo 1 k (by decide) (by omega)) (fun p k _ _ _ => mo p k (by omega) (by omega)) (fun k hk => mo 19 k (by decide) (fun _ => by omega)) (Or.inr ⟨k', ?_, ?_, ?_, d3, ?_, ?_, fun l hl => ?_⟩)
                · rw [mo 16 j (by decide) (by omega)]; exact d16
                · rw [co _ _ (by omega), mo 17 j (by decide) (by omega)]; exact d1
                · rw [mo 17 j (by decide) (by omega)]; exact d2
                · rw [mo 18 j (by decide) (by omega)]; exact d4
                · rw [co _ _ (by omega)]; exact d5
                · by_cases il : b ≤ l ∧ l < b + N
                  · have e : m2 19 (60 * j + l) = m 19 (60 * i + (a + (l - b))) := by
                      have h1 := g2 (l - b) (by omega)
                      rw [show 60 * j + b + (l - b) = 60 * j + l by omega, f2 (l - b) (by omega), show 60 * i + a + (l - b) = 60 * i + (a + (l - b)) by omega] at h1
                      exact h1
                    rw [e, ← e6 (a + (l - b)) (by omega)]
                    unfold cpy
                    rw [if_pos (by omega), show 42 + 2 * i + 1 = 43 + 2 * i by omega]
                  · rw [mo 19 _ (by decide) (fun _ => by omega), ← d6 l hl]
                    unfold cpy
                    rw [if_neg (fun w => il w.2)]
              · rw [if_neg p] at uM
                have uC' : f_X6_copy (i : Int) y (j : Int) u v c = some (wr (-10 - 2), up c 0 7 2) := by
                  rw [uC]
                  by_cases p1 : 0 ≤ y ∧ 0 ≤ v ∧ y + v ≤ (k : Int)
                  · rw [if_pos p1, if_neg n10, if_neg (fun p2 => p ⟨p1, p2⟩), if_pos rfl]
                  · rw [if_neg p1, if_pos rfl]
                exact ⟨_, _, _, c_X6_copy uC', c_X7_copy uM, INV_f hI 2⟩
            · rw [if_neg q3] at uM
              rw [if_neg (show ¬ c (42 + 2 * i) 1 = c (42 + 2 * j) 1 by rw [e1, d1]; exact q3)] at uC
              exact ⟨_, _, _, c_X6_copy uC, c_X7_copy uM, INV_f hI 4⟩
      · refine ⟨-2, c, m, c_X6_copy ?_, c_X7_copy ?_, hI⟩
        · unfold f_X6_copy g_X6_copy_24
          rw [sheetC hi, bn_t, sheetN hz, bn_t, ob_ts, gp_j hi, ob_tn]
        · unfold f_X7_copy g_X7_copy_14
          rw [X7_isSheet_v, bn_t, if_pos hx, if_neg n10, X7_isSheet_v, bn_t, if_neg hz, if_pos rfl]
    · refine ⟨-2, c, m, c_X6_copy ?_, c_X7_copy ?_, hI⟩
      · unfold f_X6_copy g_X6_copy_24
        rw [sheetN hx, bn_t]
        by_cases hz : 0 ≤ z ∧ z ≤ 3
        · obtain ⟨j, rfl, hj⟩ := nat_of hz
          rw [sheetC hj, bn_t, ob_tn]
        · rw [sheetN hz, bn_t, ob_tn]
      · unfold f_X7_copy g_X7_copy_14
        rw [X7_isSheet_v, bn_t, if_neg hx, if_pos rfl]
end RCW
