/-! ===== a line is written ===== -/
theorem wr60 {n : Nat} {t : Nat → Int} {W row : Int} {j k M : Nat} (hj : j < 4) (hk : k ≤ 60) (hn : n ≤ 40) (hM1 : ∀ i : Nat, i < M → i < k ∧ (i : Int) < coA n t W row) (hM2 : k ≤ M ∨ coA n t W row ≤ (M : Int)) (hMk : M ≤ k) : ∀ (r i f f' : Nat) (c m : SS), i + r = M → r < f → r < f' → INV c m → CB n t W c → MR n t m → PM (pN n t) (PB n t W) m → c (42 + 2 * j) 2 = (k : Int) → m 18 j = (k : Int) → m 16 j = 1 → c (42 + 2 * j) 1 = m 17 j → (0 ≤ m 17 j ∧ m 17 j ≤ 2) → (∀ i, i < k → c (43 + 2 * j) i = m 19 (60 * j + i)) →
    ∃ c' m', f_X6_write_60 f row (42 + 2 * j) (M : Int) (i : Int) c = some ((M : Int), c') ∧ f_X7_write_48 f' row (j : Int) (coA n t W row) (i : Int) m = some ((M : Int), m') ∧ INV c' m' := by
  intro r
  induction r with
  | zero =>
    intro i f f' c m hi hf hf' hI _ _ _ h2 h18 _ _ _ _
    match f, f', hf, hf' with
    | f + 1, f' + 1, _, _ =>
      obtain rfl : i = M := by omega
      refine ⟨c, m, ?_, ?_, hI⟩
      · show g_X6_write_60 (f_X6_write_60 f) _ _ _ _ c = _
        unfold g_X6_write_60 g_X6_write_89
        rw [if_pos (Int.le_refl _)]
      · show g_X7_write_48 (f_X7_write_48 f') _ _ _ _ m = _
        unfold g_X7_write_48 g_X7_write_85
        rw [gx_d (by omega) (by omega), tn_c, h18]
        by_cases q : (k : Int) ≤ (i : Int)
        · rw [if_pos q]
        · rw [if_neg q, if_pos (by rcases hM2 with z | z <;> omega)]
  | succ r ih =>
    intro i f f' c m hi hf hf' hI hC hR hP h2 h18 h16 h1 h17 h6
    match f, f', hf, hf' with
    | f + 1, f' + 1, hf, hf' =>
      obtain ⟨b1, b2⟩ := hM1 i (by omega)
      have ew : wr ((i : Int) + 1) = ((i + 1 : Nat) : Int) := by rw [wr_t (by omega) (by omega)]; omega
      have nI := INV_put hI hj b1 hk h2 h18 h16 h1 h17 h6 (cvt (m 17 j) (byA n t W row (i : Int)))
      obtain ⟨c', m', a1, a2, a3⟩ := ih (i + 1) f f' (up c (42 + 2 * j + 1) i (cvt (m 17 j) (byA n t W row (i : Int)))) (up m 19 (60 * j + i) (cvt (m 17 j) (byA n t W row (i : Int)))) (by omega) (by omega) (by omega) nI
        (CB_ext hC (fun q k _ _ => up_q (by omega)) (fun k _ => up_q (by omega))) (MR_fr hR (fun k _ _ => up_q (by decide)) (fun q k _ _ => up_q (by omega))) (PM_ext hP (fun q k _ _ => up_q (by omega)))
        (by rw [up_q (by omega)]; exact h2) (by rw [up_q (by decide)]; exact h18) (by rw [up_q (by decide)]; exact h16) (by rw [up_q (by omega), up_q (by decide)]; exact h1) (by rw [up_q (by decide)]; exact h17) (fun l hl => by
          by_cases e : l = i
          · subst e
            rw [show 43 + 2 * j = 42 + 2 * j + 1 by omega, up_s, up_s]
          · rw [show 43 + 2 * j = 42 + 2 * j + 1 by omega, up_k e, up_k (by omega), show 42 + 2 * j + 1 = 43 + 2 * j by omega]
            exact h6 l hl)
      refine ⟨c', m', ?_, ?_, a3⟩
      · show g_X6_write_60 (f_X6_write_60 f) _ _ _ _ c = _
        unfold g_X6_write_60
        rw [if_neg (by omega), X2_byteAt_v hn (CB_L hC) row (by omega), bn_t, if_neg (by omega), X4_store_v h2 hk b1, bn_t, sb_t, ew, h1]
        exact a1
      · show g_X7_write_48 (f_X7_write_48 f') _ _ _ _ m = _
        unfold g_X7_write_48
        rw [gx_d (by omega) (by omega), tn_c, h18, if_neg (by omega), if_neg (by omega), X7_byteIn_v hn hR hP, bn_t, X7_keep_v hj (by omega), bn_t, sb_t, ew]
        exact a2
theorem ok_write : SOK vI M_X6_write M_X7_write 2 INV := by
  intro c m as hl _ _ _ hI
  match as, hl with
  | [x, y], _ =>
    have n10 : ¬ (1 : Int) = 0 := by decide
    by_cases g0 : (0 ≤ x ∧ x ≤ 99) ∧ 0 ≤ y ∧ y ≤ 3
    · obtain ⟨hx, hy⟩ := g0
      obtain ⟨j, rfl, hj⟩ := nat_of hy
      obtain ⟨n, t, W, hC, hT, h7, hA⟩ := id hI
      have hS := hA j hj
      have g : ∀ {β : Type} {z : Option β}, gx (j : Int) 4 z = z := fun {β z} => gx_d (by omega) (by omega)
      have uC : f_X6_write x (j : Int) c = bn (f_X4_isLost (42 + 2 * j) c) fun y2 => if y2 = 0 then (bn (f_X2_columnsOf x c) fun y3 => sb (if 0 < (if y3 < (c (42 + 2 * j) 2) then y3 else (c (42 + 2 * j) 2)) then (if y3 < (c (42 + 2 * j) 2) then y3 else (c (42 + 2 * j) 2)) else 0) fun y4 => f_X6_write_60 FU x (42 + 2 * j) y4 0 c) else (cb (f_X6_found 1 c) fun y5 s1 => some (y5, s1)) := by
        unfold f_X6_write
        rw [sheetC hj, bn_t, if_neg (by omega), if_neg (by omega), ob_ts, gp_j hj]
      have uM : f_X7_write x (j : Int) m = if m 16 j = 0 then some (wr (-10 - 1), up m 0 30 1) else (bn (f_X7_sets m) fun s2 => bn (f_X7_columnsIn x s2) fun y4 => f_X7_write_48 FU x (j : Int) y4 0 s2) := by
        unfold f_X7_write
        rw [X7_in_v, bn_t, if_pos hx, if_neg n10, X7_isSheet_v, bn_t, if_pos hy, if_neg n10, g, tn_c, meets_v, cb_t]
      rw [X4_isLost_v, bn_t] at uC
      by_cases q : c (42 + 2 * j) 1 = -1
      · rw [if_pos q, if_neg n10, found_v, cb_t] at uC
        rw [if_pos (SHT_lost hS q)] at uM
        exact ⟨_, _, _, c_X6_write uC, c_X7_write uM, INV_f hI 1⟩
      · obtain ⟨k, e16, e1, e2, e3, e4, e5, e6⟩ := SHT_there hS q
        have hn := hC.1.1
        obtain ⟨m1, s1, s2, s3, s4⟩ := X7_sets_v hT
        rw [if_neg q, if_pos rfl, X2_columnsOf_v hn (CB_L hC), bn_t, sb_t, e5] at uC
        rw [if_neg (by rw [e16]; decide), s1, bn_t, X7_columnsIn_v hn s2 s3, bn_t] at uM
        have hb := coA_b (n := n) (t := t) (W := W) hn x
        obtain ⟨M, hM⟩ : ∃ M : Nat, (if 0 < (if coA n t W x < (k : Int) then coA n t W x else (k : Int)) then (if coA n t W x < (k : Int) then coA n t W x else (k : Int)) else 0) = (M : Int) := ⟨(if 0 < (if coA n t W x < (k : Int) then coA n t W x else (k : Int)) then (if coA n t W x < (k : Int) then coA n t W x else (k : Int)) else 0).toNat, by split <;> omega⟩
        rw [hM] at uC
        have hMv : (coA n t W x ≤ 0 ∧ M = 0) ∨ (0 < coA n t W x ∧ (M : Int) = (if coA n t W x < (k : Int) then coA n t W x else (k : Int))) := by
          by_cases z : 0 < (if coA n t W x < (k : Int) then coA n t W x else (k : Int))
          · rw [if_pos z] at hM
            right
            refine ⟨?_, hM.symm⟩
            by_cases z2 : coA n t W x < (k : Int)
            · rw [if_pos z2] at z; exact z
            · omega
          · rw [if_neg z] at hM
            by_cases z2 : coA n t W x < (k : Int)
            · rw [if_pos z2] at z
              left; omega
            · rw [if_neg z2] at z ⊢
              by_cases z3 : coA n t W x ≤ 0
              · left; omega
              · right; omega
        have hM1 : ∀ i : Nat, i < M → i < k ∧ (i : Int) < coA n t W x := by
          intro i hi
          rcases hMv with ⟨_, z⟩ | ⟨_, z⟩
          · omega
          · split at z <;> omega
        have hM2 : k ≤ M ∨ coA n t W x ≤ (M : Int) := by
          rcases hMv with ⟨z1, z⟩ | ⟨_, z⟩
          · right; omega
          · split at z
            · right; omega
            · left; omega
        have hMk : M ≤ k := by
          rcases hMv with ⟨_, z⟩ | ⟨_, z⟩
          · omega
          · split at z <;> omega
        have hI1 : INV c m1 := INV_q hC hT h7 hA s4
        have f16 : ∀ p k, 16 ≤ p → p ≤ 19 → m1 p k = m p k := fun p k _ _ => s4 p k (by omega) (by omega)
        obtain ⟨c', m', a1, a2, a3⟩ := wr60 (row := x) hj e3 hn hM1 hM2 hMk M 0 FU FU c m1 (by omega) (by unfold FU; omega) (by unfold FU; omega) hI1 hC s2 s3 e5 (by rw [f16 18 j (by decide) (by decide)]; exact e4) (by rw [f16 16 j (by decide) (by decide)]; exact e16) (by rw [f16 17 j (by decide) (by decide)]; exact e1) (by rw [f16 17 j (by decide) (by decide)]; exact e2) (fun i hi => by rw [f16 19 _ (by decide) (by decide)]; exact e6 i hi)
        refine ⟨(M : Int), c', m', c_X6_write ?_, c_X7_write ?_, a3⟩
        · rw [uC]; exact a1
        · rw [uM]; exact a2
    · refine ⟨-2, c, m, c_X6_write ?_, c_X7_write ?_, hI⟩
      · unfold f_X6_write g_X6_write_20
        by_cases hy : 0 ≤ y ∧ y ≤ 3
        · obtain ⟨j, rfl, hj⟩ := nat_of hy
          rw [sheetC hj, bn_t]
          by_cases z : x < 0
          · rw [if_pos z]
          · rw [if_neg z, if_pos (by omega)]
        · rw [sheetN hy, bn_t, ob_tn]
          split
          · rfl
          · split <;> rfl
      · unfold f_X7_write g_X7_write_17
        rw [X7_in_v, bn_t]
        by_cases hx : 0 ≤ x ∧ x ≤ 99
        · rw [if_pos hx, if_neg n10, X7_isSheet_v, bn_t, if_neg (fun z => g0 ⟨hx, z⟩), if_pos rfl]
        · rw [if_neg hx, if_pos rfl]
