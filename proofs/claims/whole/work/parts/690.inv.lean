/-! ===== what holds between the calls; the questions ===== -/
/-- a sheet of the class is that of the model -/
def SHT (c m : SS) (j : Nat) : Prop := (m 16 j = 0 ∧ c (42 + 2 * j) 1 = -1) ∨ ∃ k : Nat, m 16 j = 1 ∧ c (42 + 2 * j) 1 = m 17 j ∧ (0 ≤ m 17 j ∧ m 17 j ≤ 2) ∧ k ≤ 60 ∧ m 18 j = (k : Int) ∧ c (42 + 2 * j) 2 = (k : Int) ∧ ∀ i, i < k → c (43 + 2 * j) i = m 19 (60 * j + i)
def INV (c m : SS) : Prop := ∃ (n : Nat) (t : Nat → Int) (W : Int), CB n t W c ∧ TX n t W m ∧ c 0 7 = m 0 30 ∧ ∀ j, j < 4 → SHT c m j
theorem SHT_ext {c c' m m' : SS} {j : Nat} (h : SHT c m j) (h1 : ∀ k, c' (42 + 2 * j) k = c (42 + 2 * j) k) (h2 : ∀ k, c' (43 + 2 * j) k = c (43 + 2 * j) k) (h16 : m' 16 j = m 16 j) (h17 : m' 17 j = m 17 j) (h18 : m' 18 j = m 18 j) (h19 : ∀ i, i < 60 → m' 19 (60 * j + i) = m 19 (60 * j + i)) : SHT c' m' j := by
  rcases h with ⟨a, b⟩ | ⟨k, a1, a2, a3, a4, a5, a6, a7⟩
  · exact Or.inl ⟨by rw [h16]; exact a, by rw [h1]; exact b⟩
  · refine Or.inr ⟨k, by rw [h16]; exact a1, by rw [h1, h17]; exact a2, by rw [h17]; exact a3, a4, by rw [h18]; exact a5, by rw [h1]; exact a6, fun i hi => ?_⟩
    rw [h2, h19 i (by omega)]
    exact a7 i hi
theorem SHT_fr {c m m' : SS} {j : Nat} (h : SHT c m j) (f : frX m m') : SHT c m' j :=
  SHT_ext h (fun _ => rfl) (fun _ => rfl) (f 16 j (by omega) (by omega)) (f 17 j (by omega) (by omega)) (f 18 j (by omega) (by omega)) (fun i _ => f 19 _ (by omega) (by omega))
theorem INV_q {c m m' : SS} {n : Nat} {t : Nat → Int} {W : Int} (hC : CB n t W c) (hT : TX n t W m) (h7 : c 0 7 = m 0 30) (hS : ∀ j, j < 4 → SHT c m j) (f : frX m m') : INV c m' :=
  ⟨n, t, W, hC, TX_fr hT f, by rw [f 0 30 (by omega) (by omega)]; exact h7, fun j hj => SHT_fr (hS j hj) f⟩
section QOK
theorem ok_fault : SOK vI M_X6_fault M_X7_fault 0 INV := by
  intro c m as hl _ _ _ hI
  match as, hl with
  | [], _ =>
    obtain ⟨n, t, W, hC, hT, h7, hS⟩ := hI
    obtain ⟨m', a, b⟩ := X7_faultOf_v hT
    refine ⟨fau n t, c, m', c_X6_fault ?_, c_X7_fault ?_, INV_q hC hT h7 hS b⟩
    · unfold f_X6_fault
      rw [hC.2.1.2.2.1.2.2.1]
    · unfold f_X7_fault
      rw [a, cb_t]
theorem ok_part : SOK vI M_X6_part M_X7_part 2 INV := by
  intro c m as hl _ _ _ hI
  match as, hl with
  | [x, y], _ =>
    obtain ⟨n, t, W, hC, hT, h7, hS⟩ := hI
    obtain ⟨m', a, b⟩ := X7_part_v hT x y
    exact ⟨_, c, m', c_X6_part (X6_part_v hC.2.1 x y), c_X7_part a, INV_q hC hT h7 hS b⟩
theorem ok_frontier : SOK vI M_X6_frontier M_X7_frontier 3 INV := by
  intro c m as hl _ _ _ hI
  match as, hl with
  | [x, y, z], _ =>
    obtain ⟨n, t, W, hC, hT, h7, hS⟩ := hI
    obtain ⟨m', a, b⟩ := X7_frontier_v hT x y z
    exact ⟨_, c, m', c_X6_frontier (X6_frontier_v hC.2.1 x y z), c_X7_frontier a, INV_q hC hT h7 hS b⟩
theorem ok_tried : SOK vI M_X6_tried M_X7_tried 1 INV := by
  intro c m as hl _ _ _ hI
  match as, hl with
  | [x], _ =>
    obtain ⟨n, t, W, hC, hT, h7, hS⟩ := hI
    obtain ⟨m', a, b⟩ := X7_tried_v hT x
    exact ⟨_, c, m', c_X6_tried (X6_tried_v hC.2.1 x), c_X7_tried a, INV_q hC hT h7 hS b⟩
theorem ok_best : SOK vI M_X6_best M_X7_best 1 INV := by
  intro c m as hl _ _ _ hI
  match as, hl with
  | [x], _ =>
    obtain ⟨n, t, W, hC, hT, h7, hS⟩ := hI
    obtain ⟨m', a, b⟩ := X7_best_v hT x
    exact ⟨_, c, m', c_X6_best (X6_best_v hC x), c_X7_best a, INV_q hC hT h7 hS b⟩
theorem CB_L {n : Nat} {t : Nat → Int} {W : Int} {c : SS} (h : CB n t W c) : CL n t W c := h.2.2.2.2.2.2.2.2
theorem ok_line : SOK vI M_X6_line M_X7_line 2 INV := by
  intro c m as hl _ _ _ hI
  match as, hl with
  | [x, y], _ =>
    obtain ⟨n, t, W, hC, hT, h7, hS⟩ := hI
    obtain ⟨m', a, b⟩ := X7_line_v hT x y
    exact ⟨_, c, m', c_X6_line (X6_line_v hC.1.1 (CB_L hC) x y), c_X7_line a, INV_q hC hT h7 hS b⟩
theorem ok_way : SOK vI M_X6_way M_X7_way 2 INV := by
  intro c m as hl _ _ _ hI
  match as, hl with
  | [x, y], _ =>
    obtain ⟨n, t, W, hC, hT, h7, hS⟩ := hI
    obtain ⟨m', a, b⟩ := X7_way_v hT x y
    exact ⟨_, c, m', c_X6_way (X6_way_v hC.1.1 hC.2.2.1.1 x y), c_X7_way a, INV_q hC hT h7 hS b⟩
theorem ok_haste : SOK vI M_X6_haste M_X7_haste 1 INV := by
  intro c m as hl _ _ _ hI
  match as, hl with
  | [x], _ =>
    obtain ⟨n, t, W, hC, hT, h7, hS⟩ := hI
    obtain ⟨m', a, b⟩ := X7_haste_v hT x
    exact ⟨_, c, m', c_X6_haste (X6_haste_v hC.1.1 hC.2.2.1.1 hC.2.1.2.2.1.2.1 hC.2.2.2.1 x), c_X7_haste a, INV_q hC hT h7 hS b⟩
theorem ok_enough : SOK vI M_X6_enough M_X7_enough 0 INV := by
  intro c m as hl _ _ _ hI
  match as, hl with
  | [], _ =>
    obtain ⟨n, t, W, hC, hT, h7, hS⟩ := hI
    obtain ⟨m', a, b⟩ := X7_enoughOf_v hT
    refine ⟨enA n t, c, m', c_X6_enough ?_, c_X7_enough ?_, INV_q hC hT h7 hS b⟩
    · unfold f_X6_enough
      rw [hC.2.2.1.2.1]
    · unfold f_X7_enough
      rw [a, cb_t]
theorem ok_shrinks : SOK vI M_X6_shrinks M_X7_shrinks 1 INV := by
  intro c m as hl _ _ _ hI
  match as, hl with
  | [x], _ =>
    obtain ⟨n, t, W, hC, hT, h7, hS⟩ := hI
    obtain ⟨m', a, b⟩ := X7_shrinks_v hT x
    exact ⟨_, c, m', c_X6_shrinks (X6_shrinks_v hC.2.2.1 x), c_X7_shrinks a, INV_q hC hT h7 hS b⟩
theorem ok_spare : SOK vI M_X6_spare M_X7_spare 0 INV := by
  intro c m as hl _ _ _ hI
  match as, hl with
  | [], _ =>
    obtain ⟨n, t, W, hC, hT, h7, hS⟩ := hI
    obtain ⟨m', a, b⟩ := X7_spareOf_v hT
    refine ⟨spA n t W, c, m', c_X6_spare (X6_spare_v hC), c_X7_spare ?_, INV_q hC hT h7 hS b⟩
    unfold f_X7_spare
    rw [a, cb_t]
def cntA (n : Nat) (t : Nat → Int) (W F x : Int) : Int := if x = 0 then (n : Int) else if x = 1 then (pN n t : Int) else if x = 2 then (pC n t : Int) else if x = 3 then W else if x = 4 then whoA n t W else if x = 5 then triA n t W 0 else if x = 6 then triA n t W 1 else if x = 7 then besA n t W 0 else if x = 8 then F else -2
theorem X6_count_v {n : Nat} {t : Nat → Int} {W : Int} {c : SS} (h : CB n t W c) (x : Int) : f_X6_count x c = some (cntA n t W (c 0 7) x) := by
  have t0 : f_X6_tried 0 c = some (triA n t W 0) := X6_tried_v h.2.1 0
  have t1 : f_X6_tried 1 c = some (triA n t W 1) := X6_tried_v h.2.1 1
  have b0 : f_X6_best 0 c = some (besA n t W 0) := X6_best_v h 0
  unfold f_X6_count cntA
  rw [X1_size0_v h.2.1, t0, t1, b0, h.1.2.1, h.2.1.2.2.1.1, h.2.1.2.2.1.2.1, h.2.2.2.1]
  repeat' split
  all_goals rfl
theorem X7_count_v {n : Nat} {t : Nat → Int} {W : Int} {m : SS} (h : TX n t W m) (x : Int) : ∃ m', f_X7_count x m = some (cntA n t W (m 0 30) x, m') ∧ frX m m' := by
  unfold f_X7_count cntA
  by_cases h0 : x = 0
  · rw [if_pos h0, if_pos h0, h.1.2.1]; exact ⟨m, rfl, frX_refl m⟩
  rw [if_neg h0, if_neg h0]
  by_cases h1 : x = 1
  · obtain ⟨m', a, b⟩ := X7_partsOf_v h
    rw [if_pos h1, if_pos h1, a, cb_t]; exact ⟨m', rfl, b⟩
  rw [if_neg h1, if_neg h1]
  by_cases h2 : x = 2
  · obtain ⟨m', a, b⟩ := X7_choicesOf_v h
    rw [if_pos h2, if_pos h2, a, cb_t]; exact ⟨m', rfl, b⟩
  rw [if_neg h2, if_neg h2]
  by_cases h3 : x = 3
  · rw [if_pos h3, if_pos h3, h.2.1]; exact ⟨m, rfl, frX_refl m⟩
  rw [if_neg h3, if_neg h3]
  by_cases h4 : x = 4
  · obtain ⟨m', a, b⟩ := X7_wholeOf_v h
    rw [if_pos h4, if_pos h4, a, cb_t]; exact ⟨m', rfl, b⟩
  rw [if_neg h4, if_neg h4]
  by_cases h5 : x = 5
  · obtain ⟨m', a, b⟩ := X7_triedOf_v h 0
    rw [if_pos h5, if_pos h5, a, cb_t]; exact ⟨m', rfl, b⟩
  rw [if_neg h5, if_neg h5]
  by_cases h6 : x = 6
  · obtain ⟨m', a, b⟩ := X7_triedOf_v h 1
    rw [if_pos h6, if_pos h6, a, cb_t]; exact ⟨m', rfl, b⟩
  rw [if_neg h6, if_neg h6]
  by_cases h7 : x = 7
  · obtain ⟨m', a, b⟩ := X7_bestOf_v h 0
    rw [if_pos h7, if_pos h7, a, cb_t]; exact ⟨m', rfl, b⟩
  rw [if_neg h7, if_neg h7]
  by_cases h8 : x = 8
  · rw [if_pos h8, if_pos h8]; exact ⟨m, rfl, frX_refl m⟩
  rw [if_neg h8, if_neg h8]; exact ⟨m, rfl, frX_refl m⟩
theorem ok_count : SOK vI M_X6_count M_X7_count 1 INV := by
  intro c m as hl _ _ _ hI
  match as, hl with
  | [x], _ =>
    obtain ⟨n, t, W, hC, hT, h7, hS⟩ := hI
    obtain ⟨m', a, b⟩ := X7_count_v hT x
    have e := X6_count_v hC x
    rw [h7] at e
    exact ⟨_, c, m', c_X6_count e, c_X7_count a, INV_q hC hT h7 hS b⟩
end QOK
