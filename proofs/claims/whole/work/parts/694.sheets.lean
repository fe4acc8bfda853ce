/-! ===== sheets ===== -/
section SHE
variable {n : Nat} {t : Nat → Int} {W : Int} {c m : SS}
theorem sheetC {j : Nat} (hj : j < 4) (s : SS) : f_X6_sheetOf (j : Int) s = some (some (42 + 2 * j)) := by
  unfold f_X6_sheetOf g_X6_sheetOf_13 g_X6_sheetOf_23
  rw [if_neg (by omega), if_pos (by omega), gx_d (by omega) (by omega), tn_c]
  match j, hj with
  | 0, _ => rfl
  | 1, _ => rfl
  | 2, _ => rfl
  | 3, _ => rfl
theorem sheetN {x : Int} (hx : ¬ (0 ≤ x ∧ x ≤ 3)) (s : SS) : f_X6_sheetOf x s = some none := by
  unfold f_X6_sheetOf g_X6_sheetOf_13 g_X6_sheetOf_23
  by_cases h : x < 0
  · rw [if_pos h]
  · rw [if_neg h, if_neg (by omega)]
theorem X7_isSheet_v (x : Int) : f_X7_isSheet x = some (if 0 ≤ x ∧ x ≤ 3 then 1 else 0) := by
  unfold f_X7_isSheet
  rw [X7_in_v, bn_t]
  split
  · exact gb_1
  · exact gb_0
theorem gp_j {β : Type} {j : Nat} (hj : j < 4) {x : Option β} : gp (42 + 2 * j) x = x := by
  unfold gp
  rw [if_pos (by omega)]
theorem X4_isLost_v (q : Nat) (s : SS) : f_X4_isLost q s = some (if s q 1 = -1 then 1 else 0) := by
  unfold f_X4_isLost g_X4_isLost_13
  by_cases h : s q 1 = -1
  · rw [if_pos h, if_pos h, gb_1]
  · rw [if_neg h, if_neg h, gb_0]
theorem X6_isForm_v (x : Int) : f_X6_isForm x = some (if 0 ≤ x ∧ x ≤ 2 then 1 else 0) := by
  unfold f_X6_isForm g_X6_isForm_13 g_X6_isForm_14
  by_cases h1 : x < 0
  · rw [if_pos h1, if_neg (by omega), gb_0]
  · rw [if_neg h1]
    by_cases h2 : 3 ≤ x
    · rw [if_pos h2, if_neg (by omega), gb_0]
    · rw [if_neg h2, if_pos (by omega), gb_1]
/-- a finding -/
theorem INV_f (hI : INV c m) (k : Int) : INV (up c 0 7 k) (up m 0 30 k) := by
  obtain ⟨n, t, W, hC, hT, h7, hS⟩ := hI
  refine ⟨n, t, W, CB_ext hC (fun q k _ _ => up_q (by omega)) (fun k hk => up_k hk), TX_ext hT (up_k (by decide)) (up_k (by decide)) (fun j => up_q (by decide)), by rw [up_s, up_s], fun j hj => ?_⟩
  exact SHT_ext (hS j hj) (fun k => up_q (by omega)) (fun k => up_q (by omega)) (up_q (by decide)) (up_q (by decide)) (up_q (by decide)) (fun i _ => up_q (by decide))
theorem found_v (k : Int) (s : SS) : f_X6_found k s = some (wr (-10 - k), up s 0 7 k) := rfl
theorem meets_v (k : Int) (s : SS) : f_X7_meets k s = some (wr (-10 - k), up s 0 30 k) := rfl
theorem SHT_lost {j : Nat} (h : SHT c m j) (hl : c (42 + 2 * j) 1 = -1) : m 16 j = 0 := by
  rcases h with ⟨a, -⟩ | ⟨k, -, a2, a3, -⟩
  · exact a
  · omega
theorem SHT_there {j : Nat} (h : SHT c m j) (hl : ¬ c (42 + 2 * j) 1 = -1) : ∃ k : Nat, m 16 j = 1 ∧ c (42 + 2 * j) 1 = m 17 j ∧ (0 ≤ m 17 j ∧ m 17 j ≤ 2) ∧ k ≤ 60 ∧ m 18 j = (k : Int) ∧ c (42 + 2 * j) 2 = (k : Int) ∧ ∀ i, i < k → c (43 + 2 * j) i = m 19 (60 * j + i) := by
  rcases h with ⟨-, a⟩ | h
  · exact absurd a hl
  · exact h
/-! a new row -/
theorem rn12 {q : Nat} : ∀ (r i f : Nat) (s : SS), i + r = 60 → r < f → ∃ s', f_X4_renew_12 f q (i : Int) s = some s' ∧ (∀ k, i ≤ k → k < 60 → s' (q + 1) k = 0) ∧ ∀ p k, (p = q + 1 → k < i) → s' p k = s p k := by
  intro r
  induction r with
  | zero =>
    intro i f s hi hf
    match f, hf with
    | f + 1, _ =>
      refine ⟨s, ?_, fun k h1 h2 => by omega, fun _ _ _ => rfl⟩
      show g_X4_renew_12 (f_X4_renew_12 f) q _ s = _
      unfold g_X4_renew_12 g_X4_renew_34
      rw [if_pos (by omega)]
  | succ r ih =>
    intro i f s hi hf
    match f, hf with
    | f + 1, hf =>
      show ∃ s', g_X4_renew_12 (f_X4_renew_12 f) q _ s = _ ∧ _
      unfold g_X4_renew_12
      rw [if_neg (by omega), gx_d (by omega) (by omega), sb_t, sb_t, tn_c, wr_t (by omega) (by omega), show (i : Int) + 1 = ((i + 1 : Nat) : Int) by omega]
      obtain ⟨s', a1, a2, a3⟩ := ih (i + 1) f (up s (q + 1) i 0) (by omega) (by omega)
      refine ⟨s', a1, fun k h1 h2 => ?_, fun p k h => ?_⟩
      · by_cases e : k = i
        · subst e
          rw [a3 (q + 1) k (fun _ => by omega)]
          exact up_s
        · exact a2 k (by omega) h2
      · rw [a3 p k (fun e => by have := h e; omega)]
        by_cases e : p = q + 1
        · subst e
          exact up_k (by have := h rfl; omega)
        · exact up_q e
theorem X4_renew_v (q : Nat) (x y : Int) (s : SS) : ∃ s', f_X4_renew q x y s = some s' ∧ (∀ k, k < 60 → s' (q + 1) k = 0) ∧ s' q 1 = x ∧ s' q 2 = y ∧ ∀ p k, p ≠ q → p ≠ q + 1 → s' p k = s p k := by
  unfold f_X4_renew
  rw [sb_t, sb_t]
  obtain ⟨s', a1, a2, a3⟩ := rn12 (q := q) 60 0 FU (up (up s q 1 x) q 2 y) (by omega) (by unfold FU; omega)
  refine ⟨s', a1, fun k hk => a2 k (by omega) hk, ?_, ?_, fun p k h1 h2 => ?_⟩
  · rw [a3 q 1 (fun e => by omega), up_k (by decide), up_s]
  · rw [a3 q 2 (fun e => by omega), up_s]
  · rw [a3 p k (fun e => absurd e h2), up_q h1, up_q h1]
theorem sh59 {j : Nat} (hj : j < 4) (y : Int) : ∀ (r i f : Nat) (s : SS), i + r = 60 → r < f → ∃ s', f_X7_sheet_59 f (j : Int) y (i : Int) s = some (y, s') ∧ (∀ k, i ≤ k → k < 60 → s' 19 (60 * j + k) = 0) ∧ ∀ p k, (p = 19 → k < 60 * j + i ∨ 60 * j + 60 ≤ k) → s' p k = s p k := by
  intro r
  induction r with
  | zero =>
    intro i f s hi hf
    match f, hf with
    | f + 1, _ =>
      refine ⟨s, ?_, fun k h1 h2 => by omega, fun _ _ _ => rfl⟩
      show g_X7_sheet_59 (f_X7_sheet_59 f) _ _ _ s = _
      unfold g_X7_sheet_59 g_X7_sheet_85
      rw [if_pos (by omega)]
  | succ r ih =>
    intro i f s hi hf
    match f, hf with
    | f + 1, hf =>
      show ∃ s', g_X7_sheet_59 (f_X7_sheet_59 f) _ _ _ s = _ ∧ _
      unfold g_X7_sheet_59
      have e1 : wr (wr (60 * (j : Int)) + (i : Int)) = ((60 * j + i : Nat) : Int) := by
        rw [wr_t (a := 60 * (j : Int)) (by omega) (by omega), wr_t (by omega) (by omega)]
        omega
      rw [if_neg (by omega), e1, gx_d (by omega) (by omega), sb_t, sb_t, tn_c, wr_t (by omega) (by omega), show (i : Int) + 1 = ((i + 1 : Nat) : Int) by omega]
      obtain ⟨s', a1, a2, a3⟩ := ih (i + 1) f (up s 19 (60 * j + i) 0) (by omega) (by omega)
      refine ⟨s', a1, fun k h1 h2 => ?_, fun p k h => ?_⟩
      · by_cases e : k = i
        · subst e
          rw [a3 19 _ (fun _ => by omega)]
          exact up_s
        · exact a2 k (by omega) h2
      · rw [a3 p k (fun e => by have := h e; omega)]
        by_cases e : p = 19
        · subst e
          exact up_k (by have := h rfl; omega)
        · exact up_q e
/-- the other sheets stay -/
theorem INV_j (hI : INV c m) {c' m' : SS} {j : Nat} (hj : j < 4) (hc : ∀ p k, p ≠ 42 + 2 * j → p ≠ 43 + 2 * j → c' p k = c p k) (hm0 : ∀ k, m' 0 k = m 0 k) (hm1 : ∀ k, m' 1 k = m 1 k) (hm : ∀ p k, 16 ≤ p → p ≤ 18 → k ≠ j → m' p k = m p k) (h19 : ∀ k, (k < 60 * j ∨ 60 * j + 60 ≤ k) → m' 19 k = m 19 k) (hS : SHT c' m' j) : INV c' m' := by
  obtain ⟨n, t, W, hC, hT, h7, hA⟩ := hI
  refine ⟨n, t, W, CB_ext hC (fun q k _ _ => hc q k (by omega) (by omega)) (fun k _ => hc 0 k (by omega) (by omega)), TX_ext hT (hm0 0) (hm0 2) hm1, by rw [hc 0 7 (by omega) (by omega), hm0]; exact h7, fun i hi => ?_⟩
  by_cases e : i = j
  · subst e; exact hS
  · exact SHT_ext (hA i hi) (fun k => hc _ k (by omega) (by omega)) (fun k => hc _ k (by omega) (by omega)) (hm 16 i (by decide) (by decide) e) (hm 17 i (by decide) (by decide) e) (hm 18 i (by decide) (by decide) e) (fun k hk => h19 _ (by omega))
theorem nat_of {x : Int} (h : 0 ≤ x ∧ x ≤ 3) : ∃ j : Nat, x = (j : Int) ∧ j < 4 := ⟨x.toNat, by omega, by omega⟩
theorem ok_sheet : SOK vI M_X6_sheet M_X7_sheet 3 INV := by
  intro c m as hl _ _ _ hI
  match as, hl with
  | [x, y, z], _ =>
    have bad : ¬ ((0 ≤ x ∧ x ≤ 3) ∧ (0 ≤ y ∧ y ≤ 2) ∧ z ≤ 60) → f_X6_sheet x y z c = some (-2, c) ∧ f_X7_sheet x y z m = some (-2, m) := by
      intro h
      unfold f_X6_sheet g_X6_sheet_25 f_X7_sheet g_X7_sheet_22
      rw [X7_isSheet_v, bn_t, X7_in_v, bn_t]
      by_cases h1 : 0 ≤ x ∧ x ≤ 3
      · obtain ⟨j, rfl, hj⟩ := nat_of h1
        rw [sheetC hj, bn_t, ob_ts, gp_j hj, X6_isForm_v, bn_t, if_pos h1, if_neg (show ¬ (1 : Int) = 0 by decide)]
        by_cases h2 : 0 ≤ y ∧ y ≤ 2
        · rw [if_pos h2, if_neg (show ¬ (1 : Int) = 0 by decide), if_neg (show ¬ (1 : Int) = 0 by decide), if_neg (by omega), if_neg (by omega)]
          exact ⟨rfl, rfl⟩
        · rw [if_neg h2, if_pos rfl, if_pos rfl]
          exact ⟨rfl, rfl⟩
      · rw [sheetN h1, bn_t, ob_tn, if_neg h1, if_pos rfl]
        exact ⟨rfl, rfl⟩
    by_cases g : (0 ≤ x ∧ x ≤ 3) ∧ (0 ≤ y ∧ y ≤ 2) ∧ z ≤ 60
    · obtain ⟨h1, h2, h3⟩ := g
      obtain ⟨j, rfl, hj⟩ := nat_of h1
      by_cases h4 : 0 ≤ z
      · obtain ⟨c', a1, a2, a3, a4, a5⟩ := X4_renew_v (42 + 2 * j) y z c
        obtain ⟨m', b1, b2, b3⟩ := sh59 hj z 60 0 FU (up (up (up m 16 j 1) 17 j y) 18 j z) (by omega) (by unfold FU; omega)
        have b1' : f_X7_sheet_59 FU (j : Int) z 0 (up (up (up m 16 j 1) 17 j y) 18 j z) = some (z, m') := b1
        refine ⟨z, c', m', c_X6_sheet ?_, c_X7_sheet ?_, ?_⟩
        · unfold f_X6_sheet
          rw [sheetC hj, bn_t, ob_ts, gp_j hj, X6_isForm_v, bn_t, if_pos h2, if_neg (show ¬ (1 : Int) = 0 by decide), if_pos h3, if_pos h4, a1, bn_t]
        · unfold f_X7_sheet
          have g : ∀ {β : Type} {z : Option β}, gx (j : Int) 4 z = z := fun {β z} => gx_d (by omega) (by omega)
          rw [X7_isSheet_v, bn_t, if_pos h1, if_neg (show ¬ (1 : Int) = 0 by decide), X7_in_v, bn_t, if_pos h2, if_neg (show ¬ (1 : Int) = 0 by decide), if_pos h3, if_pos h4]
          simp only [g, sb_t, tn_c]
          exact b1'
        · have m16 : m' 16 j = 1 := by rw [b3 16 j (fun e => by omega), up_q (by decide), up_q (by decide), up_s]
          have m17 : m' 17 j = y := by rw [b3 17 j (fun e => by omega), up_q (by decide), up_s]
          have m18 : m' 18 j = z := by rw [b3 18 j (fun e => by omega), up_s]
          refine INV_j hI hj (fun p k p1 p2 => a5 p k p1 (by omega)) (fun k => ?_) (fun k => ?_) (fun p k p1 p2 hk => ?_) (fun k hk => ?_) (Or.inr ⟨z.toNat, m16, by rw [a3, m17], by rw [m17]; exact h2, by omega, by rw [m18]; omega, by rw [a4]; omega, fun i hi => ?_⟩)
          · rw [b3 0 k (fun e => by omega), up_q (by decide), up_q (by decide), up_q (by decide)]
          · rw [b3 1 k (fun e => by omega), up_q (by decide), up_q (by decide), up_q (by decide)]
          · rw [b3 p k (fun e => by omega)]
            unfold up
            rw [if_neg (fun e => hk e.2), if_neg (fun e => hk e.2), if_neg (fun e => hk e.2)]
          · rw [b3 19 k (fun e => by omega), up_q (by decide), up_q (by decide), up_q (by decide)]
          · rw [b2 i (by omega) (by omega), show 43 + 2 * j = 42 + 2 * j + 1 by omega]
            exact a2 i (by omega)
      · refine ⟨wr (-10 - 5), up c 0 7 5, up m 0 30 5, c_X6_sheet ?_, c_X7_sheet ?_, INV_f hI 5⟩
        · unfold f_X6_sheet
          rw [sheetC hj, bn_t, ob_ts, gp_j hj, X6_isForm_v, bn_t, if_pos h2, if_neg (show ¬ (1 : Int) = 0 by decide), if_pos h3, if_neg h4, found_v, cb_t]
        · unfold f_X7_sheet
          rw [X7_isSheet_v, bn_t, if_pos h1, if_neg (show ¬ (1 : Int) = 0 by decide), X7_in_v, bn_t, if_pos h2, if_neg (show ¬ (1 : Int) = 0 by decide), if_pos h3, if_neg h4, meets_v, cb_t]
    · obtain ⟨e1, e2⟩ := bad g
      exact ⟨-2, c, m, c_X6_sheet e1, c_X7_sheet e2, hI⟩
theorem ok_lose : SOK vI M_X6_lose M_X7_lose 1 INV := by
  intro c m as hl _ _ _ hI
  match as, hl with
  | [x], _ =>
    by_cases h1 : 0 ≤ x ∧ x ≤ 3
    · obtain ⟨j, rfl, hj⟩ := nat_of h1
      have hS : SHT c m j := by obtain ⟨n, t, W, hC, hT, h7, hS⟩ := hI; exact hS j hj
      have g : ∀ {β : Type} {z : Option β}, gx (j : Int) 4 z = z := fun {β z} => gx_d (by omega) (by omega)
      by_cases h2 : c (42 + 2 * j) 1 = -1
      · have e16 := SHT_lost hS h2
        refine ⟨wr (-10 - 1), up c 0 7 1, up m 0 30 1, c_X6_lose ?_, c_X7_lose ?_, INV_f hI 1⟩
        · unfold f_X6_lose
          rw [sheetC hj, bn_t, ob_ts, gp_j hj, X4_isLost_v, bn_t, if_pos h2, if_neg (show ¬ (1 : Int) = 0 by decide), found_v, cb_t]
        · unfold f_X7_lose
          rw [X7_isSheet_v, bn_t, if_pos h1, if_neg (show ¬ (1 : Int) = 0 by decide), g, tn_c, if_pos e16, meets_v, cb_t]
      · obtain ⟨k, e16, e1, e2, e3, e4, e5, e6⟩ := SHT_there hS h2
        obtain ⟨c', a1, a2, a3, a4, a5⟩ := X4_renew_v (42 + 2 * j) (-1) 0 c
        refine ⟨(k : Int), c', up m 16 j 0, c_X6_lose ?_, c_X7_lose ?_, ?_⟩
        · unfold f_X6_lose
          rw [sheetC hj, bn_t, ob_ts, gp_j hj, X4_isLost_v, bn_t, if_neg h2, if_pos rfl, sb_t, a1, bn_t, e5]
        · unfold f_X7_lose
          rw [X7_isSheet_v, bn_t, if_pos h1, if_neg (show ¬ (1 : Int) = 0 by decide), g, tn_c, if_neg (by rw [e16]; decide), g, sb_t, g, up_q (by decide), e4]
        · refine INV_j hI hj (fun p k p1 p2 => a5 p k p1 (by omega)) (fun k => up_q (by decide)) (fun k => up_q (by decide)) (fun p k p1 p2 hk => ?_) (fun k hk => up_q (by decide)) (Or.inl ⟨up_s, a3⟩)
          unfold up
          rw [if_neg (fun e => hk e.2)]
    · refine ⟨-2, c, m, c_X6_lose ?_, c_X7_lose ?_, hI⟩
      · unfold f_X6_lose
        rw [sheetN h1, bn_t, ob_tn]
      · unfold f_X7_lose
        rw [X7_isSheet_v, bn_t, if_neg h1, if_pos rfl]
/-! an item -/
def cvt (f v : Int) : Int := if f = 0 then i_b v else if f = 1 then i_s v else v
theorem X4_store_v {q k i : Nat} {s : SS} (h2 : s q 2 = (k : Int)) (hk : k ≤ 60) (hi : i < k) (v : Int) : f_X4_store q (i : Int) v s = some (up s (q + 1) i (cvt (s q 1) v)) := by
  unfold f_X4_store g_X4_store_21 g_X4_store_66 cvt
  have g : ∀ {β : Type} {z : Option β}, gx (i : Int) 60 z = z := fun {β z} => gx_d (by omega) (by omega)
  rw [if_neg (by omega), h2, if_neg (by omega), if_pos (by omega), g, g, g, tn_c, sb_t, sb_t, sb_t]
  by_cases c0 : s q 1 = 0
  · rw [if_pos c0, if_pos c0]
  · rw [if_neg c0, if_neg c0]
    by_cases c1 : s q 1 = 1
    · rw [if_pos c1, if_pos c1]
    · rw [if_neg c1, if_neg c1]
theorem X7_keep_v {j i : Nat} (hj : j < 4) (hi : i < 60) (v : Int) (s : SS) : f_X7_keep (j : Int) (i : Int) v s = some (up s 19 (60 * j + i) (cvt (s 17 j) v)) := by
  unfold f_X7_keep g_X7_keep_40 cvt
  have g : ∀ {β : Type} {z : Option β}, gx (j : Int) 4 z = z := fun {β z} => gx_d (by omega) (by omega)
  have e1 : wr (wr (60 * (j : Int)) + (i : Int)) = ((60 * j + i : Nat) : Int) := by
    rw [wr_t (a := 60 * (j : Int)) (by omega) (by omega), wr_t (by omega) (by omega)]
    omega
  have g2 : ∀ {β : Type} {z : Option β}, gx ((60 * j + i : Nat) : Int) 240 z = z := fun {β z} => gx_d (by omega) (by omega)
  rw [g, g, e1, g2, g2, g2, tn_c, tn_c, sb_t, sb_t, sb_t]
  by_cases c0 : s 17 j = 0
  · rw [if_pos c0, if_pos c0]
  · rw [if_neg c0, if_neg c0]
    by_cases c1 : s 17 j = 1
    · rw [if_pos c1, if_pos c1]
    · rw [if_neg c1, if_neg c1]
theorem X4_itemAt_v {q k i : Nat} {s : SS} (h2 : s q 2 = (k : Int)) (hk : k ≤ 60) (hi : i < k) : f_X4_itemAt q (i : Int) s = some (s (q + 1) i) := by
  unfold f_X4_itemAt g_X4_itemAt_30 g_X4_itemAt_31
  rw [if_neg (by omega), h2, if_neg (by omega), if_neg (by omega), gx_d (by omega) (by omega), tn_c]
theorem X4_hasItems_v {q k : Nat} {s : SS} (h2 : s q 2 = (k : Int)) (hk : k ≤ 60) (x y : Int) : f_X4_hasItems q x y s = some (if 0 ≤ x ∧ 0 ≤ y ∧ x + y ≤ (k : Int) then 1 else 0) := by
  unfold f_X4_hasItems g_X4_hasItems_30 g_X4_hasItems_31
  rw [h2]
  by_cases c1 : x < 0
  · rw [if_pos c1, if_neg (by omega), gb_0]
  · rw [if_neg c1]
    by_cases c2 : y < 0
    · rw [if_pos c2, if_neg (by omega), gb_0]
    · rw [if_neg c2]
      by_cases c3 : (k : Int) < x
      · rw [if_pos c3, if_neg (by omega), gb_0]
      · rw [if_neg c3, wr_t (by omega) (by omega)]
        by_cases c4 : (k : Int) - x < y
        · rw [if_pos c4, if_neg (by omega), gb_0]
        · rw [if_neg c4, if_pos (by omega), gb_1]
/-- what is wrong with an item, in both -/
theorem wrong_v {j : Nat} (hj : j < 4) (hS : SHT c m j) (y z : Int) : ∃ v : Int, f_X6_wrongItem (42 + 2 * j) y z c = some v ∧ f_X7_lacks (j : Int) y z m = some v ∧ 0 ≤ v ∧ (v = 0 → ∃ k i : Nat, z = (i : Int) ∧ i < k ∧ k ≤ 60 ∧ c (42 + 2 * j) 2 = (k : Int) ∧ m 18 j = (k : Int) ∧ m 16 j = 1 ∧ c (42 + 2 * j) 1 = m 17 j ∧ (0 ≤ m 17 j ∧ m 17 j ≤ 2) ∧ ∀ i, i < k → c (43 + 2 * j) i = m 19 (60 * j + i)) := by
  have g : ∀ {β : Type} {z : Option β}, gx (j : Int) 4 z = z := fun {β z} => gx_d (by omega) (by omega)
  unfold f_X6_wrongItem g_X6_wrongItem_33 f_X7_lacks g_X7_lacks_48
  rw [X4_isLost_v, bn_t]
  simp only [g, tn_c]
  by_cases h2 : c (42 + 2 * j) 1 = -1
  · rw [if_pos h2, if_neg (show ¬ (1 : Int) = 0 by decide), if_pos (SHT_lost hS h2)]
    exact ⟨1, rfl, rfl, by decide, fun e => by omega⟩
  · obtain ⟨k, e16, e1, e2, e3, e4, e5, e6⟩ := SHT_there hS h2
    rw [if_neg h2, if_pos rfl, if_neg (show ¬ m 16 j = 0 by rw [e16]; decide), e1]
    by_cases h3 : m 17 j = y
    · rw [if_pos h3, if_pos h3, X4_hasItems_v e5 e3, bn_t, X7_in_v, bn_t, e4, wr_t (by omega) (by omega)]
      by_cases h4 : 0 ≤ z ∧ z < (k : Int)
      · rw [if_pos (show 0 ≤ z ∧ 0 ≤ (1 : Int) ∧ z + 1 ≤ (k : Int) by omega), if_pos (show 0 ≤ z ∧ z ≤ (k : Int) - 1 by omega), if_neg (show ¬ (1 : Int) = 0 by decide)]
        exact ⟨0, rfl, rfl, by decide, fun _ => ⟨k, z.toNat, by omega, by omega, e3, e5, rfl, e16, rfl, e2, e6⟩⟩
      · rw [if_neg (show ¬ (0 ≤ z ∧ 0 ≤ (1 : Int) ∧ z + 1 ≤ (k : Int)) by omega), if_neg (show ¬ (0 ≤ z ∧ z ≤ (k : Int) - 1) by omega), if_pos rfl]
        exact ⟨2, rfl, rfl, by decide, fun e => by omega⟩
    · rw [if_neg h3, if_neg h3]
      exact ⟨3, rfl, rfl, by decide, fun e => by omega⟩
/-- an item is kept in both -/
theorem INV_put (hI : INV c m) {j k i : Nat} (hj : j < 4) (hi : i < k) (hk : k ≤ 60) (h2 : c (42 + 2 * j) 2 = (k : Int)) (h18 : m 18 j = (k : Int)) (h16 : m 16 j = 1) (h1 : c (42 + 2 * j) 1 = m 17 j) (hf : 0 ≤ m 17 j ∧ m 17 j ≤ 2) (h6 : ∀ i, i < k → c (43 + 2 * j) i = m 19 (60 * j + i)) (v : Int) : INV (up c (42 + 2 * j + 1) i v) (up m 19 (60 * j + i) v) := by
  refine INV_j hI hj (fun p k p1 p2 => up_q (by omega)) (fun k => up_q (by decide)) (fun k => up_q (by decide)) (fun p k p1 p2 hk => up_q (by omega)) (fun k hk => up_k (by omega)) (Or.inr ⟨k, ?_, ?_, ?_, hk, ?_, ?_, fun l hl => ?_⟩)
  · rw [up_q (by decide)]; exact h16
  · rw [up_q (by omega), up_q (by decide)]; exact h1
  · rw [up_q (by decide)]; exact hf
  · rw [up_q (by decide)]; exact h18
  · rw [up_q (by omega)]; exact h2
  · by_cases e : l = i
    · subst e
      rw [show 43 + 2 * j = 42 + 2 * j + 1 by omega, up_s, up_s]
    · rw [show 43 + 2 * j = 42 + 2 * j + 1 by omega, up_k e, up_k (by omega), show 42 + 2 * j + 1 = 43 + 2 * j by omega]
      exact h6 l hl
theorem ok_put : SOK vI M_X6_put M_X7_put 4 INV := by
  intro c m as hl _ _ _ hI
  match as, hl with
  | [x, y, z, v], _ =>
    by_cases h1 : 0 ≤ x ∧ x ≤ 3
    · obtain ⟨j, rfl, hj⟩ := nat_of h1
      have hS : SHT c m j := by obtain ⟨n, t, W, hC, hT, h7, hS⟩ := hI; exact hS j hj
      by_cases h2 : 0 ≤ y ∧ y ≤ 2
      · obtain ⟨w, w1, w2, w3, w4⟩ := wrong_v hj hS y z
        by_cases w0 : w = 0
        · obtain ⟨k, i, rfl, e1, e2, e3, e4, e5, e6, e7, e8⟩ := w4 w0
          subst w0
          refine ⟨1, _, _, c_X6_put ?_, c_X7_put ?_, INV_put hI hj e1 e2 e3 e4 e5 e6 e7 e8 (cvt (m 17 j) v)⟩
          · unfold f_X6_put
            rw [sheetC hj, bn_t, ob_ts, gp_j hj, X6_isForm_v, bn_t, if_pos h2, if_neg (show ¬ (1 : Int) = 0 by decide), w1, bn_t, if_pos rfl, X4_store_v e3 e2 e1, bn_t, e6]
          · unfold f_X7_put
            rw [X7_isSheet_v, bn_t, if_pos h1, if_neg (show ¬ (1 : Int) = 0 by decide), X7_in_v, bn_t, if_pos h2, if_neg (show ¬ (1 : Int) = 0 by decide), w2, bn_t, if_pos (by decide), X7_keep_v hj (by omega), bn_t]
        · refine ⟨wr (-10 - w), up c 0 7 w, up m 0 30 w, c_X6_put ?_, c_X7_put ?_, INV_f hI w⟩
          · unfold f_X6_put
            rw [sheetC hj, bn_t, ob_ts, gp_j hj, X6_isForm_v, bn_t, if_pos h2, if_neg (show ¬ (1 : Int) = 0 by decide), w1, bn_t, if_neg w0, found_v, cb_t]
          · unfold f_X7_put
            rw [X7_isSheet_v, bn_t, if_pos h1, if_neg (show ¬ (1 : Int) = 0 by decide), X7_in_v, bn_t, if_pos h2, if_neg (show ¬ (1 : Int) = 0 by decide), w2, bn_t, if_neg (by omega), meets_v, cb_t]
      · refine ⟨-2, c, m, c_X6_put ?_, c_X7_put ?_, hI⟩
        · unfold f_X6_put g_X6_put_19
          rw [sheetC hj, bn_t, ob_ts, gp_j hj, X6_isForm_v, bn_t, if_neg h2, if_pos rfl]
        · unfold f_X7_put g_X7_put_16
          rw [X7_isSheet_v, bn_t, if_pos h1, if_neg (show ¬ (1 : Int) = 0 by decide), X7_in_v, bn_t, if_neg h2, if_pos rfl]
    · refine ⟨-2, c, m, c_X6_put ?_, c_X7_put ?_, hI⟩
      · unfold f_X6_put g_X6_put_19
        rw [sheetN h1, bn_t, ob_tn]
      · unfold f_X7_put g_X7_put_16
        rw [X7_isSheet_v, bn_t, if_neg h1, if_pos rfl]
theorem ok_get : SOK vI M_X6_get M_X7_get 3 INV := by
  intro c m as hl _ _ _ hI
  match as, hl with
  | [x, y, z], _ =>
    by_cases h1 : 0 ≤ x ∧ x ≤ 3
    · obtain ⟨j, rfl, hj⟩ := nat_of h1
      have hS : SHT c m j := by obtain ⟨n, t, W, hC, hT, h7, hS⟩ := hI; exact hS j hj
      by_cases h2 : 0 ≤ y ∧ y ≤ 2
      · obtain ⟨w, w1, w2, w3, w4⟩ := wrong_v hj hS y z
        by_cases w0 : w = 0
        · obtain ⟨k, i, rfl, e1, e2, e3, e4, e5, e6, e7, e8⟩ := w4 w0
          subst w0
          have ei : wr (wr (60 * (j : Int)) + (i : Int)) = ((60 * j + i : Nat) : Int) := by
            rw [wr_t (a := 60 * (j : Int)) (by omega) (by omega), wr_t (by omega) (by omega)]
            omega
          refine ⟨m 19 (60 * j + i), c, m, c_X6_get ?_, c_X7_get ?_, hI⟩
          · unfold f_X6_get
            rw [sheetC hj, bn_t, ob_ts, gp_j hj, X6_isForm_v, bn_t, if_pos h2, if_neg (show ¬ (1 : Int) = 0 by decide), w1, bn_t, if_pos rfl, X4_itemAt_v e3 e2 e1, bn_t, show 42 + 2 * j + 1 = 43 + 2 * j by omega, e8 i e1]
          · unfold f_X7_get
            rw [X7_isSheet_v, bn_t, if_pos h1, if_neg (show ¬ (1 : Int) = 0 by decide), X7_in_v, bn_t, if_pos h2, if_neg (show ¬ (1 : Int) = 0 by decide), w2, bn_t, if_pos (by decide), ei, gx_d (by omega) (by omega), tn_c]
        · refine ⟨-2147483648, up c 0 7 w, up m 0 30 w, c_X6_get ?_, c_X7_get ?_, INV_f hI w⟩
          · unfold f_X6_get
            rw [sheetC hj, bn_t, ob_ts, gp_j hj, X6_isForm_v, bn_t, if_pos h2, if_neg (show ¬ (1 : Int) = 0 by decide), w1, bn_t, if_neg w0, found_v, cb_t]
          · unfold f_X7_get
            rw [X7_isSheet_v, bn_t, if_pos h1, if_neg (show ¬ (1 : Int) = 0 by decide), X7_in_v, bn_t, if_pos h2, if_neg (show ¬ (1 : Int) = 0 by decide), w2, bn_t, if_neg (by omega), sb_t]
      · refine ⟨-2147483648, c, m, c_X6_get ?_, c_X7_get ?_, hI⟩
        · unfold f_X6_get g_X6_get_19
          rw [sheetC hj, bn_t, ob_ts, gp_j hj, X6_isForm_v, bn_t, if_neg h2, if_pos rfl]
        · unfold f_X7_get g_X7_get_16
          rw [X7_isSheet_v, bn_t, if_pos h1, if_neg (show ¬ (1 : Int) = 0 by decide), X7_in_v, bn_t, if_neg h2, if_pos rfl]
    · refine ⟨-2147483648, c, m, c_X6_get ?_, c_X7_get ?_, hI⟩
      · unfold f_X6_get g_X6_get_19
        rw [sheetN h1, bn_t, ob_tn]
      · unfold f_X7_get g_X7_get_16
        rw [X7_isSheet_v, bn_t, if_neg h1, if_pos rfl]
end SHE
