/-! ===== the model's shapes by their ways ===== -/
def er (x : Sh) : Sh := (x.1, x.2.1, x.2.2.1, 0)
def encO : Option Sh → Int
  | none => -1
  | some x => (pk (er x) : Int)
theorem encO_none : encO none = -1 := rfl
theorem encO_some (x : Sh) : encO (some x) = (pk (er x) : Int) := rfl
theorem encO_ne (x : Sh) : ¬ encO (some x) = -1 := by rw [encO_some]; omega
theorem er_bth (z : Int) (a b : Sh) : er (bth z a b) = bth z (er a) (er b) := by
  unfold bth er
  split <;> simp
theorem er_psh (n : Nat) (a : Sh) : er (psh n a) = psh n (er a) := rfl
theorem er_ok {x : Sh} (h : sOK x) : sOK (er x) := ⟨h.1, h.2.1, h.2.2.1, by show 0 < 64; decide⟩
theorem X7_isIn_v {w j : Nat} (hw : w < 64) (hj : j < 6) : f_X7_isIn (w : Int) (j : Int) = some (bI (w.testBit j)) := by
  unfold f_X7_isIn g_X7_isIn_14
  have hd : w / 2 ^ j ≤ w := Nat.div_le_self _ _
  rw [oN_shr (by omega) (by omega), show (1 : Int) = ((1 : Nat) : Int) from rfl, oN_and (by omega) (by decide), Nat.and_one_is_mod]
  have ht : w.testBit j = decide (w / 2 ^ j % 2 = 1) := Nat.testBit_eq_decide_div_mod_eq
  by_cases h : w / 2 ^ j % 2 = 1
  · rw [if_pos (by rw [h]), ht, decide_eq_true h]
    exact gb_1
  · rw [if_neg (by omega), ht, decide_eq_false h]
    exact gb_0
def MS (w np : Nat) (kd nu : Nat → Int) (c : Nat) (s : SS) : Prop := ∀ k, c ≤ k → k < np → s 11 k = encO (SH w np kd nu k)
theorem X7_shapeBy_v {w np : Nat} {kd nu : Nat → Int} (hw64 : w < 64) (hd : DOK np kd nu) {c : Nat} (hc : c < np) {s : SS} (hp : MP np kd nu s) (hS : MS w np kd nu (c + 1) s) : f_X7_shapeBy (c : Int) (w : Int) s = some (encO (SH w np kd nu c)) := by
  have hw := hd.2.1
  have h40 := hd.1
  obtain ⟨r2, r3, r7⟩ := hp c hc
  have hb := SH_bnd (w := w) hd c hc
  rw [SH_eq hw hc] at hb ⊢
  unfold shF at hb ⊢
  unfold f_X7_shapeBy g_X7_shapeBy_23
  rw [gx_d (by omega) (by omega), sb_t, tn_c, r2]
  rcases PK_of hd hc with ⟨h, a, n1, n2⟩ | ⟨h, a, h0, h3, n, k1, k2, k3⟩ | ⟨h, a, h0, n, n6, k1, k2, k3⟩ | ⟨h, a, h0, h3, h12, n1, n0, n2, k1⟩
  · rw [if_pos h] at hb ⊢
    rw [if_pos h, X7_twofold_v, bn_t, if_pos (by rw [h]; decide)]
    unfold g_X7_shapeBy_47
    rw [if_pos h, gx_d (by omega) (by omega), gx_d (by omega) (by omega), tn_c, r3]
    have hx := bnd_sOK hd hc (hb _ rfl)
    have es := X7_shape_pk hx
    rw [show (((nu c).toNat : Nat) : Int) = nu c by omega] at es
    have es' : f_X7_shape 1 (nu c) (nu c) 0 = _ := es
    rw [es', bn_t, encO_some]
    rfl
  · rw [if_neg h0, if_neg h3, if_pos h] at hb ⊢
    rw [if_neg h0, wr_t (by omega) (by omega), gx_d (by omega) (by omega), show ((c : Int) + 1).toNat = c + 1 by omega, X7_twofold_v, bn_t, if_neg (by rcases h with h | h <;> rw [h] <;> decide), gx_d (by omega) (by omega), r7 a, gx_d (by omega) (by omega), tn_c, hS (c + 1) (by omega) k1, hS _ (by omega) k2]
    unfold g_X7_shapeBy_47 g_X7_shapeBy_171 g_X7_shapeBy_183 g_X7_shapeBy_195
    rw [if_neg h0, if_neg h3, if_neg (by rcases h with h | h <;> rw [h] <;> decide), if_neg (by rcases h with h | h <;> rw [h] <;> decide)]
    cases hu : SH w np kd nu (c + 1) with
    | none => rw [if_pos encO_none]; rfl
    | some u =>
      rw [if_neg (encO_ne u)]
      cases hv : SH w np kd nu (scn np kd c) with
      | none => rw [if_pos encO_none]; rfl
      | some v =>
        rw [if_neg (encO_ne v), encO_some, encO_some]
        rw [hu, hv] at hb
        have hx := bnd_sOK hd hc (hb _ rfl)
        have hub := SH_bnd hd _ k1 u hu
        have hvb := SH_bnd hd _ k2 v hv
        rw [X7_both_pk (er_ok (bnd_sOK hd k1 hub)) (er_ok (bnd_sOK hd k2 hvb)) hub.1 (by rw [← er_bth]; exact er_ok hx), bn_t, ← er_bth]
        rfl
  · rw [if_neg h0, if_pos h] at hb ⊢
    rw [if_neg h0, wr_t (by omega) (by omega), gx_d (by omega) (by omega), show ((c : Int) + 1).toNat = c + 1 by omega, X7_twofold_v, bn_t, if_neg (by rw [h]; decide), gx_d (by omega) (by omega), r7 a, gx_d (by omega) (by omega), tn_c, hS (c + 1) (by omega) k1, hS _ (by omega) k2]
    unfold g_X7_shapeBy_47 g_X7_shapeBy_126
    rw [if_neg h0, if_pos h, gx_d (by omega) (by omega), tn_c, r3, show nu c = (((nu c).toNat : Nat) : Int) by omega, X7_isIn_v hw64 (by omega), bn_t, tn_c]
    cases ht : w.testBit (nu c).toNat with
    | false =>
      rw [if_pos (show bI false = 0 from rfl), if_neg (by decide)]
    | true =>
      rw [if_neg (show ¬ bI true = 0 by decide), if_pos rfl]
      cases SH w np kd nu (scn np kd c) with
      | none => rfl
      | some v => rfl
  · rw [if_neg h0, if_neg h3, if_neg h12] at hb ⊢
    rw [if_neg h0, wr_t (by omega) (by omega), gx_d (by omega) (by omega), show ((c : Int) + 1).toNat = c + 1 by omega, X7_twofold_v, bn_t, if_pos (by rcases h with h | h <;> rw [h] <;> decide), hS (c + 1) (by omega) k1]
    unfold g_X7_shapeBy_47 g_X7_shapeBy_148 g_X7_shapeBy_164 g_X7_shapeBy_170
    rw [if_neg h0, if_neg h3]
    cases hu : SH w np kd nu (c + 1) with
    | none =>
      rw [if_pos encO_none, if_pos encO_none]
      rcases h with h | h
      · rw [if_pos h]; rfl
      · rw [if_neg (by rw [h]; decide), if_pos h]; rfl
    | some u =>
      rw [if_neg (encO_ne u), if_neg (encO_ne u), encO_some]
      rw [hu] at hb
      have hub := SH_bnd hd _ k1 u hu
      have huo := er_ok (bnd_sOK hd k1 hub)
      rcases h with h | h
      · rw [if_pos h, gx_d (by omega) (by omega), tn_c, r3, show nu c = (((nu c).toNat : Nat) : Int) by omega]
        have hb' := hb (psh (nu c).toNat u) (by show (if kd c = 5 ∧ 1 < u.1 then none else _) = _; rw [if_neg (fun z => by rw [h] at z; exact absurd z.1 (by decide)), if_pos h])
        rw [X7_pushed_pk huo (by omega) (by rw [← er_psh]; exact er_ok (bnd_sOK hd hc hb')), bn_t, tn_c]
        show _ = some (encO (if kd c = 5 ∧ 1 < u.1 then none else some (psh (if kd c = 4 then (nu c).toNat else 0) u)))
        rw [if_neg (fun z => by rw [h] at z; exact absurd z.1 (by decide)), if_pos h, encO_some, er_psh]
      · rw [if_neg (by rw [h]; decide), if_pos h, X7_lines_pk huo, bn_t]
        show _ = some (encO (if kd c = 5 ∧ 1 < u.1 then none else some (psh (if kd c = 4 then (nu c).toNat else 0) u)))
        have e1 : (er u).1 = u.1 := rfl
        rw [e1]
        by_cases hl : (u.1 : Int) ≤ 1
        · rw [if_pos hl, if_neg (fun z => by omega), if_neg (by rw [h]; decide), encO_some]
          rfl
        · rw [if_neg hl, if_pos ⟨h, by omega⟩]
          rfl
def frS (s s' : SS) : Prop := ∀ q k, q ≠ 11 → s' q k = s q k
theorem MP_fr {np : Nat} {kd nu : Nat → Int} {s s' : SS} (h : MP np kd nu s) (f : ∀ k, s' 2 k = s 2 k ∧ s' 3 k = s 3 k ∧ s' 7 k = s 7 k) : MP np kd nu s' := fun k hk => by
  rw [(f k).1, (f k).2.1, (f k).2.2]
  exact h k hk
def UU (np : Nat) (kd nu : Nat → Int) (w : Nat) : Option Sh := if np = 0 then none else SH w np kd nu 0
theorem so_all {w np : Nat} {kd nu : Nat → Int} (hw64 : w < 64) (hd : DOK np kd nu) (hpos : 0 < np) : ∀ (c f : Nat) (s : SS), c ≤ np → c < f → s 0 4 = (np : Int) → MP np kd nu s → MS w np kd nu c s → ∃ s', f_X7_shapeOf_7 f (w : Int) ((c : Int) - 1) s = some (encO (SH w np kd nu 0), s') ∧ MS w np kd nu 0 s' ∧ frS s s' := by
  intro c
  have h40 := hd.1
  induction c with
  | zero =>
    intro f s _ hf h4 _ hM
    match f, hf with
    | f + 1, _ =>
      refine ⟨s, ?_, hM, fun _ _ _ => rfl⟩
      show g_X7_shapeOf_7 (f_X7_shapeOf_7 f) _ _ s = _
      unfold g_X7_shapeOf_7 g_X7_shapeOf_29 g_X7_shapeOf_46
      rw [if_pos (by omega), h4, if_neg (by omega), gx_d (by omega) (by omega), show (0 : Int).toNat = 0 from rfl, hM 0 (by omega) hpos]
  | succ c ih =>
    intro f s hc hf h4 hp hM
    match f, hf with
    | f + 1, hf =>
      rw [show ((c + 1 : Nat) : Int) - 1 = (c : Int) by omega]
      show ∃ s', g_X7_shapeOf_7 (f_X7_shapeOf_7 f) _ _ s = _ ∧ _
      unfold g_X7_shapeOf_7
      rw [if_neg (by omega), X7_shapeBy_v hw64 hd (by omega) hp hM, bn_t, gx_d (by omega) (by omega), sb_t, sb_t, tn_c, wr_t (by omega) (by omega)]
      obtain ⟨s', b1, b2, b3⟩ := ih f (up s 11 c (encO (SH w np kd nu c))) (by omega) (by omega) (by rw [up_q (by decide)]; exact h4) (MP_fr hp (fun k => ⟨up_q (by decide), up_q (by decide), up_q (by decide)⟩)) (fun k hk1 hk2 => by
        by_cases hkc : k = c
        · subst hkc; exact up_s
        · rw [up_k hkc]; exact hM k (by omega) hk2)
      exact ⟨s', b1, b2, fun q k x => by rw [b3 q k x, up_q x]⟩
theorem X7_shapeOf_v {w np : Nat} {kd nu : Nat → Int} (hw64 : w < 64) (hd : DOK0 np kd nu) {s : SS} (h4 : s 0 4 = (np : Int)) (hp : MP np kd nu s) : ∃ s', f_X7_shapeOf (w : Int) s = some (encO (UU np kd nu w), s') ∧ MS w np kd nu 0 s' ∧ frS s s' := by
  have hnp : np ≤ 40 := by
    rcases hd with h | h
    · omega
    · exact h.1
  unfold f_X7_shapeOf UU
  rw [sb_t, h4, wr_t (by omega) (by omega)]
  by_cases h0 : np = 0
  · subst h0
    rw [if_pos rfl]
    refine ⟨s, ?_, fun k _ h => by omega, fun _ _ _ => rfl⟩
    show g_X7_shapeOf_7 (f_X7_shapeOf_7 199) _ _ s = _
    unfold g_X7_shapeOf_7 g_X7_shapeOf_29 g_X7_shapeOf_46
    rw [if_pos (by omega), h4, if_pos (show ((0 : Nat) : Int) = 0 from rfl)]
    rfl
  · rw [if_neg h0]
    have hd1 : DOK np kd nu := hd.resolve_left h0
    exact so_all hw64 hd1 (by omega) np FU s (Nat.le_refl _) (by unfold FU; omega) h4 hp (fun k h1 h2 => by omega)
theorem fw_all {np : Nat} {kd nu : Nat → Int} (hd : DOK0 np kd nu) : ∀ (r w f : Nat) (s : SS), w + r = 64 → r < f → s 0 4 = (np : Int) → MP np kd nu s → (∀ v, v < w → s 12 v = encO (UU np kd nu v)) → ∃ s', f_X7_findsWays_6 f (w : Int) s = some s' ∧ (∀ v, v < 64 → s' 12 v = encO (UU np kd nu v)) ∧ (∀ q k, q ≠ 11 → q ≠ 12 → s' q k = s q k) := by
  intro r
  induction r with
  | zero =>
    intro w f s hw hf h4 hp hM
    match f, hf with
    | f + 1, _ =>
      refine ⟨s, ?_, fun v hv => hM v (by omega), fun _ _ _ _ => rfl⟩
      show g_X7_findsWays_6 (f_X7_findsWays_6 f) _ s = _
      unfold g_X7_findsWays_6 g_X7_findsWays_29
      rw [if_pos (by omega)]
  | succ r ih =>
    intro w f s hw hf h4 hp hM
    match f, hf with
    | f + 1, hf =>
      show ∃ s', g_X7_findsWays_6 (f_X7_findsWays_6 f) _ s = _ ∧ _
      obtain ⟨s1, a1, a2, a3⟩ := X7_shapeOf_v (w := w) (by omega) hd h4 hp
      unfold g_X7_findsWays_6
      rw [if_neg (by omega), a1, cb_t, gx_d (by omega) (by omega), sb_t, sb_t, tn_c, wr_t (by omega) (by omega), show (w : Int) + 1 = ((w + 1 : Nat) : Int) by omega]
      obtain ⟨s', b1, b2, b3⟩ := ih (w + 1) f (up s1 12 w (encO (UU np kd nu w))) (by omega) (by omega) (by rw [up_q (by decide), a3 0 4 (by decide)]; exact h4) (MP_fr hp (fun k => ⟨by rw [up_q (by decide), a3 2 k (by decide)], by rw [up_q (by decide), a3 3 k (by decide)], by rw [up_q (by decide), a3 7 k (by decide)]⟩)) (fun v hv => by
        by_cases hvw : v = w
        · subst hvw; exact up_s
        · rw [up_k hvw, a3 12 v (by decide)]; exact hM v (by omega))
      exact ⟨s', b1, b2, fun q k x y => by rw [b3 q k x y, up_q y, a3 q k x]⟩
theorem MR_fr {n : Nat} {t : Nat → Int} {s s' : SS} (h : MR n t s) (f0 : ∀ k, 3 ≤ k → k ≤ 5 → s' 0 k = s 0 k) (g : ∀ q k, 2 ≤ q → q ≤ 8 → s' q k = s q k) : MR n t s' := by
  obtain ⟨a, b, c, hr, hb, hz⟩ := h
  refine ⟨by rw [f0 3 (by decide) (by decide)]; exact a, by rw [f0 4 (by decide) (by decide)]; exact b, by rw [f0 5 (by decide) (by decide)]; exact c, fun j hj => ?_, fun k x y => ?_, by rw [g 8 0 (by decide) (by decide)]; exact hz⟩
  · rw [g 2 j (by decide) (by decide), g 3 j (by decide) (by decide), g 4 j (by decide) (by decide)]
    exact hr j hj
  · rw [g 5 k (by decide) (by decide), g 6 k (by decide) (by decide), g 7 k (by decide) (by decide), g 8 _ (by decide) (by decide), g 8 _ (by decide) (by decide)]
    exact hb k x y
abbrev U (n : Nat) (t : Nat → Int) (w : Nat) : Option Sh := UU (pN n t) (pK n t) (pU n t) w
/-- the model has all ways at hand -/
def WY (n : Nat) (t : Nat → Int) (W : Int) (s : SS) : Prop := TX n t W s ∧ MR n t s ∧ ∀ v, v < 64 → s 12 v = encO (U n t v)
theorem X7_findsWays_v {n : Nat} {t : Nat → Int} {W : Int} {s : SS} (h : TX n t W s) : ∃ s', f_X7_findsWays s = some s' ∧ WY n t W s' ∧ frX s s' := by
  obtain ⟨s1, a, b, c⟩ := X7_reads_x h
  obtain ⟨s2, a2, b2, c2⟩ := fw_all (D_0 (t := t) h.1.1) 64 0 FU s1 (by decide) (by unfold FU; decide) b.2.1 (MR_MP b) (fun v hv => by omega)
  have fx : frX s s2 := frX_trans c (fun q k x y => c2 q k (by omega) (by omega))
  refine ⟨s2, ?_, ⟨TX_fr h fx, MR_fr b (fun k _ _ => c2 0 k (by decide) (by decide)) (fun q k _ _ => c2 q k (by omega) (by omega)), b2⟩, fx⟩
  unfold f_X7_findsWays
  rw [a, bn_t]
  exact a2
theorem U_bnd {n : Nat} {t : Nat → Int} (hn : n ≤ 40) {w : Nat} {x : Sh} (h : U n t w = some x) : bnd (pN n t) (pK n t) 0 x ∧ sOK x ∧ 0 < pN n t ∧ DOK (pN n t) (pK n t) (pU n t) ∧ SH w (pN n t) (pK n t) (pU n t) 0 = some x := by
  unfold U UU at h
  by_cases h0 : pN n t = 0
  · rw [if_pos h0] at h; cases h
  · rw [if_neg h0] at h
    have hd := D_1 (t := t) hn (by omega)
    have hb := SH_bnd hd 0 (by omega) x h
    exact ⟨hb, bnd_sOK hd (by omega) hb, by omega, hd, h⟩
def wayA (n : Nat) (t : Nat → Int) (w : Nat) (y : Int) : Int := match U n t w with
  | none => -1
  | some x => tellA x y
theorem X7_wayFor_v {n : Nat} {t : Nat → Int} {W : Int} {s : SS} (h : TX n t W s) {w : Nat} (hw : w < 64) {y : Int} (hy : 0 ≤ y ∧ y ≤ 2) : ∃ s', f_X7_wayFor (w : Int) y s = some (wayA n t w y, s') ∧ frX s s' := by
  obtain ⟨s1, a, b, c⟩ := X7_reads_x h
  obtain ⟨s2, a2, b2, c2⟩ := X7_shapeOf_v hw (D_0 (t := t) h.1.1) b.2.1 (MR_MP b)
  have fx : frX s s2 := frX_trans c (fun q k x y => c2 q k (by omega))
  refine ⟨s2, ?_, fx⟩
  unfold f_X7_wayFor g_X7_wayFor_24 wayA
  rw [a, bn_t, a2, cb_t]
  cases hu : U n t w with
  | none => rw [if_pos (show encO (UU _ _ _ _) = -1 by rw [show UU (pts n t).length (kdL (pts n t)) (nuL (pts n t)) w = none from hu]; rfl)]
  | some x =>
    rw [show UU (pts n t).length (kdL (pts n t)) (nuL (pts n t)) w = some x from hu, if_neg (encO_ne x), encO_some, X7_tellOf_v (er_ok (U_bnd h.1.1 hu).2.1), bn_t]
    have e : tellA (er x) y = tellA x y := by
      unfold tellA
      have hy3 : y = 0 ∨ y = 1 ∨ y = 2 := by omega
      rcases hy3 with rfl | rfl | rfl <;> rfl
    rw [e]
