/-! ===== the digest ===== -/
def ds (h x : Int) : Int := wl (wl (31 * h) + x)
def dgr (F : Nat → Int → Int) : Nat → Nat → Int → Int
  | 0, _, h => h
  | r + 1, i, h => dgr F r (i + 1) (F i h)
theorem dgr2 (F : Nat → Int → Int) (b : Int) : dgr F 2 0 b = F 1 (F 0 b) := rfl
theorem lpC {β : Type} {s : SS} (f : Nat → Int → Int → SS → Option β) (N : Nat) (F : Nat → Int → Int) (E : Int → Option β) (hE : ∀ fu h, f (fu + 1) h (N : Int) s = E h) (hF : ∀ fu h i, i < N → f (fu + 1) h (i : Int) s = f fu (F i h) ((i + 1 : Nat) : Int) s) : ∀ (r i fu : Nat) (h : Int), i + r = N → r < fu → f fu h (i : Int) s = E (dgr F r i h) := by
  intro r
  induction r with
  | zero =>
    intro i fu h hi hf
    match fu, hf with
    | fu + 1, _ =>
      obtain rfl : i = N := by omega
      exact hE fu h
  | succ r ih =>
    intro i fu h hi hf
    match fu, hf with
    | fu + 1, hf =>
      rw [hF fu h i (by omega)]
      exact ih (i + 1) fu (F i h) (by omega) (by omega)
theorem lpM {β : Type} {s : SS} (f : Nat → Int → Int → SS → Option β) (N : Nat) (F : Nat → Int → Int) (E : Int → SS → Option β) (hE : ∀ fu h s', frX s s' → f (fu + 1) h (N : Int) s' = E h s') (hF : ∀ fu h i s', i < N → frX s s' → ∃ s'', f (fu + 1) h (i : Int) s' = f fu (F i h) ((i + 1 : Nat) : Int) s'' ∧ frX s s'') : ∀ (r i fu : Nat) (h : Int) (s' : SS), i + r = N → r < fu → frX s s' → ∃ s'', f fu h (i : Int) s' = E (dgr F r i h) s'' ∧ frX s s'' := by
  intro r
  induction r with
  | zero =>
    intro i fu h s' hi hf hs
    match fu, hf with
    | fu + 1, _ =>
      obtain rfl : i = N := by omega
      exact ⟨s', hE fu h s' hs, hs⟩
  | succ r ih =>
    intro i fu h s' hi hf hs
    match fu, hf with
    | fu + 1, hf =>
      obtain ⟨s1, a, b⟩ := hF fu h i s' (by omega) hs
      obtain ⟨s2, a2, b2⟩ := ih (i + 1) fu (F i h) s1 (by omega) (by omega) b
      exact ⟨s2, by rw [a]; exact a2, b2⟩
section DG
variable {n : Nat} {t : Nat → Int} {W : Int} {s : SS}
theorem ew_i {i : Nat} (h : i ≤ 1000) : wr ((i : Int) + 1) = ((i + 1 : Nat) : Int) := by
  rw [wr_t (by omega) (by omega)]
  omega
def shp (n : Nat) (t : Nat → Int) (W x y h : Int) : Int := dgr (fun w h => ds h (fronA n t W x y (w : Int))) 4 0 h
noncomputable def dPa (n : Nat) (t : Nat → Int) (W x h : Int) : Int := dgr (fun w h => ds h (partA n t W x (w : Int))) 4 0 h
noncomputable def eP (n : Nat) (t : Nat → Int) (W h : Int) : Int := dgr (fun i h => shp n t W 0 (i : Int) h) 8 0 (dgr (fun p h => shp n t W (p : Int) 1 (shp n t W (p : Int) 0 (dPa n t W (p : Int) h))) (pN n t) 0 h)
def eB (n : Nat) (t : Nat → Int) (W h : Int) : Int := dgr (fun l h => ds (ds (ds h (liA n t W (l : Int) (-1))) (liA n t W (l : Int) 0)) (liA n t W (l : Int) 5)) 10 0 (dgr (fun y h => ds h (besA n t W (y : Int))) 5 0 (ds (ds h (triA n t W 0)) (triA n t W 1)))
noncomputable def eW (n : Nat) (t : Nat → Int) (W h : Int) : Int := ds (ds (ds (ds (ds (dgr (fun y h => ds h (hasA n t W (y : Int))) 3 0 (dgr (fun w h => dgr (fun y h => ds h (wayA n t w (y : Int))) 3 0 h) 64 0 h)) (enA n t)) (shrA (Lv n t) (-1))) (shrA (Lv n t) 0)) (shrA (Lv n t) 1)) (spA n t W)
noncomputable def digA (n : Nat) (t : Nat → Int) (W F : Int) : Int := eW n t W (eB n t W (eP n t W (ds (dgr (fun i h => ds h (cntA n t W F (i : Int))) 8 0 17) (fau n t))))
/-! the class -/
theorem X6_digestShape_v (h : CB n t W s) (a x y : Int) : f_X6_digestShape a x y s = some (shp n t W x y a) := by
  refine lpC (s := s) (fun fu h i s => f_X6_digestShape_6 fu x y h i s) 4 (fun w h => ds h (fronA n t W x y (w : Int))) (fun h => some h) (fun fu b => ?_) (fun fu b i hi => ?_) 4 0 FU a rfl (by unfold FU; omega)
  · show g_X6_digestShape_6 (f_X6_digestShape_6 fu) _ _ _ _ s = _
    unfold g_X6_digestShape_6 g_X6_digestShape_37
    rw [if_pos (by decide)]
  · show g_X6_digestShape_6 (f_X6_digestShape_6 fu) _ _ _ _ s = _
    unfold g_X6_digestShape_6
    rw [if_neg (by omega), X6_frontier_v h.2.1, bn_t, sb_t, sb_t, ew_i (by omega)]
    rfl
theorem X6_digestParts_v (h : CB n t W s) (a : Int) : f_X6_digestParts a s = some (eP n t W a) := by
  have hl : pN n t ≤ n := (pts_ok n t).2
  have hn := h.1.1
  have h9 : s 1 9 = (pN n t : Int) := h.2.1.2.2.1.1
  have l73 : ∀ b : Int, f_X6_digestParts_73 FU b 0 s = some (dgr (fun i h => shp n t W 0 (i : Int) h) 8 0 b) := by
    intro b
    refine lpC (s := s) f_X6_digestParts_73 8 (fun i h => shp n t W 0 (i : Int) h) (fun h => some h) (fun fu b => ?_) (fun fu b i hi => ?_) 8 0 FU b rfl (by unfold FU; omega)
    · show g_X6_digestParts_73 (f_X6_digestParts_73 fu) _ _ s = _
      unfold g_X6_digestParts_73 g_X6_digestParts_95
      rw [if_pos (by decide)]
    · show g_X6_digestParts_73 (f_X6_digestParts_73 fu) _ _ s = _
      unfold g_X6_digestParts_73
      rw [if_neg (by omega), X6_digestShape_v h, bn_t, sb_t, ew_i (by omega)]
  have l5 := lpC (s := s) f_X6_digestParts_5 (pN n t) (fun p h => shp n t W (p : Int) 1 (shp n t W (p : Int) 0 (dPa n t W (p : Int) h))) (fun h => g_X6_digestParts_70 h s) (fun fu b => by
    show g_X6_digestParts_5 (f_X6_digestParts_5 fu) _ _ s = _
    unfold g_X6_digestParts_5
    rw [h9, if_pos (Int.le_refl _)]) (fun fu b i hi => by
    show g_X6_digestParts_5 (f_X6_digestParts_5 fu) _ _ s = _
    unfold g_X6_digestParts_5
    rw [h9, if_neg (by omega)]
    have l20 : f_X6_digestParts_20 (f_X6_digestParts_5 fu) FU b (i : Int) 0 s = g_X6_digestParts_48 (f_X6_digestParts_5 fu) (dPa n t W (i : Int) b) (i : Int) s := by
      refine lpC (s := s) (fun f h w s => f_X6_digestParts_20 (f_X6_digestParts_5 fu) f h (i : Int) w s) 4 (fun w h => ds h (partA n t W (i : Int) (w : Int))) (fun h => g_X6_digestParts_48 (f_X6_digestParts_5 fu) h (i : Int) s) (fun f b => ?_) (fun f b w hw => ?_) 4 0 FU b rfl (by unfold FU; omega)
      · show g_X6_digestParts_20 _ (f_X6_digestParts_20 _ f) _ _ _ s = _
        unfold g_X6_digestParts_20
        rw [if_pos (by decide)]
      · show g_X6_digestParts_20 _ (f_X6_digestParts_20 _ f) _ _ _ s = _
        unfold g_X6_digestParts_20
        rw [if_neg (by omega), X6_part_v h.2.1, bn_t, sb_t, sb_t, ew_i (by omega)]
        rfl
    rw [l20]
    unfold g_X6_digestParts_48
    rw [X6_digestShape_v h, bn_t, X6_digestShape_v h, bn_t, sb_t, ew_i (by omega)]) (pN n t) 0 FU a (by omega) (by unfold FU; omega)
  have l5' : f_X6_digestParts a s = g_X6_digestParts_70 (dgr (fun p h => shp n t W (p : Int) 1 (shp n t W (p : Int) 0 (dPa n t W (p : Int) h))) (pN n t) 0 a) s := l5
  rw [l5']
  exact l73 _
theorem X6_digestBest_v (h : CB n t W s) (a : Int) : f_X6_digestBest a s = some (eB n t W a) := by
  have hn := h.1.1
  have t0 : f_X6_tried 0 s = some (triA n t W 0) := X6_tried_v h.2.1 0
  have t1 : f_X6_tried 1 s = some (triA n t W 1) := X6_tried_v h.2.1 1
  have l56 : ∀ b : Int, f_X6_digestBest_56 FU b 0 s = some (dgr (fun l h => ds (ds (ds h (liA n t W (l : Int) (-1))) (liA n t W (l : Int) 0)) (liA n t W (l : Int) 5)) 10 0 b) := by
    intro b
    refine lpC (s := s) f_X6_digestBest_56 10 (fun l h => ds (ds (ds h (liA n t W (l : Int) (-1))) (liA n t W (l : Int) 0)) (liA n t W (l : Int) 5)) (fun h => some h) (fun fu b => ?_) (fun fu b i hi => ?_) 10 0 FU b rfl (by unfold FU; omega)
    · show g_X6_digestBest_56 (f_X6_digestBest_56 fu) _ _ s = _
      unfold g_X6_digestBest_56 g_X6_digestBest_114
      rw [if_pos (by decide)]
    · show g_X6_digestBest_56 (f_X6_digestBest_56 fu) _ _ s = _
      have e1 : f_X6_line (i : Int) (-1) s = some (liA n t W (i : Int) (-1)) := by rw [X6_line_v hn (CB_L h), if_pos (by omega)]
      have e2 : f_X6_line (i : Int) 0 s = some (liA n t W (i : Int) 0) := by rw [X6_line_v hn (CB_L h), if_pos (by omega)]
      have e3 : f_X6_line (i : Int) 5 s = some (liA n t W (i : Int) 5) := by rw [X6_line_v hn (CB_L h), if_pos (by omega)]
      unfold g_X6_digestBest_56
      rw [if_neg (by omega), e1, bn_t, sb_t, e2, bn_t, sb_t, e3, bn_t, sb_t, sb_t, ew_i (by omega)]
      rfl
  have l27 : ∀ b : Int, f_X6_digestBest_27 FU b 0 s = g_X6_digestBest_53 (dgr (fun y h => ds h (besA n t W (y : Int))) 5 0 b) s := by
    intro b
    refine lpC (s := s) f_X6_digestBest_27 5 (fun y h => ds h (besA n t W (y : Int))) (fun h => g_X6_digestBest_53 h s) (fun fu b => ?_) (fun fu b i hi => ?_) 5 0 FU b rfl (by unfold FU; omega)
    · show g_X6_digestBest_27 (f_X6_digestBest_27 fu) _ _ s = _
      unfold g_X6_digestBest_27
      rw [if_pos (by decide)]
    · show g_X6_digestBest_27 (f_X6_digestBest_27 fu) _ _ s = _
      unfold g_X6_digestBest_27
      rw [if_neg (by omega), X6_best_v h, if_pos (by omega), bn_t, sb_t, sb_t, ew_i (by omega)]
      rfl
  unfold f_X6_digestBest
  rw [t0, bn_t, t1, bn_t, sb_t, l27]
  exact l56 _
theorem X6_digestWays_v (h : CB n t W s) (a : Int) : f_X6_digestWays a s = some (eW n t W a) := by
  have hn := h.1.1
  have hR := h.2.2.1.1
  have h10 : s 1 10 = (pC n t : Int) := h.2.1.2.2.1.2.1
  have l52 : ∀ b : Int, f_X6_digestWays_52 FU b 0 s = g_X6_digestWays_78 (dgr (fun y h => ds h (hasA n t W (y : Int))) 3 0 b) s := by
    intro b
    refine lpC (s := s) f_X6_digestWays_52 3 (fun y h => ds h (hasA n t W (y : Int))) (fun h => g_X6_digestWays_78 h s) (fun fu b => ?_) (fun fu b i hi => ?_) 3 0 FU b rfl (by unfold FU; omega)
    · show g_X6_digestWays_52 (f_X6_digestWays_52 fu) _ _ s = _
      unfold g_X6_digestWays_52
      rw [if_pos (by decide)]
    · show g_X6_digestWays_52 (f_X6_digestWays_52 fu) _ _ s = _
      unfold g_X6_digestWays_52
      rw [if_neg (by omega), X6_haste_v hn hR h10 h.2.2.2.1, if_pos (by omega), bn_t, sb_t, sb_t, ew_i (by omega)]
      rfl
  have l5 : f_X6_digestWays a s = g_X6_digestWays_49 (dgr (fun w h => dgr (fun y h => ds h (wayA n t w (y : Int))) 3 0 h) 64 0 a) s := by
    refine lpC (s := s) f_X6_digestWays_5 64 (fun w h => dgr (fun y h => ds h (wayA n t w (y : Int))) 3 0 h) (fun h => g_X6_digestWays_49 h s) (fun fu b => ?_) (fun fu b i hi => ?_) 64 0 FU a rfl (by unfold FU; omega)
    · show g_X6_digestWays_5 (f_X6_digestWays_5 fu) _ _ s = _
      unfold g_X6_digestWays_5
      rw [if_pos (by decide)]
    · show g_X6_digestWays_5 (f_X6_digestWays_5 fu) _ _ s = _
      unfold g_X6_digestWays_5
      rw [if_neg (by omega)]
      have l15 : f_X6_digestWays_15 (f_X6_digestWays_5 fu) FU b (i : Int) 0 s = g_X6_digestWays_43 (f_X6_digestWays_5 fu) (dgr (fun y h => ds h (wayA n t i (y : Int))) 3 0 b) (i : Int) s := by
        refine lpC (s := s) (fun f h w s => f_X6_digestWays_15 (f_X6_digestWays_5 fu) f h (i : Int) w s) 3 (fun y h => ds h (wayA n t i (y : Int))) (fun h => g_X6_digestWays_43 (f_X6_digestWays_5 fu) h (i : Int) s) (fun f b => ?_) (fun f b w hw => ?_) 3 0 FU b rfl (by unfold FU; omega)
        · show g_X6_digestWays_15 _ (f_X6_digestWays_15 _ f) _ _ _ s = _
          unfold g_X6_digestWays_15
          rw [if_pos (by decide)]
        · show g_X6_digestWays_15 _ (f_X6_digestWays_15 _ f) _ _ _ s = _
          unfold g_X6_digestWays_15
          have ey : f_X6_way (i : Int) (w : Int) s = some (wayA n t i (w : Int)) := by
            rw [X6_way_v hn hR]
            unfold wyA
            rw [if_pos (by omega), tn_c]
          rw [if_neg (by omega), ey, bn_t, sb_t, sb_t, ew_i (by omega)]
          rfl
      rw [l15]
      unfold g_X6_digestWays_43
      rw [sb_t, ew_i (by omega)]
  rw [l5]
  unfold g_X6_digestWays_49
  rw [l52]
  have s1 : f_X6_shrinks (-1) s = some (shrA (Lv n t) (-1)) := X6_shrinks_v h.2.2.1 (-1)
  have s2 : f_X6_shrinks 0 s = some (shrA (Lv n t) 0) := X6_shrinks_v h.2.2.1 0
  have s3 : f_X6_shrinks 1 s = some (shrA (Lv n t) 1) := X6_shrinks_v h.2.2.1 1
  have e0 : f_X6_enough s = some (enA n t) := by
    unfold f_X6_enough
    rw [h.2.2.1.2.1]
  unfold g_X6_digestWays_78
  rw [e0, bn_t, sb_t, s1, bn_t, sb_t, s2, bn_t, sb_t, s3, bn_t, sb_t, X6_spare_v h, bn_t]
  rfl
theorem X6_digest_v (h : CB n t W s) : f_X6_digest s = some (digA n t W (s 0 7)) := by
  have l6 : f_X6_digest s = g_X6_digest_31 (dgr (fun i h => ds h (cntA n t W (s 0 7) (i : Int))) 8 0 17) s := by
    refine lpC (s := s) f_X6_digest_6 8 (fun i h => ds h (cntA n t W (s 0 7) (i : Int))) (fun h => g_X6_digest_31 h s) (fun fu b => ?_) (fun fu b i hi => ?_) 8 0 FU 17 rfl (by unfold FU; omega)
    · show g_X6_digest_6 (f_X6_digest_6 fu) _ _ s = _
      unfold g_X6_digest_6
      rw [if_pos (by decide)]
    · show g_X6_digest_6 (f_X6_digest_6 fu) _ _ s = _
      unfold g_X6_digest_6
      rw [if_neg (by omega), X6_count_v h, bn_t, sb_t, sb_t, ew_i (by omega)]
      rfl
  have ef : f_X6_fault s = some (fau n t) := by
    unfold f_X6_fault
    rw [h.2.1.2.2.1.2.2.1]
  rw [l6]
  unfold g_X6_digest_31
  rw [ef, bn_t, sb_t, X6_digestParts_v h, bn_t, X6_digestBest_v h, bn_t, X6_digestWays_v h, bn_t]
  rfl
/-! the model -/
theorem X7_partDigest_v (h : TX n t W s) (a x : Int) : ∃ s', f_X7_partDigest a x s = some (shp n t W x 1 (shp n t W x 0 (dPa n t W x a)), s') ∧ frX s s' := by
  obtain ⟨s1, a1, b1⟩ := lpM (s := s) (fun fu h i s => f_X7_partDigest_6 fu x h i s) 4 (fun w h => ds h (partA n t W x (w : Int))) (fun h s => g_X7_partDigest_35 x h s) (fun fu b s' hs => by
    show g_X7_partDigest_6 (f_X7_partDigest_6 fu) _ _ _ s' = _
    unfold g_X7_partDigest_6
    rw [if_pos (by decide)]) (fun fu b i s' hi hs => by
    obtain ⟨s2, c1, c2⟩ := X7_part_v (TX_fr h hs) x (i : Int)
    refine ⟨s2, ?_, frX_trans hs c2⟩
    show g_X7_partDigest_6 (f_X7_partDigest_6 fu) _ _ _ s' = _
    unfold g_X7_partDigest_6
    rw [if_neg (by omega), c1, cb_t, sb_t, sb_t, ew_i (by omega)]
    rfl) 4 0 FU a s rfl (by unfold FU; omega) (frX_refl s)
  obtain ⟨s2, a2, b2⟩ := lpM (s := s) (fun fu h i s => f_X7_partDigest_38 fu x h i s) 2 (fun i h => shp n t W x (i : Int) h) (fun h s => some (h, s)) (fun fu b s' hs => by
    show g_X7_partDigest_38 (f_X7_partDigest_38 fu) _ _ _ s' = _
    unfold g_X7_partDigest_38 g_X7_partDigest_84
    rw [if_pos (by decide)]) (fun fu b i s' hi hs => by
    obtain ⟨s3, c1, c2⟩ := lpM (s := s) (fun f h w s => f_X7_partDigest_47 (f_X7_partDigest_38 fu) f x h (i : Int) w s) 4 (fun w h => ds h (fronA n t W x (i : Int) (w : Int))) (fun h s => g_X7_partDigest_78 (f_X7_partDigest_38 fu) x h (i : Int) s) (fun f b s' hs => by
      show g_X7_partDigest_47 _ (f_X7_partDigest_47 _ f) _ _ _ _ s' = _
      unfold g_X7_partDigest_47
      rw [if_pos (by decide)]) (fun f b w s' hw hs => by
      obtain ⟨s4, d1, d2⟩ := X7_frontier_v (TX_fr h hs) x (i : Int) (w : Int)
      refine ⟨s4, ?_, frX_trans hs d2⟩
      show g_X7_partDigest_47 _ (f_X7_partDigest_47 _ f) _ _ _ _ s' = _
      unfold g_X7_partDigest_47
      rw [if_neg (by omega), d1, cb_t, sb_t, sb_t, ew_i (by omega)]
      rfl) 4 0 FU b s' rfl (by unfold FU; omega) hs
    refine ⟨s3, ?_, c2⟩
    show g_X7_partDigest_38 (f_X7_partDigest_38 fu) _ _ _ s' = _
    unfold g_X7_partDigest_38
    rw [if_neg (by omega)]
    refine c1.trans ?_
    unfold g_X7_partDigest_78
    rw [sb_t, ew_i (by omega)]
    rfl) 2 0 FU (dPa n t W x a) s1 rfl (by unfold FU; omega) b1
  refine ⟨s2, ?_, b2⟩
  have a1' : f_X7_partDigest a x s = g_X7_partDigest_35 x (dPa n t W x a) s1 := a1
  have a2' : g_X7_partDigest_35 x (dPa n t W x a) s1 = some (dgr (fun i h => shp n t W x (i : Int) h) 2 0 (dPa n t W x a), s2) := a2
  have e2 : dgr (fun i h => shp n t W x (i : Int) h) 2 0 (dPa n t W x a) = shp n t W x ((1 : Nat) : Int) (shp n t W x ((0 : Nat) : Int) (dPa n t W x a)) := dgr2 (fun i h => shp n t W x (i : Int) h) (dPa n t W x a)
  rw [a1', a2', e2, show ((1 : Nat) : Int) = 1 from rfl, show ((0 : Nat) : Int) = 0 from rfl]
theorem m_ways (h : TX n t W s) {s' : SS} (hs : frX s s') (a : Int) : ∃ s'', g_X7_digest_235 a s' = some (eW n t W a, s'') ∧ frX s s'' := by
  obtain ⟨s1, a1, b1⟩ := lpM (s := s) f_X7_digest_238 64 (fun w h => dgr (fun y h => ds h (wayA n t w (y : Int))) 3 0 h) (fun h s => g_X7_digest_282 h s) (fun fu b s' hs => by
    show g_X7_digest_238 (f_X7_digest_238 fu) _ _ s' = _
    unfold g_X7_digest_238
    rw [if_pos (by decide)]) (fun fu b i s' hi hs => by
    obtain ⟨s3, c1, c2⟩ := lpM (s := s) (fun f h w s => f_X7_digest_248 (f_X7_digest_238 fu) f h (i : Int) w s) 3 (fun y h => ds h (wayA n t i (y : Int))) (fun h s => g_X7_digest_276 (f_X7_digest_238 fu) h (i : Int) s) (fun f b s' hs => by
      show g_X7_digest_248 _ (f_X7_digest_248 _ f) _ _ _ s' = _
      unfold g_X7_digest_248
      rw [if_pos (by decide)]) (fun f b w s' hw hs => by
      obtain ⟨s4, d1, d2⟩ := X7_wayFor_v (TX_fr h hs) hi (y := (w : Int)) (by omega)
      refine ⟨s4, ?_, frX_trans hs d2⟩
      show g_X7_digest_248 _ (f_X7_digest_248 _ f) _ _ _ s' = _
      unfold g_X7_digest_248
      rw [if_neg (by omega), d1, cb_t, sb_t, sb_t, ew_i (by omega)]
      rfl) 3 0 FU b s' rfl (by unfold FU; omega) hs
    refine ⟨s3, ?_, c2⟩
    show g_X7_digest_238 (f_X7_digest_238 fu) _ _ s' = _
    unfold g_X7_digest_238
    rw [if_neg (by omega)]
    refine c1.trans ?_
    unfold g_X7_digest_276
    rw [sb_t, ew_i (by omega)]) 64 0 FU a s' rfl (by unfold FU; omega) hs
  obtain ⟨s2, a2, b2⟩ := lpM (s := s) f_X7_digest_285 3 (fun y h => ds h (hasA n t W (y : Int))) (fun h s => g_X7_digest_311 h s) (fun fu b s' hs => by
    show g_X7_digest_285 (f_X7_digest_285 fu) _ _ s' = _
    unfold g_X7_digest_285
    rw [if_pos (by decide)]) (fun fu b i s' hi hs => by
    obtain ⟨s4, d1, d2⟩ := X7_hasteOf_v (TX_fr h hs) (y := (i : Int)) (by omega)
    refine ⟨s4, ?_, frX_trans hs d2⟩
    show g_X7_digest_285 (f_X7_digest_285 fu) _ _ s' = _
    unfold g_X7_digest_285
    rw [if_neg (by omega), d1, cb_t, sb_t, sb_t, ew_i (by omega)]
    rfl) 3 0 FU (dgr (fun w h => dgr (fun y h => ds h (wayA n t w (y : Int))) 3 0 h) 64 0 a) s1 rfl (by unfold FU; omega) b1
  obtain ⟨s3, a3, b3⟩ := X7_enoughOf_v (TX_fr h b2)
  have b3 := frX_trans b2 b3
  obtain ⟨s4, a4, b4⟩ := X7_shrinksOf_v (TX_fr h b3) (-1)
  have b4 := frX_trans b3 b4
  obtain ⟨s5, a5, b5⟩ := X7_shrinksOf_v (TX_fr h b4) 0
  have b5 := frX_trans b4 b5
  obtain ⟨s6, a6, b6⟩ := X7_shrinksOf_v (TX_fr h b5) 1
  have b6 := frX_trans b5 b6
  obtain ⟨s7, a7, b7⟩ := X7_spareOf_v (TX_fr h b6)
  have b7 := frX_trans b6 b7
  refine ⟨s7, ?_, b7⟩
  unfold g_X7_digest_235
  have a1' : f_X7_digest_238 FU a 0 s' = _ := a1
  have a2' : g_X7_digest_282 (dgr (fun w h => dgr (fun y h => ds h (wayA n t w (y : Int))) 3 0 h) 64 0 a) s1 = _ := a2
  rw [a1', a2']
  unfold g_X7_digest_311
  rw [a3, cb_t, sb_t, a4, cb_t, sb_t, a5, cb_t, sb_t, a6, cb_t, sb_t, a7, cb_t]
  rfl
theorem m_best (h : TX n t W s) {s' : SS} (hs : frX s s') (a : Int) : ∃ s'', g_X7_digest_119 a s' = g_X7_digest_235 (eB n t W a) s'' ∧ frX s s'' := by
  obtain ⟨s1, a1, b1⟩ := X7_triedOf_v (TX_fr h hs) 0
  have b1 := frX_trans hs b1
  obtain ⟨s2, a2, b2⟩ := X7_triedOf_v (TX_fr h b1) 1
  have b2 := frX_trans b1 b2
  obtain ⟨s3, a3, b3⟩ := lpM (s := s) f_X7_digest_148 5 (fun y h => ds h (besA n t W (y : Int))) (fun h s => g_X7_digest_174 h s) (fun fu b s' hs => by
    show g_X7_digest_148 (f_X7_digest_148 fu) _ _ s' = _
    unfold g_X7_digest_148
    rw [if_pos (by decide)]) (fun fu b i s' hi hs => by
    obtain ⟨s4, d1, d2⟩ := X7_bestOf_v (TX_fr h hs) (i : Int)
    refine ⟨s4, ?_, frX_trans hs d2⟩
    show g_X7_digest_148 (f_X7_digest_148 fu) _ _ s' = _
    unfold g_X7_digest_148
    rw [if_neg (by omega), d1, cb_t, sb_t, sb_t, ew_i (by omega)]
    rfl) 5 0 FU (ds (ds a (triA n t W 0)) (triA n t W 1)) s2 rfl (by unfold FU; omega) b2
  obtain ⟨s4, a4, b4⟩ := lpM (s := s) f_X7_digest_177 10 (fun l h => ds (ds (ds h (liA n t W (l : Int) (-1))) (liA n t W (l : Int) 0)) (liA n t W (l : Int) 5)) (fun h s => g_X7_digest_235 h s) (fun fu b s' hs => by
    show g_X7_digest_177 (f_X7_digest_177 fu) _ _ s' = _
    unfold g_X7_digest_177
    rw [if_pos (by decide)]) (fun fu b i s' hi hs => by
    obtain ⟨s5, d1, d2⟩ := X7_lineOf_v (TX_fr h hs) (i : Int) (-1)
    have d2 := frX_trans hs d2
    obtain ⟨s6, e1, e2⟩ := X7_lineOf_v (TX_fr h d2) (i : Int) 0
    have e2 := frX_trans d2 e2
    obtain ⟨s7, f1, f2⟩ := X7_lineOf_v (TX_fr h e2) (i : Int) 5
    have f2 := frX_trans e2 f2
    refine ⟨s7, ?_, f2⟩
    show g_X7_digest_177 (f_X7_digest_177 fu) _ _ s' = _
    unfold g_X7_digest_177
    rw [if_neg (by omega), d1, cb_t, sb_t, e1, cb_t, sb_t, f1, cb_t, sb_t, sb_t, ew_i (by omega)]
    rfl) 10 0 FU (dgr (fun y h => ds h (besA n t W (y : Int))) 5 0 (ds (ds a (triA n t W 0)) (triA n t W 1))) s3 rfl (by unfold FU; omega) b3
  refine ⟨s4, ?_, b4⟩
  unfold g_X7_digest_119
  rw [a1, cb_t, sb_t, a2, cb_t, sb_t]
  have a3' : f_X7_digest_148 FU (ds (ds a (triA n t W 0)) (triA n t W 1)) 0 s2 = _ := a3
  refine a3'.trans ?_
  exact a4
theorem m_parts (h : TX n t W s) {s' : SS} (hs : frX s s') (a : Int) : ∃ s'', f_X7_digest_51 FU a (pN n t : Int) 0 s' = g_X7_digest_119 (eP n t W a) s'' ∧ frX s s'' := by
  have hl : pN n t ≤ n := (pts_ok n t).2
  have hn := h.1.1
  obtain ⟨s1, a1, b1⟩ := lpM (s := s) (fun fu h i s => f_X7_digest_51 fu h (pN n t : Int) i s) (pN n t) (fun p h => shp n t W (p : Int) 1 (shp n t W (p : Int) 0 (dPa n t W (p : Int) h))) (fun h s => g_X7_digest_71 h s) (fun fu b s' hs => by
    show g_X7_digest_51 (f_X7_digest_51 fu) _ _ _ s' = _
    unfold g_X7_digest_51
    rw [if_pos (Int.le_refl _)]) (fun fu b i s' hi hs => by
    obtain ⟨s2, c1, c2⟩ := X7_partDigest_v (TX_fr h hs) b (i : Int)
    refine ⟨s2, ?_, frX_trans hs c2⟩
    show g_X7_digest_51 (f_X7_digest_51 fu) _ _ _ s' = _
    unfold g_X7_digest_51
    rw [if_neg (by omega), c1, cb_t, sb_t, ew_i (by omega)]) (pN n t) 0 FU a s' (by omega) (by unfold FU; omega) hs
  obtain ⟨s2, a2, b2⟩ := lpM (s := s) f_X7_digest_74 8 (fun i h => shp n t W 0 (i : Int) h) (fun h s => g_X7_digest_119 h s) (fun fu b s' hs => by
    show g_X7_digest_74 (f_X7_digest_74 fu) _ _ s' = _
    unfold g_X7_digest_74
    rw [if_pos (by decide)]) (fun fu b i s' hi hs => by
    obtain ⟨s3, c1, c2⟩ := lpM (s := s) (fun f h w s => f_X7_digest_84 (f_X7_digest_74 fu) f h (i : Int) w s) 4 (fun w h => ds h (fronA n t W 0 (i : Int) (w : Int))) (fun h s => g_X7_digest_113 (f_X7_digest_74 fu) h (i : Int) s) (fun f b s' hs => by
      show g_X7_digest_84 _ (f_X7_digest_84 _ f) _ _ _ s' = _
      unfold g_X7_digest_84
      rw [if_pos (by decide)]) (fun f b w s' hw hs => by
      obtain ⟨s4, d1, d2⟩ := X7_frontier_v (TX_fr h hs) 0 (i : Int) (w : Int)
      refine ⟨s4, ?_, frX_trans hs d2⟩
      show g_X7_digest_84 _ (f_X7_digest_84 _ f) _ _ _ s' = _
      unfold g_X7_digest_84
      rw [if_neg (by omega), d1, cb_t, sb_t, sb_t, ew_i (by omega)]
      rfl) 4 0 FU b s' rfl (by unfold FU; omega) hs
    refine ⟨s3, ?_, c2⟩
    show g_X7_digest_74 (f_X7_digest_74 fu) _ _ s' = _
    unfold g_X7_digest_74
    rw [if_neg (by omega)]
    refine c1.trans ?_
    unfold g_X7_digest_113
    rw [sb_t, ew_i (by omega)]
    rfl) 8 0 FU (dgr (fun p h => shp n t W (p : Int) 1 (shp n t W (p : Int) 0 (dPa n t W (p : Int) h))) (pN n t) 0 a) s1 rfl (by unfold FU; omega) b1
  refine ⟨s2, ?_, b2⟩
  refine a1.trans ?_
  exact a2
theorem X7_digest_v (h : TX n t W s) : ∃ s', f_X7_digest s = some (digA n t W (s 0 30), s') ∧ frX s s' := by
  obtain ⟨s1, a1, b1⟩ := lpM (s := s) f_X7_digest_6 8 (fun i h => ds h (cntA n t W (s 0 30) (i : Int))) (fun h s => g_X7_digest_31 h s) (fun fu b s' hs => by
    show g_X7_digest_6 (f_X7_digest_6 fu) _ _ s' = _
    unfold g_X7_digest_6
    rw [if_pos (by decide)]) (fun fu b i s' hi hs => by
    obtain ⟨s2, c1, c2⟩ := X7_count_v (TX_fr h hs) (i : Int)
    rw [hs 0 30 (by omega) (by omega)] at c1
    refine ⟨s2, ?_, frX_trans hs c2⟩
    show g_X7_digest_6 (f_X7_digest_6 fu) _ _ s' = _
    unfold g_X7_digest_6
    rw [if_neg (by omega), c1, cb_t, sb_t, sb_t, ew_i (by omega)]
    rfl) 8 0 FU 17 s rfl (by unfold FU; omega) (frX_refl s)
  have a1' : f_X7_digest s = g_X7_digest_31 (dgr (fun i h => ds h (cntA n t W (s 0 30) (i : Int))) 8 0 17) s1 := a1
  obtain ⟨s2, a2, b2⟩ := X7_faultOf_v (TX_fr h b1)
  have b2 := frX_trans b1 b2
  obtain ⟨s3, a3, b3⟩ := X7_partsOf_v (TX_fr h b2)
  have b3 := frX_trans b2 b3
  obtain ⟨s4, a4, b4⟩ := m_parts h b3 (ds (dgr (fun i h => ds h (cntA n t W (s 0 30) (i : Int))) 8 0 17) (fau n t))
  obtain ⟨s5, a5, b5⟩ := m_best h b4 (eP n t W (ds (dgr (fun i h => ds h (cntA n t W (s 0 30) (i : Int))) 8 0 17) (fau n t)))
  obtain ⟨s6, a6, b6⟩ := m_ways h b5 (eB n t W (eP n t W (ds (dgr (fun i h => ds h (cntA n t W (s 0 30) (i : Int))) 8 0 17) (fau n t))))
  refine ⟨s6, ?_, b6⟩
  rw [a1']
  unfold g_X7_digest_31
  rw [a2, cb_t, sb_t, a3, cb_t]
  refine a4.trans ?_
  rw [a5, a6]
  rfl
theorem ok_digest : SOK vL M_X6_digest M_X7_digest 0 INV := by
  intro c m as hl _ _ _ hI
  match as, hl with
  | [], _ =>
    obtain ⟨n, t, W, hC, hT, h7, hS⟩ := hI
    obtain ⟨m', a, b⟩ := X7_digest_v hT
    have e := X6_digest_v hC
    rw [h7] at e
    exact ⟨_, c, m', c_X6_digest e, c_X7_digest a, INV_q hC hT h7 hS b⟩
end DG
