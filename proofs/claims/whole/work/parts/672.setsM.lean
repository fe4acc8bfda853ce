/-! ===== the model sets the parts ===== -/
def PM (np : Nat) (P : Ps) (s : SS) : Prop := ∀ k, k < np → (P k = none → s 15 k = 0) ∧ ∀ r c, P k = some (r, c) → s 15 k = 1 ∧ s 13 k = (r : Int) ∧ s 14 k = (c : Int)
def ptM (s : SS) (k : Nat) (r c : Int) : SS := up (up (up s 15 k 1) 13 k r) 14 k c
theorem ptM_off {s : SS} {k : Nat} {r c : Int} {p j : Nat} (h : (p < 13 ∨ 15 < p) ∨ j ≠ k) : ptM s k r c p j = s p j := by
  unfold ptM up
  repeat' split
  all_goals (first | rfl | omega)
theorem ptM_at (s : SS) (k : Nat) (r c : Int) : ptM s k r c 15 k = 1 ∧ ptM s k r c 13 k = r ∧ ptM s k r c 14 k = c := by
  unfold ptM
  refine ⟨?_, ?_, up_s⟩
  · rw [up_q (by decide), up_q (by decide), up_s]
  · rw [up_q (by decide), up_s]
theorem X7_puts_v {k : Nat} (hk : k < 40) (r c : Int) (s : SS) : f_X7_puts (k : Int) r c s = some (ptM s k r c) := by
  unfold f_X7_puts
  have g : ∀ {β : Type} {z : Option β}, gx (k : Int) 40 z = z := fun {β z} => gx_d (by omega) (by omega)
  simp only [g, sb_t, tn_c]
  rfl
theorem PM_put {np : Nat} {P : Ps} {s : SS} (h : PM np P s) (k r c : Nat) : PM np (stp P k r c) (ptM s k (r : Int) (c : Int)) := by
  intro j hj
  by_cases e : j = k
  · subst e
    rw [stp_eq]
    obtain ⟨a1, a2, a3⟩ := ptM_at s j (r : Int) (c : Int)
    refine ⟨fun z => (by cases z), fun r' c' z => ?_⟩
    injection z with z
    injection z with e1 e2
    subst e1
    subst e2
    exact ⟨a1, a2, a3⟩
  · rw [stp_ne e]
    have o : ∀ p, ptM s k (r : Int) (c : Int) p j = s p j := fun p => ptM_off (Or.inr e)
    rw [o 15, o 13, o 14]
    exact h j hj
theorem PM_ext {np : Nat} {P : Ps} {s s' : SS} (h : PM np P s) (e : ∀ q k, 13 ≤ q → q ≤ 15 → s' q k = s q k) : PM np P s' := by
  intro k hk
  rw [e 15 k (by decide) (by decide), e 13 k (by decide) (by decide), e 14 k (by decide) (by decide)]
  exact h k hk
section PLM
variable {w np : Nat} {kd nu : Nat → Int}
theorem X7_setsBelow_v (hd : DOK np kd nu) (h0 : 0 < np) (hw64 : w < 64) {x0 y : Sh} (hx : SH w np kd nu 0 = some x0) (hy : sOK y) (hyw : y.2.2.2 = w) {i : Nat} (hi : i < np) (hki : kd i ≠ 0) {s : SS} (h18 : s 0 18 = (pk y : Int)) (hp : MP np kd nu s) (hS : MS w np kd nu 0 s) (hP : PM np (PLs w np kd nu i) s) {r c : Nat} (hPi : PLs w np kd nu i i = some (r, c)) :
    ∃ s', f_X7_setsBelow (i : Int) s = some s' ∧ PM np (PLs w np kd nu (i + 1)) s' ∧ ∀ q k, (q < 13 ∨ 15 < q) → s' q k = s q k := by
  have h40 := hd.1
  obtain ⟨r2, r3, r7⟩ := hp i hi
  obtain ⟨⟨x, hxi⟩, br, bc⟩ := PL_ok hd h0 hx i (by omega) i hi r c hPi
  obtain ⟨b1, b2, b3⟩ := (hP i hi).2 r c hPi
  have hU : PLs w np kd nu (i + 1) = upP w np kd nu (PLs w np kd nu i) i := rfl
  rw [hU]
  unfold upP
  rw [hPi]
  dsimp only
  rw [SH_eq hd.2.1 hi] at hxi
  unfold shF at hxi
  unfold f_X7_setsBelow g_X7_setsBelow_82 g_X7_setsBelow_196 g_X7_setsBelow_200
  have g : ∀ {β : Type} {z : Option β}, gx (i : Int) 40 z = z := fun {β z} => gx_d (by omega) (by omega)
  have e1 : wr ((i : Int) + 1) = ((i + 1 : Nat) : Int) := by rw [wr_t (by omega) (by omega)]; omega
  simp only [g, sb_t, tn_c, e1]
  rw [r2, b2, b3]
  rcases PK_of hd hi with ⟨q, a, n1, n2⟩ | ⟨q, a, k0, h3, n, k1, k2, k3⟩ | ⟨q, a, k0, n, n6, k1, k2, k3⟩ | ⟨q, a, k0, h3, h12, n1, n0, n2, k1⟩
  · exact absurd q hki
  · have g1 : ∀ {β : Type} {z : Option β}, gx ((i + 1 : Nat) : Int) 40 z = z := fun {β z} => gx_d (by omega) (by omega)
    rw [if_neg k0]
    rw [if_neg k0, if_neg h3, if_pos q] at hxi
    obtain ⟨u, hu, hxi⟩ := Option.bind_eq_some_iff.mp hxi
    have ul : lnS (SH w np kd nu (i + 1)) = u.1 := by rw [hu]; rfl
    have ua : laS (SH w np kd nu (i + 1)) = u.2.1 := by rw [hu]; rfl
    have ub := SH_bnd (w := w) hd _ k1 u hu
    have uo := bnd_sOK hd k1 ub
    obtain ⟨uo1, uo2, -, -⟩ := id uo
    have us : s 11 (i + 1) = (pk (er u) : Int) := by have := hS (i + 1) (by omega) k1; rw [hu] at this; exact this
    have us1 : ptM s (i + 1) (r : Int) (c : Int) 11 (i + 1) = (pk (er u) : Int) := by rw [ptM_off (by omega)]; exact us
    have f7 : ptM s (i + 1) (r : Int) (c : Int) 7 i = (scn np kd i : Int) := by rw [ptM_off (by omega)]; exact r7 a
    have ll : f_X7_lines (pk (er u) : Int) = some (u.1 : Int) := X7_lines_pk (er_ok uo)
    have la : f_X7_last (pk (er u) : Int) = some (u.2.1 : Int) := X7_last_pk (er_ok uo)
    rw [ul, ua]
    have P1 := PM_put hP (i + 1) r c
    rcases q with q | q
    · rw [if_pos q, if_pos q, X7_puts_v (by omega), bn_t, g1, us1, ll, bn_t, g1, la, bn_t, f7, X7_puts_v (by omega), bn_t, wr_t (a := (r : Int) + u.1) (by omega) (by omega), wr_t (a := (r : Int) + u.1 - 1) (by omega) (by omega), wr_t (a := (c : Int) + u.2.1) (by omega) (by omega)]
      refine ⟨_, rfl, ?_, fun q k x => by rw [ptM_off (by omega), ptM_off (by omega)]⟩
      have P2 := PM_put P1 (scn np kd i) (r + u.1 - 1) (c + u.2.1)
      rw [show ((r + u.1 - 1 : Nat) : Int) = (r : Int) + u.1 - 1 by have := ub.1; omega, show ((c + u.2.1 : Nat) : Int) = (c : Int) + u.2.1 by omega] at P2
      exact P2
    · rw [if_neg (by omega), if_pos q, if_neg (by omega), if_pos q, X7_puts_v (by omega), bn_t, g1, us1, ll, bn_t, f7, X7_puts_v (by omega), bn_t, wr_t (by omega) (by omega)]
      refine ⟨_, rfl, ?_, fun q k x => by rw [ptM_off (by omega), ptM_off (by omega)]⟩
      have P2 := PM_put P1 (scn np kd i) (r + u.1) c
      rw [show ((r + u.1 : Nat) : Int) = (r : Int) + u.1 by omega] at P2
      exact P2
  · have q1 : ¬ kd i = 1 := by omega
    have q2 : ¬ kd i = 2 := by omega
    simp only [if_neg k0, if_neg q1, if_neg q2, if_pos q]
    rw [h18, X7_way_pk hy, bn_t, hyw, r3, r7 a]
    have en : nu i = (((nu i).toNat : Nat) : Int) := by omega
    generalize (nu i).toNat = j at en
    have hj : j < 6 := by omega
    rw [en, X7_isIn_v hw64 hj, bn_t]
    cases hb : w.testBit j with
    | true =>
      rw [if_pos rfl, if_neg (show ¬ bI true = 0 by decide), X7_puts_v (by omega), bn_t]
      exact ⟨_, rfl, PM_put hP _ r c, fun q k x => ptM_off (by omega)⟩
    | false =>
      rw [if_neg (show ¬ (false = true) by decide), if_pos (show bI false = 0 from rfl), X7_puts_v (by omega), bn_t]
      exact ⟨_, rfl, PM_put hP _ r c, fun q k x => ptM_off (by omega)⟩
  · have q1 : ¬ kd i = 1 := fun z => h12 (Or.inl z)
    have q2 : ¬ kd i = 2 := fun z => h12 (Or.inr z)
    simp only [if_neg k0, if_neg q1, if_neg q2, if_neg h3]
    rw [r3]
    by_cases q4 : kd i = 4
    · rw [if_pos q4, if_pos q4, X7_puts_v (by omega), bn_t, wr_t (by omega) (by omega)]
      refine ⟨_, rfl, ?_, fun q k x => ptM_off (by omega)⟩
      have P1 := PM_put hP (i + 1) r (c + (nu i).toNat)
      rw [show ((c + (nu i).toNat : Nat) : Int) = (c : Int) + nu i by omega] at P1
      exact P1
    · rw [if_neg q4, if_neg q4, X7_puts_v (by omega), bn_t, wr_t (by omega) (by omega), Int.add_zero]
      exact ⟨_, rfl, PM_put hP _ r c, fun q k x => ptM_off (by omega)⟩
theorem se83 (hd : DOK np kd nu) (h0 : 0 < np) (hw64 : w < 64) {x0 y : Sh} (hx : SH w np kd nu 0 = some x0) (hy : sOK y) (hyw : y.2.2.2 = w) : ∀ (m i f : Nat) (s : SS), i + m = np → m < f → s 0 4 = (np : Int) → s 0 18 = (pk y : Int) → MP np kd nu s → MS w np kd nu 0 s → PM np (PLs w np kd nu i) s → ∃ s', f_X7_sets_83 f (i : Int) s = some s' ∧ PM np (PF w np kd nu) s' ∧ ∀ q k, (q < 13 ∨ 15 < q) → s' q k = s q k := by
  intro m
  have h40 := hd.1
  induction m with
  | zero =>
    intro i f s hi hf h4 _ _ _ hP
    match f, hf with
    | f + 1, _ =>
      obtain rfl : i = np := by omega
      refine ⟨s, ?_, hP, fun _ _ _ => rfl⟩
      show g_X7_sets_83 (f_X7_sets_83 f) _ s = _
      unfold g_X7_sets_83 g_X7_sets_121
      rw [if_pos (by omega)]
  | succ m ih =>
    intro i f s hi hf h4 h18 hp hS hP
    match f, hf with
    | f + 1, hf =>
      show ∃ s', g_X7_sets_83 (f_X7_sets_83 f) _ s = _ ∧ _
      unfold g_X7_sets_83 g_X7_sets_115
      rw [if_neg (by omega), gx_d (by omega) (by omega), gx_d (by omega) (by omega), tn_c, sb_t, wr_t (by omega) (by omega), show (i : Int) + 1 = ((i + 1 : Nat) : Int) by omega]
      have hU : PLs w np kd nu (i + 1) = upP w np kd nu (PLs w np kd nu i) i := rfl
      cases hPi : PLs w np kd nu i i with
      | none =>
        have eU : PLs w np kd nu (i + 1) = PLs w np kd nu i := by rw [hU]; unfold upP; rw [hPi]
        rw [if_neg (by rw [(hP i (by omega)).1 hPi]; decide)]
        exact ih (i + 1) f s (by omega) (by omega) h4 h18 hp hS (by rw [eU]; exact hP)
      | some p =>
        rw [if_pos ((hP i (by omega)).2 p.1 p.2 hPi).1, (hp i (by omega)).1]
        by_cases hki : kd i = 0
        · have eU : PLs w np kd nu (i + 1) = PLs w np kd nu i := by rw [hU]; unfold upP; rw [hPi]; dsimp only; rw [if_pos hki]
          rw [if_pos hki]
          exact ih (i + 1) f s (by omega) (by omega) h4 h18 hp hS (by rw [eU]; exact hP)
        · obtain ⟨s1, a1, a2, a3⟩ := X7_setsBelow_v hd h0 hw64 hx hy hyw (by omega) hki h18 hp hS hP hPi
          rw [if_neg hki, a1, bn_t, sb_t]
          obtain ⟨s2, c1, c2, c3⟩ := ih (i + 1) f s1 (by omega) (by omega) (by rw [a3 0 4 (by omega)]; exact h4) (by rw [a3 0 18 (by omega)]; exact h18) (MP_fr hp (fun k => ⟨a3 2 k (by omega), a3 3 k (by omega), a3 7 k (by omega)⟩)) (fun k z1 z2 => by rw [a3 11 k (by omega)]; exact hS k z1 z2) a2
          exact ⟨s2, c1, c2, fun q k x => by rw [c3 q k x, a3 q k x]⟩
theorem se83n (hnp : np ≤ 40) : ∀ (m i f : Nat) (s : SS), i + m = np → m < f → s 0 4 = (np : Int) → (∀ k, k < np → s 15 k = 0) → f_X7_sets_83 f (i : Int) s = some s := by
  intro m
  induction m with
  | zero =>
    intro i f s hi hf h4 _
    match f, hf with
    | f + 1, _ =>
      show g_X7_sets_83 (f_X7_sets_83 f) _ s = _
      unfold g_X7_sets_83 g_X7_sets_121
      rw [if_pos (by omega)]
  | succ m ih =>
    intro i f s hi hf h4 hP
    match f, hf with
    | f + 1, hf =>
      show g_X7_sets_83 (f_X7_sets_83 f) _ s = _
      unfold g_X7_sets_83 g_X7_sets_115
      rw [if_neg (by omega), gx_d (by omega) (by omega), tn_c, sb_t, wr_t (by omega) (by omega), show (i : Int) + 1 = ((i + 1 : Nat) : Int) by omega, if_neg (by rw [hP i (by omega)]; decide)]
      exact ih (i + 1) f s (by omega) (by omega) h4 hP
/-- at first only the whole is set, if there is a best -/
def P0 (b : Bool) : Ps := fun j => if b = true ∧ j = 0 then some (0, 0) else none
theorem se30 (hnp : np ≤ 40) {s0 : SS} (h4 : s0 0 4 = (np : Int)) (b : Bool) (hb : b = true ↔ s0 0 18 ≠ -1) : ∀ (m i f : Nat) (s : SS), i + m = np → m < f → PM i (P0 b) s → (∀ q k, (q < 13 ∨ 15 < q) → s q k = s0 q k) → ∃ s', f_X7_sets_30 f (i : Int) s = g_X7_sets_81 s' ∧ PM np (P0 b) s' ∧ ∀ q k, (q < 13 ∨ 15 < q) → s' q k = s0 q k := by
  intro m
  induction m with
  | zero =>
    intro i f s hi hf hP hf0
    match f, hf with
    | f + 1, _ =>
      obtain rfl : i = np := by omega
      refine ⟨s, ?_, hP, hf0⟩
      show g_X7_sets_30 (f_X7_sets_30 f) _ s = _
      unfold g_X7_sets_30
      rw [hf0 0 4 (by omega), h4, if_pos (by omega)]
  | succ m ih =>
    intro i f s hi hf hP hf0
    match f, hf with
    | f + 1, hf =>
      show ∃ s', g_X7_sets_30 (f_X7_sets_30 f) _ s = _ ∧ _
      unfold g_X7_sets_30 g_X7_sets_59 g_X7_sets_60
      have g : ∀ {β : Type} {z : Option β}, gx (i : Int) 40 z = z := fun {β z} => gx_d (by omega) (by omega)
      have e1 : wr ((i : Int) + 1) = ((i + 1 : Nat) : Int) := by rw [wr_t (by omega) (by omega)]; omega
      simp only [g, sb_t, tn_c, e1]
      rw [hf0 0 4 (by omega), h4, if_neg (by omega), hf0 0 18 (by omega)]
      have go : ∀ z : Int, z = (if b = true ∧ i = 0 then 1 else 0) → ∃ s', f_X7_sets_30 f ((i + 1 : Nat) : Int) (up (up (up s 15 i z) 13 i 0) 14 i 0) = g_X7_sets_81 s' ∧ PM np (P0 b) s' ∧ ∀ q k, (q < 13 ∨ 15 < q) → s' q k = s0 q k := by
        intro z hz
        refine ih (i + 1) f _ (by omega) (by omega) (fun k hk => ?_) (fun q k x => by rw [up_q (by omega), up_q (by omega), up_q (by omega)]; exact hf0 q k x)
        by_cases e : k = i
        · subst e
          rw [up_q (by decide), up_q (by decide), up_s, up_q (by decide), up_s, up_s, hz]
          unfold P0
          by_cases c : b = true ∧ k = 0
          · rw [if_pos c, if_pos c]
            refine ⟨fun z => (by cases z), fun r' c' z => ?_⟩
            injection z with z
            injection z with e1 e2
            subst e1
            subst e2
            exact ⟨rfl, rfl, rfl⟩
          · rw [if_neg c, if_neg c]
            exact ⟨fun _ => rfl, fun r' c' z => by cases z⟩
        · have o : ∀ p, (up (up (up s 15 i z) 13 i 0) 14 i 0) p k = s p k := fun p => by
            unfold up
            rw [if_neg (fun z => e z.2), if_neg (fun z => e z.2), if_neg (fun z => e z.2)]
          rw [o 15, o 13, o 14]
          exact hP k (by omega)
      by_cases c0 : (i : Int) = 0
      · rw [if_pos c0]
        by_cases c1 : s0 0 18 = -1
        · rw [if_pos c1]
          exact go 0 (by rw [if_neg (fun z => (hb.mp z.1) c1)])
        · rw [if_neg c1]
          exact go 1 (by rw [if_pos ⟨hb.mpr c1, by omega⟩])
      · rw [if_neg c0]
        exact go 0 (by rw [if_neg (fun z => by have := z.2; omega)])
end PLM
/-- where the parts of the best layout are set -/
def PB (n : Nat) (t : Nat → Int) (W : Int) : Ps := match bestS n t W with
  | none => fun _ => none
  | some x => PF x.2.2.2 (pN n t) (pK n t) (pU n t)
section PBS
variable {n : Nat} {t : Nat → Int} {W : Int} {s : SS}
theorem bestS_SH (hn : n ≤ 40) {x : Sh} (h : bestS n t W = some x) : SH x.2.2.2 (pN n t) (pK n t) (pU n t) 0 = some x := by
  obtain ⟨a, b, c, d⟩ := bestS_ok hn h
  exact (FR_SH b 0 a x d).2
theorem X7_sets_v (h : TX n t W s) : ∃ s', f_X7_sets s = some s' ∧ MR n t s' ∧ PM (pN n t) (PB n t W) s' ∧ frX s s' := by
  obtain ⟨s1, a, b, c, d, e⟩ := X7_findsBest_v h
  have hn := h.1.1
  have hl : pN n t ≤ n := (pts_ok n t).2
  have b4 : s1 0 4 = (pN n t : Int) := b.2.1
  unfold f_X7_sets g_X7_sets_24
  rw [a, bn_t, c]
  unfold PB
  cases hb : bestS n t W with
  | none =>
    rw [if_pos (show encB none = -1 from rfl)]
    obtain ⟨s2, a2, -, c2⟩ := X7_shapeOf_v (w := 0) (by decide) (D_0 (t := t) hn) b4 (MR_MP b)
    have a2' : f_X7_shapeOf 0 s1 = some (encO (UU (pN n t) (pK n t) (pU n t) 0), s2) := a2
    have b42 : s2 0 4 = (pN n t : Int) := by rw [c2 0 4 (by decide)]; exact b4
    obtain ⟨s3, a3, b3, c3⟩ := se30 (np := pN n t) (by omega) b42 false ⟨fun z => (by cases z), fun z => absurd (by rw [c2 0 18 (by decide), c, hb]; rfl) z⟩ (pN n t) 0 FU s2 (by omega) (by unfold FU; omega) (fun k hk => by omega) (fun _ _ _ => rfl)
    have a3' : f_X7_sets_30 FU 0 s2 = g_X7_sets_81 s3 := a3
    have fr : ∀ q k, q ≠ 11 → (q < 13 ∨ 15 < q) → s3 q k = s1 q k := fun q k x y => by rw [c3 q k y, c2 q k x]
    have e83 : f_X7_sets_83 FU 0 s3 = some s3 := se83n (np := pN n t) (by omega) (pN n t) 0 FU s3 (by omega) (by unfold FU; omega) (by rw [c3 0 4 (by omega)]; exact b42) (fun k hk => (b3 k hk).1 (by unfold P0; rw [if_neg (fun z => (by cases z.1))]))
    refine ⟨s3, ?_, MR_fr b (fun k _ _ => fr 0 k (by decide) (by omega)) (fun q k _ _ => fr q k (by omega) (by omega)), ?_, frX_trans e (fun q k x y => fr q k (by omega) (by omega))⟩
    · rw [a2', cb_t, a3']
      exact e83
    · intro k hk
      refine ⟨fun _ => (b3 k hk).1 (by unfold P0; rw [if_neg (fun z => (by cases z.1))]), fun r c z => by cases z⟩
  | some x =>
    obtain ⟨p1, p2, p3, p4⟩ := bestS_ok hn hb
    have hx := bestS_SH hn hb
    have hx64 : x.2.2.2 < 64 := p3.2.2.2
    rw [if_neg (show ¬ encB (some x) = -1 by show ¬ ((pk x : Nat) : Int) = -1; omega), show encB (some x) = (pk x : Int) from rfl, X7_way_pk p3, bn_t]
    obtain ⟨s2, a2, m2, c2⟩ := X7_shapeOf_v (w := x.2.2.2) hx64 (D_0 (t := t) hn) b4 (MR_MP b)
    have b42 : s2 0 4 = (pN n t : Int) := by rw [c2 0 4 (by decide)]; exact b4
    have b18 : s2 0 18 = (pk x : Int) := by rw [c2 0 18 (by decide), c, hb]; rfl
    obtain ⟨s3, a3, b3, c3⟩ := se30 (np := pN n t) (by omega) b42 true ⟨fun _ => (by rw [b18]; omega), fun _ => rfl⟩ (pN n t) 0 FU s2 (by omega) (by unfold FU; omega) (fun k hk => by omega) (fun _ _ _ => rfl)
    have a3' : f_X7_sets_30 FU 0 s2 = g_X7_sets_81 s3 := a3
    have eP : P0 true = PLs x.2.2.2 (pN n t) (pK n t) (pU n t) 0 := by
      funext j
      show (if true = true ∧ j = 0 then some (0, 0) else none) = (if j = 0 then some (0, 0) else none)
      by_cases hj : j = 0
      · rw [if_pos ⟨rfl, hj⟩, if_pos hj]
      · rw [if_neg (fun z => hj z.2), if_neg hj]
    rw [eP] at b3
    obtain ⟨s4, a4, b4', c4⟩ := se83 p2 p1 hx64 hx p3 rfl (pN n t) 0 FU s3 (by omega) (by unfold FU; omega) (by rw [c3 0 4 (by omega)]; exact b42) (by rw [c3 0 18 (by omega)]; exact b18) (MP_fr (MR_MP b) (fun k => ⟨by rw [c3 2 k (by omega), c2 2 k (by decide)], by rw [c3 3 k (by omega), c2 3 k (by decide)], by rw [c3 7 k (by omega), c2 7 k (by decide)]⟩)) (fun k z1 z2 => by rw [c3 11 k (by omega)]; exact m2 k z1 z2) b3
    have fr : ∀ q k, q ≠ 11 → (q < 13 ∨ 15 < q) → s4 q k = s1 q k := fun q k x y => by rw [c4 q k y, c3 q k y, c2 q k x]
    refine ⟨s4, ?_, MR_fr b (fun k _ _ => fr 0 k (by decide) (by omega)) (fun q k _ _ => fr q k (by omega) (by omega)), b4', frX_trans e (fun q k x y => fr q k (by omega) (by omega))⟩
    rw [a2, cb_t, a3']
    exact a4
end PBS
