/-! ===== the class sets the parts ===== -/
/-- where the parts are set, in the class's rows; of the words ahead of i also columns and letters -/
def PC (np : Nat) (kd nu : Nat → Int) (P : Ps) (i : Nat) (s : SS) : Prop := ∀ k, k < np → (P k = none → s 36 k = 0) ∧ ∀ r c, P k = some (r, c) → s 36 k = 1 ∧ s 37 k = (r : Int) ∧ s 38 k = (c : Int) ∧ ((kd k = 0 ∧ k < i) → s 39 k = nu k ∧ s 40 k = nu k + 96) ∧ (¬ (kd k = 0 ∧ k < i) → s 39 k = 0)
def ptC (s : SS) (k : Nat) (r c : Int) : SS := up (up (up (up s 36 k 1) 37 k r) 38 k c) 39 k 0
theorem ptC_off {s : SS} {k : Nat} {r c : Int} {p j : Nat} (h : (p < 36 ∨ 39 < p) ∨ j ≠ k) : ptC s k r c p j = s p j := by
  unfold ptC up
  repeat' split
  all_goals (first | rfl | omega)
theorem ptC_at (s : SS) (k : Nat) (r c : Int) : ptC s k r c 36 k = 1 ∧ ptC s k r c 37 k = r ∧ ptC s k r c 38 k = c ∧ ptC s k r c 39 k = 0 := by
  unfold ptC
  refine ⟨?_, ?_, ?_, up_s⟩
  · rw [up_q (by decide), up_q (by decide), up_q (by decide), up_s]
  · rw [up_q (by decide), up_q (by decide), up_s]
  · rw [up_q (by decide), up_s]
theorem X2_putAt_v {k : Nat} (hk : k < 40) (r c : Int) (s : SS) : f_X2_putAt (k : Int) r c s = some (ptC s k r c) := by
  unfold f_X2_putAt g_X2_putAt_41
  rw [if_neg (by omega), if_neg (by omega), gx_d (by omega) (by omega)]
  simp only [sb_t, tn_c]
  rw [gx_d (by omega) (by omega), gx_d (by omega) (by omega), gx_d (by omega) (by omega)]
  rfl
section PCS
variable {np : Nat} {kd nu : Nat → Int} {P : Ps} {i : Nat} {s : SS}
theorem PC_put (h : PC np kd nu P i s) {k : Nat} (hk : i ≤ k) (r c : Nat) : PC np kd nu (stp P k r c) i (ptC s k (r : Int) (c : Int)) := by
  intro j hj
  by_cases e : j = k
  · subst e
    rw [stp_eq]
    obtain ⟨a1, a2, a3, a4⟩ := ptC_at s j (r : Int) (c : Int)
    refine ⟨fun z => (by cases z), fun r' c' z => ?_⟩
    injection z with z
    injection z with e1 e2
    subst e1
    subst e2
    exact ⟨a1, a2, a3, fun z => by omega, fun _ => a4⟩
  · rw [stp_ne e]
    have o : ∀ p, ptC s k (r : Int) (c : Int) p j = s p j := fun p => ptC_off (Or.inr e)
    rw [o 36, o 37, o 38, o 39, o 40]
    exact h j hj
theorem PC_s (h : PC np kd nu P i s) (hi : P i = none ∨ kd i ≠ 0) : PC np kd nu P (i + 1) s := by
  intro k hk
  refine ⟨(h k hk).1, fun r c z => ?_⟩
  obtain ⟨b1, b2, b3, b4, b5⟩ := (h k hk).2 r c z
  have e : (kd k = 0 ∧ k < i + 1) → (kd k = 0 ∧ k < i) := by
    intro ⟨q1, q2⟩
    refine ⟨q1, ?_⟩
    rcases Nat.lt_or_ge k i with h1 | h1
    · exact h1
    · obtain rfl : k = i := by omega
      rcases hi with hi | hi
      · rw [hi] at z; cases z
      · exact absurd q1 hi
  exact ⟨b1, b2, b3, fun q => b4 (e q), fun q => b5 (fun w => q ⟨w.1, by omega⟩)⟩
theorem PC_ext {s' : SS} (h : PC np kd nu P i s) (e : ∀ q k, 36 ≤ q → q ≤ 40 → s' q k = s q k) : PC np kd nu P i s' := by
  intro k hk
  rw [e 36 k (by decide) (by decide), e 37 k (by decide) (by decide), e 38 k (by decide) (by decide), e 39 k (by decide) (by decide), e 40 k (by decide) (by decide)]
  exact h k hk
end PCS
section PLA
variable {w np : Nat} {kd nu : Nat → Int}
theorem X2_placeBelow_v (hd : DOK np kd nu) (h0 : 0 < np) (hw64 : w < 64) {x0 : Sh} (hx : SH w np kd nu 0 = some x0) {i : Nat} (hi : i < np) {s : SS} (hp : CP np kd nu s) (hS : CS w np kd nu 0 s) (hP : PC np kd nu (PLs w np kd nu i) i s) {r c : Nat} (hPi : PLs w np kd nu i i = some (r, c)) :
    ∃ s', f_X2_placeBelow (i : Int) (w : Int) s = some s' ∧ PC np kd nu (PLs w np kd nu (i + 1)) (i + 1) s' ∧ ∀ q k, (q < 36 ∨ 40 < q) → s' q k = s q k := by
  have h40 := hd.1
  obtain ⟨r3, r9, r7, r8⟩ := hp i hi
  obtain ⟨⟨x, hxi⟩, br, bc⟩ := PL_ok hd h0 hx i (by omega) i hi r c hPi
  obtain ⟨b1, b2, b3, b4, b5⟩ := (hP i hi).2 r c hPi
  have hU : PLs w np kd nu (i + 1) = upP w np kd nu (PLs w np kd nu i) i := rfl
  rw [hU]
  unfold upP
  rw [hPi]
  dsimp only
  rw [SH_eq hd.2.1 hi] at hxi
  unfold shF at hxi
  unfold f_X2_placeBelow g_X2_placeBelow_278 g_X2_placeBelow_214 g_X2_placeBelow_278
  have g : ∀ {β : Type} {z : Option β}, gx (i : Int) 40 z = z := fun {β z} => gx_d (by omega) (by omega)
  simp only [g, sb_t, tn_c]
  rw [r3, r7, r8, r9]
  rcases PK_of hd hi with ⟨q, a, n1, n2⟩ | ⟨q, a, k0, h3, n, k1, k2, k3⟩ | ⟨q, a, k0, n, n6, k1, k2, k3⟩ | ⟨q, a, k0, h3, h12, n1, n0, n2, k1⟩
  · rw [if_pos q, if_pos q]
    refine ⟨_, rfl, ?_, fun q k x => by rw [up_q (by omega), up_q (by omega)]⟩
    rw [up_q (by decide), r9, wr_t (a := nu i + 97) (by omega) (by omega), wr_t (a := nu i + 97 - 1) (by omega) (by omega)]
    intro k hk
    by_cases e : k = i
    · subst e
      rw [up_q (by decide), up_q (by decide), up_q (by decide), up_q (by decide), up_q (by decide), up_q (by decide), up_q (by decide), up_s, up_s, b1, b2, b3, hPi]
      refine ⟨fun z => (by cases z), fun r' c' z => ?_⟩
      injection z with z
      injection z with e1 e2
      subst e1
      subst e2
      exact ⟨rfl, rfl, rfl, fun _ => ⟨rfl, by omega⟩, fun z => absurd ⟨q, by omega⟩ z⟩
    · have o : ∀ p, (up (up s 39 i (nu i)) 40 i (nu i + 97 - 1)) p k = s p k := fun p => by
        unfold up
        rw [if_neg (fun z => e z.2), if_neg (fun z => e z.2)]
      rw [o 36, o 37, o 38, o 39, o 40]
      refine ⟨(hP k hk).1, fun r c z => ?_⟩
      obtain ⟨d1, d2, d3, d4, d5⟩ := (hP k hk).2 r c z
      exact ⟨d1, d2, d3, fun q => d4 ⟨q.1, by omega⟩, fun q => d5 (fun w => q ⟨w.1, by omega⟩)⟩
  · rw [if_neg k0, if_neg k0]
    rw [if_neg k0, if_neg h3, if_pos q] at hxi
    obtain ⟨u, hu, hxi⟩ := Option.bind_eq_some_iff.mp hxi
    obtain ⟨v, hv, -⟩ := Option.map_eq_some_iff.mp hxi
    have ul : lnS (SH w np kd nu (i + 1)) = u.1 := by rw [hu]; rfl
    have ua : laS (SH w np kd nu (i + 1)) = u.2.1 := by rw [hu]; rfl
    have ub := SH_bnd (w := w) hd _ k1 u hu
    obtain ⟨uo1, uo2, -, -⟩ := bnd_sOK hd k1 ub
    have us : shAt s 23 (i + 1) u := by have := hS (i + 1) (by omega) k1; rw [hu] at this; exact this
    have us1 : shAt (ptC s (i + 1) (r : Int) (c : Int)) 23 (i + 1) u := shAt_ext us (fun p _ _ => ptC_off (by omega))
    have t0 : f_X3_tell 23 ((i + 1 : Nat) : Int) 0 (ptC s (i + 1) (r : Int) (c : Int)) = some (u.1 : Int) := by rw [X3_tell_v (by rw [shl23]; omega) us1]; rfl
    have t1 : f_X3_tell 23 ((i + 1 : Nat) : Int) 1 (ptC s (i + 1) (r : Int) (c : Int)) = some (u.2.1 : Int) := by rw [X3_tell_v (by rw [shl23]; omega) us1]; rfl
    have f37 : ptC s (i + 1) (r : Int) (c : Int) 37 i = (r : Int) := by rw [ptC_off (Or.inr (by omega))]; exact b2
    have f38 : ptC s (i + 1) (r : Int) (c : Int) 38 i = (c : Int) := by rw [ptC_off (Or.inr (by omega))]; exact b3
    rw [if_neg (show ¬ ar (kd i) = 0 by omega), if_pos a, ul, ua]
    have P1 := PC_put hP (k := i + 1) (by omega) r c
    rcases q with q | q
    · rw [if_pos q, if_pos q, b2, b3, X2_putAt_v (by omega), bn_t, t0, bn_t, t1, bn_t, f37, f38, X2_putAt_v (by omega), bn_t, wr_t (a := (r : Int) + u.1) (by omega) (by omega), wr_t (a := (r : Int) + u.1 - 1) (by omega) (by omega), wr_t (a := (c : Int) + u.2.1) (by omega) (by omega)]
      refine ⟨_, rfl, ?_, fun q k x => by rw [ptC_off (by omega), ptC_off (by omega)]⟩
      have P2 := PC_put P1 (k := scn np kd i) (by omega) (r + u.1 - 1) (c + u.2.1)
      rw [show ((r + u.1 - 1 : Nat) : Int) = (r : Int) + u.1 - 1 by have := ub.1; omega, show ((c + u.2.1 : Nat) : Int) = (c : Int) + u.2.1 by omega] at P2
      exact PC_s P2 (Or.inr k0)
    · rw [if_neg (by omega), if_pos q, if_neg (by omega), if_pos q, b2, b3, X2_putAt_v (by omega), bn_t, t0, bn_t, f37, f38, X2_putAt_v (by omega), bn_t, wr_t (by omega) (by omega)]
      refine ⟨_, rfl, ?_, fun q k x => by rw [ptC_off (by omega), ptC_off (by omega)]⟩
      have P2 := PC_put P1 (k := scn np kd i) (by omega) (r + u.1) c
      rw [show ((r + u.1 : Nat) : Int) = (r : Int) + u.1 by omega] at P2
      exact PC_s P2 (Or.inr k0)
  · have q1 : ¬ kd i = 1 := by omega
    have q2 : ¬ kd i = 2 := by omega
    have a0 : ¬ ar (kd i) = 0 := by omega
    simp only [if_neg k0, if_neg q1, if_neg q2, if_pos q, if_neg a0, if_pos a]
    rw [b2, b3]
    have en : nu i = (((nu i).toNat : Nat) : Int) := by omega
    generalize (nu i).toNat = j at en
    have hj : j < 6 := by omega
    have hp : 2 ^ j < 2 ^ 6 := Nat.pow_lt_pow_right (by decide) hj
    have hshl : i_shl 1 (j : Int) = ((2 ^ j : Nat) : Int) := by
      have := oN_shl (a := 1) (k := j) (by omega) (by omega)
      rw [Nat.one_mul] at this
      exact this
    have h2 : 1 ≤ 2 ^ j := Nat.one_le_two_pow
    rw [en, hshl, oN_and (by omega) (by omega), and_bit]
    cases hb : w.testBit j with
    | true =>
      rw [if_pos rfl, if_pos rfl, if_neg (by omega), X2_putAt_v (by omega), bn_t]
      exact ⟨_, rfl, PC_s (PC_put hP (by omega) r c) (Or.inr k0), fun q k x => ptC_off (by omega)⟩
    | false =>
      have nf : ¬ (false = true) := by decide
      simp only [if_neg nf]
      rw [if_pos (show ((0 : Nat) : Int) = 0 from rfl), X2_putAt_v (by omega), bn_t]
      exact ⟨_, rfl, PC_s (PC_put hP (by omega) r c) (Or.inr k0), fun q k x => ptC_off (by omega)⟩
  · have q1 : ¬ kd i = 1 := fun z => h12 (Or.inl z)
    have q2 : ¬ kd i = 2 := fun z => h12 (Or.inr z)
    have a0 : ¬ ar (kd i) = 0 := by omega
    simp only [if_neg k0, if_neg q1, if_neg q2, if_neg h3, if_neg a0]
    rw [b2, b3]
    by_cases q4 : kd i = 4
    · rw [if_pos q4, if_pos q4, X2_putAt_v (by omega), bn_t, wr_t (by omega) (by omega)]
      refine ⟨_, rfl, ?_, fun q k x => ptC_off (by omega)⟩
      have P1 := PC_put hP (k := i + 1) (by omega) r (c + (nu i).toNat)
      rw [show ((c + (nu i).toNat : Nat) : Int) = (c : Int) + nu i by omega] at P1
      exact PC_s P1 (Or.inr k0)
    · rw [if_neg q4, if_neg q4, X2_putAt_v (by omega), bn_t]
      exact ⟨_, rfl, PC_s (PC_put hP (by omega) r c) (Or.inr k0), fun q k x => ptC_off (by omega)⟩
theorem pl49 (hd : DOK np kd nu) (h0 : 0 < np) (hw64 : w < 64) {x0 : Sh} (hx : SH w np kd nu 0 = some x0) : ∀ (m i f : Nat) (s : SS), i + m = np → m < f → s 1 9 = (np : Int) → CP np kd nu s → CS w np kd nu 0 s → PC np kd nu (PLs w np kd nu i) i s → ∃ s', f_X2_place_49 f (w : Int) (i : Int) s = some s' ∧ PC np kd nu (PF w np kd nu) np s' ∧ ∀ q k, (q < 36 ∨ 40 < q) → s' q k = s q k := by
  intro m
  have h40 := hd.1
  induction m with
  | zero =>
    intro i f s hi hf h9 hp hS hP
    match f, hf with
    | f + 1, _ =>
      obtain rfl : i = np := by omega
      refine ⟨s, ?_, hP, fun _ _ _ => rfl⟩
      show g_X2_place_49 (f_X2_place_49 f) _ _ s = _
      unfold g_X2_place_49 g_X2_place_92
      rw [if_pos (by omega)]
  | succ m ih =>
    intro i f s hi hf h9 hp hS hP
    match f, hf with
    | f + 1, hf =>
      show ∃ s', g_X2_place_49 (f_X2_place_49 f) _ _ s = _ ∧ _
      unfold g_X2_place_49 g_X2_place_86
      rw [if_neg (by omega), X0_hasPart_v, bn_t, if_pos (show 0 ≤ (i : Int) ∧ (i : Int) < s 1 9 ∧ (i : Int) < 40 by omega), if_neg (show ¬ (1 : Int) = 0 by decide), gx_d (by omega) (by omega), tn_c, sb_t, wr_t (by omega) (by omega), show (i : Int) + 1 = ((i + 1 : Nat) : Int) by omega]
      have hU : PLs w np kd nu (i + 1) = upP w np kd nu (PLs w np kd nu i) i := rfl
      cases hPi : PLs w np kd nu i i with
      | none =>
        have eU : PLs w np kd nu (i + 1) = PLs w np kd nu i := by rw [hU]; unfold upP; rw [hPi]
        rw [if_pos ((hP i (by omega)).1 hPi)]
        exact ih (i + 1) f s (by omega) (by omega) h9 hp hS (by rw [eU]; exact PC_s hP (Or.inl hPi))
      | some p =>
        obtain ⟨s1, a1, a2, a3⟩ := X2_placeBelow_v hd h0 hw64 hx (by omega) hp hS hP hPi
        rw [if_neg (by rw [((hP i (by omega)).2 p.1 p.2 hPi).1]; decide), a1, bn_t, sb_t]
        obtain ⟨s2, c1, c2, c3⟩ := ih (i + 1) f s1 (by omega) (by omega) (by rw [a3 1 9 (by omega)]; exact h9) (CP_fr hp (fun q k hq => a3 q k (by omega))) (fun k z1 z2 => shO_ext (hS k z1 z2) (fun p _ _ => a3 p k (by omega))) a2
        exact ⟨s2, c1, c2, fun q k x => by rw [c3 q k x, a3 q k x]⟩
theorem pl10 {s0 : SS} : ∀ (m i f : Nat) (s : SS), i + m = 40 → m < f → (∀ j, j < i → s 36 j = 0) → (∀ q k, q ≠ 36 → s q k = s0 q k) → ∃ s', f_X2_place_10 f (i : Int) s = g_X2_place_32 s' ∧ (∀ j, j < 40 → s' 36 j = 0) ∧ ∀ q k, q ≠ 36 → s' q k = s0 q k := by
  intro m
  induction m with
  | zero =>
    intro i f s hi hf h1 h2
    match f, hf with
    | f + 1, _ =>
      obtain rfl : i = 40 := by omega
      refine ⟨s, ?_, h1, h2⟩
      show g_X2_place_10 (f_X2_place_10 f) _ s = _
      unfold g_X2_place_10
      rw [if_pos (by omega)]
  | succ m ih =>
    intro i f s hi hf h1 h2
    match f, hf with
    | f + 1, hf =>
      show ∃ s', g_X2_place_10 (f_X2_place_10 f) _ s = _ ∧ _
      unfold g_X2_place_10
      rw [if_neg (by omega), gx_d (by omega) (by omega), sb_t, sb_t, tn_c, wr_t (by omega) (by omega), show (i : Int) + 1 = ((i + 1 : Nat) : Int) by omega]
      refine ih (i + 1) f _ (by omega) (by omega) (fun j hj => ?_) (fun q k hq => by rw [up_q hq]; exact h2 q k hq)
      by_cases e : j = i
      · subst e; exact up_s
      · rw [up_k e]; exact h1 j (by omega)
theorem X2_place_v (hd : DOK np kd nu) (h0 : 0 < np) {x0 : Sh} (hx : SH w np kd nu 0 = some x0) (hxw : x0.2.2.2 = w) {s : SS} (h9 : s 1 9 = (np : Int)) (hp : CP np kd nu s) (hS : CS w np kd nu 0 s) :
    ∃ s', f_X2_place s = some s' ∧ PC np kd nu (PF w np kd nu) np s' ∧ s' 35 5 = (np : Int) ∧ ∀ q k, (q = 35 → k ≠ 5) → (q < 36 ∨ 40 < q) → s' q k = s q k := by
  have h40 := hd.1
  have hw64 : w < 64 := by have := (SH_bnd (w := w) hd 0 h0 x0 hx).2.2.2.2.2; omega
  unfold f_X2_place
  rw [sb_t, h9]
  obtain ⟨s1, a1, a2, a3⟩ := pl10 (s0 := up s 35 5 (np : Int)) 40 0 FU (up s 35 5 (np : Int)) (by omega) (by unfold FU; omega) (fun j hj => by omega) (fun _ _ _ => rfl)
  have a1' : f_X2_place_10 FU 0 (up s 35 5 (np : Int)) = g_X2_place_32 s1 := a1
  have fr1 : ∀ q k, (q = 35 → k ≠ 5) → q ≠ 36 → s1 q k = s q k := fun q k x y => by
    rw [a3 q k y]
    by_cases hq : q = 35
    · subst hq; exact up_k (x rfl)
    · exact up_q hq
  rw [a1']
  unfold g_X2_place_32
  have e0 : f_X2_putAt 0 0 0 s1 = some (ptC s1 0 0 0) := X2_putAt_v (k := 0) (by decide) 0 0 s1
  have fr2 : ∀ q k, (q = 35 → k ≠ 5) → (q < 36 ∨ 39 < q) → ptC s1 0 0 0 q k = s q k := fun q k x y => by
    rw [ptC_off (Or.inl y), fr1 q k x (by omega)]
  have hS2 : CS w np kd nu 0 (ptC s1 0 0 0) := fun k z1 z2 => shO_ext (hS k z1 z2) (fun p _ _ => fr2 p k (by omega) (by omega))
  have t3 : f_X3_tell 23 0 3 (ptC s1 0 0 0) = some (w : Int) := by
    have us := hS2 0 (by omega) h0
    rw [hx] at us
    have e : f_X3_tell 23 0 3 (ptC s1 0 0 0) = _ := X3_tell_v (i := 0) (x := 3) (by rw [shl23]; omega) us
    rw [e, ← hxw]
    rfl
  have hP0 : PC np kd nu (fun _ => none) 0 s1 := fun k hk => ⟨fun _ => a2 k (by omega), fun r c z => by cases z⟩
  have hP1 : PC np kd nu (PLs w np kd nu 0) 0 (ptC s1 0 0 0) := PC_put hP0 (k := 0) (by omega) 0 0
  rw [e0, bn_t, t3, bn_t]
  obtain ⟨s', c1, c2, c3⟩ := pl49 hd h0 hw64 hx np 0 FU (ptC s1 0 0 0) (by omega) (by unfold FU; omega) (by rw [fr2 1 9 (by omega) (by omega)]; exact h9) (CP_fr hp (fun q k hq => fr2 q k (by omega) (by omega))) hS2 hP1
  refine ⟨s', c1, c2, ?_, fun q k x y => by rw [c3 q k y, fr2 q k x (by omega)]⟩
  rw [c3 35 5 (by omega), ptC_off (by omega), a3 35 5 (by decide), up_s]
end PLA
