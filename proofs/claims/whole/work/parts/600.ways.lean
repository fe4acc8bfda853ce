/-! ===== the layout of each way ===== -/
def shF (w : Nat) (kd nu : Nat → Int) (k : Nat) (a b : Option Sh) : Option Sh :=
  if kd k = 0 then some (1, (nu k).toNat, (nu k).toNat, 0)
  else if kd k = 3 then (if w.testBit (nu k).toNat = true then b.map (fun s => (s.1, s.2.1, s.2.2.1, s.2.2.2 ||| 2 ^ (nu k).toNat)) else a)
  else if kd k = 1 ∨ kd k = 2 then a.bind (fun x => b.map (fun y => bth (kd k) x y))
  else a.bind (fun x => if kd k = 5 ∧ 1 < x.1 then none else some (psh (if kd k = 4 then (nu k).toNat else 0) x))
theorem ar_ne {k : Int} (h : k ≠ 0) : ar k ≠ 0 := by
  unfold ar
  rw [if_neg h]
  split <;> decide
theorem shF_ok (w : Nat) (kd nu : Nat → Int) : evOK kd (shF w kd nu) := by
  intro k a b a' b' ha hb
  unfold shF
  by_cases h0 : kd k = 0
  · rw [if_pos h0, if_pos h0]
  · rw [if_neg h0, if_neg h0, ha (ar_ne h0)]
    by_cases h3 : kd k = 3
    · rw [if_pos h3, if_pos h3, hb (by rw [h3]; decide)]
    · rw [if_neg h3, if_neg h3]
      by_cases h12 : kd k = 1 ∨ kd k = 2
      · rw [if_pos h12, if_pos h12, hb (by rcases h12 with h | h <;> rw [h] <;> decide)]
      · rw [if_neg h12, if_neg h12]
def SH (w : Nat) (np : Nat) (kd nu : Nat → Int) : Nat → Option Sh := EV none (shF w kd nu) np kd
theorem SH_eq {w : Nat} {np : Nat} {kd nu : Nat → Int} (hw : wfd np kd) {k : Nat} (hk : k < np) : SH w np kd nu k = shF w kd nu k (SH w np kd nu (k + 1)) (SH w np kd nu (scn np kd k)) := EV_eq hw (shF_ok w kd nu) hk
/-- what a part is, seen from its kind -/
def PK (np : Nat) (kd nu : Nat → Int) (k : Nat) : Prop :=
  (kd k = 0 ∧ ar (kd k) = 0 ∧ 1 ≤ nu k ∧ nu k ≤ 9)
  ∨ ((kd k = 1 ∨ kd k = 2) ∧ ar (kd k) = 2 ∧ kd k ≠ 0 ∧ kd k ≠ 3 ∧ nu k = 0 ∧ k + 1 < np ∧ scn np kd k < np ∧ k + 1 < scn np kd k)
  ∨ (kd k = 3 ∧ ar (kd k) = 2 ∧ kd k ≠ 0 ∧ nu k = c3 kd k 0 ∧ nu k < 6 ∧ k + 1 < np ∧ scn np kd k < np ∧ k + 1 < scn np kd k)
  ∨ ((kd k = 4 ∨ kd k = 5) ∧ ar (kd k) = 1 ∧ kd k ≠ 0 ∧ kd k ≠ 3 ∧ ¬ (kd k = 1 ∨ kd k = 2) ∧ (kd k = 4 → 1 ≤ nu k) ∧ (kd k = 5 → nu k = 0) ∧ (0 ≤ nu k ∧ nu k ≤ 9) ∧ k + 1 < np)
theorem PK_of {np : Nat} {kd nu : Nat → Int} (hd : DOK np kd nu) {k : Nat} (hk : k < np) : PK np kd nu k := by
  have hw := hd.2.1
  rcases hd.2.2.2 k hk with ⟨h, n1, n2⟩ | ⟨h, n1⟩ | ⟨h, n1, n2⟩ | ⟨h, n1, n2⟩
  · exact Or.inl ⟨h, (by rw [h]; decide), n1, n2⟩
  · rcases h with h | h | h
    · have a : ar (kd k) = 2 := by rw [h]; decide
      exact Or.inr (Or.inl ⟨(Or.inl h), a, (by rw [h]; decide), (by rw [h]; decide), n1, (wf_1 hw hk (by omega)), (wf_2 hw hk a), (sc_gt hw hk a)⟩)
    · have a : ar (kd k) = 2 := by rw [h]; decide
      exact Or.inr (Or.inl ⟨(Or.inr h), a, (by rw [h]; decide), (by rw [h]; decide), n1, (wf_1 hw hk (by omega)), (wf_2 hw hk a), (sc_gt hw hk a)⟩)
    · have a : ar (kd k) = 1 := by rw [h]; decide
      exact Or.inr (Or.inr (Or.inr ⟨(Or.inr h), a, (by rw [h]; decide), (by rw [h]; decide), (by rw [h]; decide), (fun q => by omega), (fun _ => n1), (by omega), (wf_1 hw hk (by omega))⟩))
  · have a : ar (kd k) = 2 := by rw [h]; decide
    exact Or.inr (Or.inr (Or.inl ⟨h, a, (by rw [h]; decide), n1, n2, (wf_1 hw hk (by omega)), (wf_2 hw hk a), (sc_gt hw hk a)⟩))
  · have a : ar (kd k) = 1 := by rw [h]; decide
    exact Or.inr (Or.inr (Or.inr ⟨(Or.inl h), a, (by rw [h]; decide), (by rw [h]; decide), (by rw [h]; decide), (fun _ => n1), (fun q => by omega), (by omega), (wf_1 hw hk (by omega))⟩))
/-- the choices ahead of part k -/
def lo (kd : Nat → Int) (k : Nat) : Nat := c3 kd k 0
def inR (np : Nat) (kd : Nat → Int) (k i : Nat) : Prop := lo kd k ≤ i ∧ i < lo kd k + cn np kd k
theorem lo_add (kd : Nat → Int) (k d : Nat) : lo kd (k + d) = lo kd k + c3 kd d k := by
  unfold lo
  rw [c3_add, Nat.zero_add]
theorem lo_s (kd : Nat → Int) (k : Nat) : lo kd (k + 1) = lo kd k + (if kd k = 3 then 1 else 0) := by
  rw [lo_add]
  simp [c3]
theorem lo_sc (np : Nat) (kd : Nat → Int) (k : Nat) : lo kd (scn np kd k) = lo kd (k + 1) + cn np kd (k + 1) := by
  unfold scn
  rw [lo_add]
  rfl
section WS
variable {np : Nat} {kd nu : Nat → Int}
theorem SH_ext (hd : DOK np kd nu) {w w' : Nat} : ∀ k, k < np → (∀ i, inR np kd k i → w.testBit i = w'.testBit i) → SH w np kd nu k = SH w' np kd nu k := by
  have hw := hd.2.1
  refine part_ind hw (fun k hk h1 h2 hag => ?_)
  have ec := cn_eq hw hk
  have e1 := lo_s kd k
  have e2 := lo_sc np kd k
  rw [SH_eq hw hk, SH_eq hw hk]
  unfold shF
  rcases PK_of hd hk with ⟨h, a, n1, n2⟩ | ⟨h, a, h0, h3, n, k1, k2, k3⟩ | ⟨h, a, h0, n, n6, k1, k2, k3⟩ | ⟨h, a, h0, h3, h12, n1, n0, n2, k1⟩
  · rw [if_pos h, if_pos h]
  · rw [if_neg (by omega : ¬ ar (kd k) = 0), if_pos a, if_neg h3] at ec
    rw [if_neg h3] at e1
    rw [if_neg h0, if_neg h0, if_neg h3, if_neg h3, if_pos h, if_pos h, h1 (by omega) (fun i hi => hag i (by unfold inR at hi ⊢; omega)), h2 a (fun i hi => hag i (by unfold inR at hi ⊢; omega))]
  · rw [if_neg (by omega : ¬ ar (kd k) = 0), if_pos a, if_pos h] at ec
    rw [if_pos h] at e1
    rw [if_neg h0, if_neg h0, if_pos h, if_pos h, h1 (by omega) (fun i hi => hag i (by unfold inR at hi ⊢; omega)), h2 a (fun i hi => hag i (by unfold inR at hi ⊢; omega)), hag (nu k).toNat (by unfold inR lo at *; omega)]
  · rw [if_neg (by omega : ¬ ar (kd k) = 0), if_neg (by omega : ¬ ar (kd k) = 2), if_neg h3] at ec
    rw [if_neg h3] at e1
    rw [if_neg h0, if_neg h0, if_neg h3, if_neg h3, if_neg h12, if_neg h12, h1 (by omega) (fun i hi => hag i (by unfold inR at hi ⊢; omega))]
theorem bth_way (z : Int) (a b : Sh) : (bth z a b).2.2.2 = a.2.2.2 ||| b.2.2.2 := by
  unfold bth
  split <;> rfl
theorem SH_way (hd : DOK np kd nu) {w : Nat} : ∀ k, k < np → ∀ x, SH w np kd nu k = some x → ∀ i, x.2.2.2.testBit i = true → inR np kd k i ∧ w.testBit i = true := by
  have hw := hd.2.1
  refine part_ind hw (fun k hk h1 h2 x hx i hi => ?_)
  have ec := cn_eq hw hk
  have e1 := lo_s kd k
  have e2 := lo_sc np kd k
  rw [SH_eq hw hk] at hx
  unfold shF at hx
  rcases PK_of hd hk with ⟨h, a, n1, n2⟩ | ⟨h, a, h0, h3, n, k1, k2, k3⟩ | ⟨h, a, h0, n, n6, k1, k2, k3⟩ | ⟨h, a, h0, h3, h12, n1, n0, n2, k1⟩
  · rw [if_pos h] at hx
    injection hx with hx
    rw [← hx] at hi
    simp at hi
  · rw [if_neg (by omega : ¬ ar (kd k) = 0), if_pos a, if_neg h3] at ec
    rw [if_neg h3] at e1
    rw [if_neg h0, if_neg h3, if_pos h] at hx
    obtain ⟨u, hu, hx⟩ := Option.bind_eq_some_iff.mp hx
    obtain ⟨v, hv, rfl⟩ := Option.map_eq_some_iff.mp hx
    rw [bth_way, Nat.testBit_or, Bool.or_eq_true] at hi
    rcases hi with hi | hi
    · obtain ⟨p1, p2⟩ := h1 (by omega) u hu i hi
      exact ⟨by unfold inR at p1 ⊢; omega, p2⟩
    · obtain ⟨p1, p2⟩ := h2 a v hv i hi
      exact ⟨by unfold inR at p1 ⊢; omega, p2⟩
  · rw [if_neg (by omega : ¬ ar (kd k) = 0), if_pos a, if_pos h] at ec
    rw [if_pos h] at e1
    rw [if_neg h0, if_pos h] at hx
    by_cases hb : w.testBit (nu k).toNat = true
    · rw [if_pos hb] at hx
      obtain ⟨v, hv, rfl⟩ := Option.map_eq_some_iff.mp hx
      dsimp only at hi
      rw [Nat.testBit_or, Bool.or_eq_true] at hi
      rcases hi with hi | hi
      · obtain ⟨p1, p2⟩ := h2 a v hv i hi
        exact ⟨by unfold inR at p1 ⊢; omega, p2⟩
      · rw [Nat.testBit_two_pow] at hi
        have hi2 : (nu k).toNat = i := by simpa using hi
        subst hi2
        exact ⟨by unfold inR lo at *; omega, hb⟩
    · rw [if_neg hb] at hx
      obtain ⟨p1, p2⟩ := h1 (by omega) x hx i hi
      exact ⟨by unfold inR at p1 ⊢; omega, p2⟩
  · rw [if_neg (by omega : ¬ ar (kd k) = 0), if_neg (by omega : ¬ ar (kd k) = 2), if_neg h3] at ec
    rw [if_neg h3] at e1
    rw [if_neg h0, if_neg h3, if_neg h12] at hx
    obtain ⟨u, hu, hx⟩ := Option.bind_eq_some_iff.mp hx
    by_cases h5 : kd k = 5 ∧ 1 < u.1
    · rw [if_pos h5] at hx; cases hx
    · rw [if_neg h5] at hx
      injection hx with hx
      subst hx
      obtain ⟨p1, p2⟩ := h1 (by omega) u hu i hi
      exact ⟨by unfold inR at p1 ⊢; omega, p2⟩
theorem SH_nm (hd : DOK np kd nu) {w : Nat} : ∀ k, k < np → ∀ x, SH w np kd nu k = some x → ∀ w' : Nat, (∀ i, inR np kd k i → w'.testBit i = x.2.2.2.testBit i) → SH w' np kd nu k = some x := by
  have hw := hd.2.1
  refine part_ind hw (fun k hk h1 h2 x hx w' hag => ?_)
  have ec := cn_eq hw hk
  have e1 := lo_s kd k
  have e2 := lo_sc np kd k
  rw [SH_eq hw hk] at hx ⊢
  unfold shF at hx ⊢
  rcases PK_of hd hk with ⟨h, a, n1, n2⟩ | ⟨h, a, h0, h3, n, k1, k2, k3⟩ | ⟨h, a, h0, n, n6, k1, k2, k3⟩ | ⟨h, a, h0, h3, h12, n1, n0, n2, k1⟩
  · rw [if_pos h] at hx ⊢
    exact hx
  · rw [if_neg (by omega : ¬ ar (kd k) = 0), if_pos a, if_neg h3] at ec
    rw [if_neg h3] at e1
    rw [if_neg h0, if_neg h3, if_pos h] at hx ⊢
    obtain ⟨u, hu, hx⟩ := Option.bind_eq_some_iff.mp hx
    obtain ⟨v, hv, rfl⟩ := Option.map_eq_some_iff.mp hx
    rw [bth_way] at hag
    have g1 : SH w' np kd nu (k + 1) = some u := h1 (by omega) u hu w' (fun i hi => by
      rw [hag i (by unfold inR at hi ⊢; omega), Nat.testBit_or]
      cases hq : v.2.2.2.testBit i with
      | false => simp
      | true =>
        have := (SH_way hd _ k2 v hv i hq).1
        unfold inR at this hi
        omega)
    have g2 : SH w' np kd nu (scn np kd k) = some v := h2 a v hv w' (fun i hi => by
      rw [hag i (by unfold inR at hi ⊢; omega), Nat.testBit_or]
      cases hq : u.2.2.2.testBit i with
      | false => simp
      | true =>
        have := (SH_way hd _ k1 u hu i hq).1
        unfold inR at this hi
        omega)
    rw [g1, g2]
    rfl
  · rw [if_neg (by omega : ¬ ar (kd k) = 0), if_pos a, if_pos h] at ec
    rw [if_pos h] at e1
    rw [if_neg h0, if_pos h] at hx ⊢
    have hbit : inR np kd k (nu k).toNat := by unfold inR lo at *; omega
    by_cases hb : w.testBit (nu k).toNat = true
    · rw [if_pos hb] at hx
      obtain ⟨v, hv, rfl⟩ := Option.map_eq_some_iff.mp hx
      dsimp only at hag
      have g0 : w'.testBit (nu k).toNat = true := by
        rw [hag _ hbit, Nat.testBit_or, Nat.testBit_two_pow_self, Bool.or_true]
      have g2 : SH w' np kd nu (scn np kd k) = some v := h2 a v hv w' (fun i hi => by
        rw [hag i (by unfold inR at hi ⊢; omega), Nat.testBit_or, Nat.testBit_two_pow]
        have : ¬ (nu k).toNat = i := by unfold inR lo at *; omega
        simp [this])
      rw [if_pos g0, g2]
      rfl
    · rw [if_neg hb] at hx
      have g0 : ¬ w'.testBit (nu k).toNat = true := by
        rw [hag _ hbit]
        intro q
        have := (SH_way hd _ k1 x hx _ q).1
        unfold inR lo at *
        omega
      rw [if_neg g0]
      exact h1 (by omega) x hx w' (fun i hi => hag i (by unfold inR at hi ⊢; omega))
  · rw [if_neg (by omega : ¬ ar (kd k) = 0), if_neg (by omega : ¬ ar (kd k) = 2), if_neg h3] at ec
    rw [if_neg h3] at e1
    rw [if_neg h0, if_neg h3, if_neg h12] at hx ⊢
    obtain ⟨u, hu, hx⟩ := Option.bind_eq_some_iff.mp hx
    by_cases h5 : kd k = 5 ∧ 1 < u.1
    · rw [if_pos h5] at hx; cases hx
    · rw [if_neg h5] at hx
      injection hx with hx
      subst hx
      rw [h1 (by omega) u hu w' (fun i hi => hag i (by unfold inR at hi ⊢; omega))]
      show (if kd k = 5 ∧ 1 < u.1 then none else _) = _
      rw [if_neg h5]
theorem SH_own (hd : DOK np kd nu) {w k : Nat} (hk : k < np) {x : Sh} (h : SH w np kd nu k = some x) : SH x.2.2.2 np kd nu k = some x := SH_nm hd k hk x h _ (fun _ _ => rfl)
theorem SH_bnd (hd : DOK np kd nu) {w : Nat} : ∀ k, k < np → ∀ x, SH w np kd nu k = some x → bnd np kd k x := by
  have hw := hd.2.1
  refine part_ind hw (fun k hk h1 h2 x hx => ?_)
  have hc := cand_bnd hd hk (A := (SH w np kd nu (k + 1)).toList) (B := (SH w np kd nu (scn np kd k)).toList) (fun q y hy => h1 q y (by simpa using hy)) (fun q y hy => h2 q y (by simpa using hy))
  refine hc x ?_
  rw [SH_eq hw hk] at hx
  unfold shF at hx
  unfold cand
  rcases PK_of hd hk with ⟨h, a, n1, n2⟩ | ⟨h, a, h0, h3, n, k1, k2, k3⟩ | ⟨h, a, h0, n, n6, k1, k2, k3⟩ | ⟨h, a, h0, h3, h12, n1, n0, n2, k1⟩
  · rw [if_pos h] at hx ⊢
    injection hx with hx
    rw [hx]
    exact List.mem_cons_self
  · rw [if_neg h0, if_neg h3, if_pos h] at hx ⊢
    obtain ⟨u, hu, hx⟩ := Option.bind_eq_some_iff.mp hx
    obtain ⟨v, hv, rfl⟩ := Option.map_eq_some_iff.mp hx
    exact List.mem_flatMap.mpr ⟨u, by simpa using hu, List.mem_map.mpr ⟨v, by simpa using hv, rfl⟩⟩
  · rw [if_neg h0, if_pos h] at hx ⊢
    by_cases hb : w.testBit (nu k).toNat = true
    · rw [if_pos hb] at hx
      obtain ⟨v, hv, rfl⟩ := Option.map_eq_some_iff.mp hx
      exact List.mem_append_right _ (List.mem_map.mpr ⟨v, by simpa using hv, rfl⟩)
    · rw [if_neg hb] at hx
      exact List.mem_append_left _ (by simpa using hx)
  · rw [if_neg h0, if_neg h3, if_neg h12] at hx ⊢
    obtain ⟨u, hu, hx⟩ := Option.bind_eq_some_iff.mp hx
    by_cases h5 : kd k = 5 ∧ 1 < u.1
    · rw [if_pos h5] at hx; cases hx
    · rw [if_neg h5] at hx
      injection hx with hx
      exact List.mem_map.mpr ⟨u, by simpa using hu, hx⟩
end WS
