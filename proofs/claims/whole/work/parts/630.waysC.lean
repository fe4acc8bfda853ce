/-! ===== the class's shapes by their ways ===== -/
theorem shl23 : shl 23 = 40 := rfl
theorem shl28 : shl 28 = 64 := rfl
theorem shl17 : shl 17 = 1 := rfl
def setI (s : SS) (q i : Nat) (a b c d : Int) : SS := up (up (up (up s (q + 1 + 0) i a) (q + 1 + 1) i b) (q + 1 + 2) i c) (q + 1 + 3) i d
theorem setI_0 (s : SS) (q i : Nat) (a b c d : Int) : setI s q i a b c d (q + 1 + 0) i = a ∧ setI s q i a b c d (q + 1 + 1) i = b ∧ setI s q i a b c d (q + 1 + 2) i = c ∧ setI s q i a b c d (q + 1 + 3) i = d := by
  unfold setI
  refine ⟨?_, ?_, ?_, up_s⟩
  · rw [up_q (by omega), up_q (by omega), up_q (by omega), up_s]
  · rw [up_q (by omega), up_q (by omega), up_s]
  · rw [up_q (by omega), up_s]
theorem setI_off {s : SS} {q i : Nat} {a b c d : Int} {p k : Nat} (h : (p ≤ q ∨ q + 4 < p) ∨ k ≠ i) : setI s q i a b c d p k = s p k := by
  unfold setI up
  repeat' split
  all_goals (first | rfl | omega)
theorem X3_set_i {s : SS} {q i : Nat} {a b c d : Int} (hi : i < shl q) : f_X3_set q (i : Int) a b c d s = some (setI s q i a b c d) := by
  unfold f_X3_set g_X3_set_43
  rw [if_neg (by omega), if_neg (by omega), gx_d (by omega) (by omega)]
  simp only [sb_t, tn_c]
  rw [gx_d (by omega) (by omega), gx_d (by omega) (by omega), gx_d (by omega) (by omega)]
  rfl
theorem X3_setLike_i {s : SS} {q i j : Nat} {w : Int} (hi : i < shl q) (hj : j < shl q) : f_X3_setLike q (i : Int) (j : Int) w s = some (setI s q i (s (q + 1 + 0) j) (s (q + 1 + 1) j) (s (q + 1 + 2) j) (i_or (s (q + 1 + 3) j) w)) := by
  unfold f_X3_setLike g_X3_setLike_39
  rw [X3_has_1 hj, bn_t, if_neg (by decide), gx_d (by omega) (by omega), gx_d (by omega) (by omega), gx_d (by omega) (by omega), gx_d (by omega) (by omega), tn_c, X3_set_i hi, bn_t]
/-- what stands in a row: a shape, or that there is none -/
def shO (s : SS) (q k : Nat) : Option Sh → Prop
  | none => s (q + 1 + 0) k = 0
  | some x => shAt s q k x
theorem shO_ext {s s' : SS} {q i : Nat} {o : Option Sh} (h : shO s q i o) (e : ∀ p, q < p → p ≤ q + 4 → s' p i = s p i) : shO s' q i o := by
  cases o with
  | none => show s' _ _ = 0; rw [e _ (by omega) (by omega)]; exact h
  | some x => exact shAt_ext h e
theorem X3_tell_0 {s : SS} {q i : Nat} {y : Int} (hi : i < shl q) : f_X3_tell q (i : Int) y s = some (if y = 0 then s (q + 1 + 0) i else if y = 1 then s (q + 1 + 1) i else if y = 2 then s (q + 1 + 2) i else s (q + 1 + 3) i) := by
  unfold f_X3_tell
  rw [if_neg (by omega), if_pos (by omega), gx_d (by omega) (by omega), gx_d (by omega) (by omega), gx_d (by omega) (by omega), gx_d (by omega) (by omega), tn_c]
  split
  · rfl
  · split
    · rfl
    · split <;> rfl
theorem X5_stands_v {s : SS} {k : Nat} (hk : k < 40) {o : Option Sh} (h : shO s 23 k o) (h1 : ∀ x, o = some x → 1 ≤ x.1) : f_X5_stands (k : Int) s = some (bI o.isSome) := by
  unfold f_X5_stands g_X5_stands_17
  rw [X3_tell_0 (by rw [shl23]; omega), bn_t, if_pos rfl]
  cases o with
  | none =>
    have h' : s (23 + 1 + 0) k = 0 := h
    rw [h', if_pos (by omega)]
    exact gb_0
  | some x =>
    have := h1 x rfl
    rw [h.1, if_neg (by omega)]
    exact gb_1
theorem and_bit (w j : Nat) : w &&& 2 ^ j = if w.testBit j = true then 2 ^ j else 0 := by
  apply Nat.eq_of_testBit_eq
  intro i
  rw [Nat.testBit_and, Nat.testBit_two_pow]
  by_cases h : j = i
  · subst h
    cases hb : w.testBit j with
    | false => simp
    | true => simp
  · have e : decide (j = i) = false := by simp [h]
    rw [e, Bool.and_false]
    split
    · rw [Nat.testBit_two_pow, e]
    · rw [Nat.zero_testBit]
def CS (w np : Nat) (kd nu : Nat → Int) (c : Nat) (s : SS) : Prop := ∀ k, c ≤ k → k < np → shO s 23 k (SH w np kd nu k)
theorem X5_shapeOne_v {w np : Nat} {kd nu : Nat → Int} (hw64 : w < 64) (hd : DOK np kd nu) {c : Nat} (hc : c < np) {s : SS} (h9 : s 1 9 = (np : Int)) (hp : CP np kd nu s) (hS : CS w np kd nu (c + 1) s) :
    ∃ s', f_X5_shapeOne (c : Int) (w : Int) s = some s' ∧ shO s' 23 c (SH w np kd nu c) ∧ ∀ p k, ((p ≤ 23 ∨ 27 < p) ∨ k ≠ c) → s' p k = s p k := by
  have hw := hd.2.1
  have h40 := hd.1
  obtain ⟨r3, r9, r7, r8⟩ := hp c hc
  have hb := SH_bnd (w := w) hd c hc
  rw [SH_eq hw hc] at hb ⊢
  unfold shF at hb ⊢
  unfold f_X5_shapeOne g_X5_shapeOne_37
  rw [X0_hasPart_v, bn_t, if_pos (show 0 ≤ (c : Int) ∧ (c : Int) < s 1 9 ∧ (c : Int) < 40 by omega), if_neg (show ¬ (1 : Int) = 0 by decide), gx_d (by omega) (by omega), sb_t, gx_d (by omega) (by omega), sb_t, tn_c, r3]
  have fr4 : ∀ x, ∀ p k, ((p ≤ 23 ∨ 27 < p) ∨ k ≠ c) → st4 s 23 c x p k = s p k := fun x p k h => st4_off (by omega)
  have frI : ∀ a b d e, ∀ p k, ((p ≤ 23 ∨ 27 < p) ∨ k ≠ c) → setI s 23 c a b d e p k = s p k := fun _ _ _ _ p k h => setI_off (by omega)
  rcases PK_of hd hc with ⟨h, a, n1, n2⟩ | ⟨h, a, h0, h3, n, k1, k2, k3⟩ | ⟨h, a, h0, n, n6, k1, k2, k3⟩ | ⟨h, a, h0, h3, h12, n1, n0, n2, k1⟩
  · rw [if_pos h] at hb ⊢
    rw [if_neg (by rw [h]; decide), if_neg (by rw [h]; decide)]
    unfold g_X5_shapeOne_48 g_X5_shapeOne_192
    rw [if_pos h, gx_d (by omega) (by omega), tn_c, r9]
    unfold f_X3_setWord
    have es := X3_set_v (s := s) (q := 23) (i := c) (l := 1) (la := (nu c).toNat) (m := (nu c).toNat) (w := 0) (by rw [shl23]; omega)
    rw [show (((nu c).toNat : Nat) : Int) = nu c by omega] at es
    have es' : f_X3_set 23 (c : Int) 1 (nu c) (nu c) 0 s = _ := es
    rw [es', bn_t, bn_t]
    exact ⟨_, rfl, st4_at _ _ _ _, fr4 _⟩
  · rw [if_neg h0, if_neg h3, if_pos h] at hb ⊢
    have red : ∀ K : Option SS, (if kd c = 1 then K else if kd c = 2 then K else g_X5_shapeOne_48 (c : Int) (w : Int) (kd c) (s 7 c) (s 7 c) s) = K := by
      intro K
      rcases h with h | h
      · rw [if_pos h]
      · rw [if_neg (by rw [h]; decide), if_pos h]
    rw [red, gx_d (by omega) (by omega), r7, r8, if_neg (by omega), if_pos a]
    unfold g_X5_shapeOne_48 g_X5_shapeOne_157 g_X5_shapeOne_172 g_X5_shapeOne_192
    have s1 := hS (c + 1) (by omega) k1
    have s2 := hS (scn np kd c) (by omega) k2
    rw [if_neg h0, if_neg h3, X5_stands_v (by omega) s1 (fun x hx => (SH_bnd hd _ k1 x hx).1), bn_t, X5_stands_v (by omega) s2 (fun x hx => (SH_bnd hd _ k2 x hx).1), bn_t, if_neg (show ¬ kd c = 5 by rcases h with h | h <;> rw [h] <;> decide)]
    have ez : ∃ s', (bn (f_X3_set 23 (c : Int) 0 0 0 0 s) fun s1 => some s1) = some s' ∧ shO s' 23 c none ∧ ∀ p k, ((p ≤ 23 ∨ 27 < p) ∨ k ≠ c) → s' p k = s p k := by
      rw [X3_set_i (by rw [shl23]; omega), bn_t]
      exact ⟨_, rfl, (setI_0 s 23 c 0 0 0 0).1, frI _ _ _ _⟩
    cases hu : SH w np kd nu (c + 1) with
    | none => rw [if_pos (show bI (none : Option Sh).isSome = 0 from rfl)]; exact ez
    | some u =>
      rw [if_neg (show ¬ bI (some u).isSome = 0 from (by decide : ¬ (1 : Int) = 0))]
      cases hv : SH w np kd nu (scn np kd c) with
      | none => rw [if_pos (show bI (none : Option Sh).isSome = 0 from rfl)]; exact ez
      | some v =>
        rw [if_neg (show ¬ bI (some v).isSome = 0 from (by decide : ¬ (1 : Int) = 0)), gx_d (by omega) (by omega)]
        rw [hu] at s1
        rw [hv] at s2
        have hub := SH_bnd hd _ k1 u hu
        have hvb := SH_bnd hd _ k2 v hv
        rw [X3_both_v (k := 0) h (by rw [shl23]; omega) (by rw [shl23]; omega) (by rw [shl23]; omega) s1 s2 (bnd_sOK hd k1 hub) (bnd_sOK hd k2 hvb) hub.1, bn_t]
        exact ⟨_, rfl, st4_at _ _ _ _, fr4 _⟩
  · rw [if_neg h0, if_pos h] at hb ⊢
    rw [if_neg (by rw [h]; decide), if_neg (by rw [h]; decide), r7, if_neg (by omega)]
    unfold g_X5_shapeOne_48 g_X5_shapeOne_111 g_X5_shapeOne_192
    have s1 := hS (c + 1) (by omega) k1
    have s2 := hS (scn np kd c) (by omega) k2
    have hp2 : 2 ^ (nu c).toNat < 2 ^ 6 := Nat.pow_lt_pow_right (by decide) (by omega)
    have hsh : i_shl 1 (nu c) = ((2 ^ (nu c).toNat : Nat) : Int) := by
      have := oN_shl (a := 1) (k := (nu c).toNat) (by omega) (by omega)
      rw [Nat.one_mul, show (((nu c).toNat : Nat) : Int) = nu c by omega] at this
      exact this
    have hand : i_and (w : Int) ((2 ^ (nu c).toNat : Nat) : Int) = ((if w.testBit (nu c).toNat = true then 2 ^ (nu c).toNat else 0 : Nat) : Int) := by
      rw [oN_and (by omega) (by omega), and_bit]
    rw [if_neg h0, if_pos h, gx_d (by omega) (by omega), sb_t, tn_c, r9, hsh, hand, r8, if_pos a]
    cases ht : w.testBit (nu c).toNat with
    | false =>
      rw [if_neg (show ¬ false = true by decide), if_neg (show ¬ false = true by decide), if_pos (show ((0 : Nat) : Int) = 0 from rfl)]
      cases hu : SH w np kd nu (c + 1) with
      | none =>
        rw [hu] at s1
        rw [X3_setLike_i (by rw [shl23]; omega) (by rw [shl23]; omega), bn_t]
        exact ⟨_, rfl, by show setI _ _ _ _ _ _ _ _ _ = 0; rw [(setI_0 _ _ _ _ _ _ _).1]; exact s1, frI _ _ _ _⟩
      | some u =>
        rw [hu] at s1
        have hub := SH_bnd hd _ k1 u hu
        have e := X3_setLike_v (s := s) (q := 23) (i := c) (j := c + 1) (w := 0) (by rw [shl23]; omega) (by rw [shl23]; omega) s1 hub.2.2.2.2.2 (by decide)
        rw [st4_id] at e
        rw [e, bn_t]
        exact ⟨_, rfl, st4_at _ _ _ _, fr4 _⟩
    | true =>
      have hne : ¬ (((2 ^ (nu c).toNat : Nat) : Int) = 0) := by have := Nat.two_pow_pos (nu c).toNat; omega
      rw [if_pos (show true = true from rfl), if_pos (show true = true from rfl), if_neg hne, gx_d (by omega) (by omega)]
      cases hv : SH w np kd nu (scn np kd c) with
      | none =>
        rw [hv] at s2
        rw [X3_setLike_i (by rw [shl23]; omega) (by rw [shl23]; omega), bn_t]
        exact ⟨_, rfl, by show setI _ _ _ _ _ _ _ _ _ = 0; rw [(setI_0 _ _ _ _ _ _ _).1]; exact s2, frI _ _ _ _⟩
      | some v =>
        rw [hv] at s2
        have hvb := SH_bnd hd _ k2 v hv
        rw [X3_setLike_v (by rw [shl23]; omega) (by rw [shl23]; omega) s2 hvb.2.2.2.2.2 (by omega), bn_t]
        exact ⟨_, rfl, st4_at _ _ _ _, fr4 _⟩
  · rw [if_neg h0, if_neg h3, if_neg h12] at hb ⊢
    rw [if_neg (fun q => h12 (Or.inl q)), if_neg (fun q => h12 (Or.inr q)), r7, if_neg (by omega)]
    unfold g_X5_shapeOne_48 g_X5_shapeOne_157 g_X5_shapeOne_172 g_X5_shapeOne_192
    have s1 := hS (c + 1) (by omega) k1
    rw [if_neg h0, if_neg h3, X5_stands_v (by omega) s1 (fun x hx => (SH_bnd hd _ k1 x hx).1), bn_t, bn_t]
    have ez : ∃ s', (bn (f_X3_set 23 (c : Int) 0 0 0 0 s) fun s1 => some s1) = some s' ∧ shO s' 23 c none ∧ ∀ p k, ((p ≤ 23 ∨ 27 < p) ∨ k ≠ c) → s' p k = s p k := by
      rw [X3_set_i (by rw [shl23]; omega), bn_t]
      exact ⟨_, rfl, (setI_0 s 23 c 0 0 0 0).1, frI _ _ _ _⟩
    cases hu : SH w np kd nu (c + 1) with
    | none => rw [if_pos (show bI (none : Option Sh).isSome = 0 from rfl)]; exact ez
    | some u =>
      rw [if_neg (show ¬ bI (some u).isSome = 0 from (by decide : ¬ (1 : Int) = 0)), if_neg (show ¬ bI (some u).isSome = 0 from (by decide : ¬ (1 : Int) = 0))]
      rw [hu] at s1
      have hub := SH_bnd hd _ k1 u hu
      show ∃ s', _ ∧ shO s' 23 c (if kd c = 5 ∧ 1 < u.1 then none else some (psh (if kd c = 4 then (nu c).toNat else 0) u)) ∧ _
      have ep : ∃ s', (gx (c : Int) 40 (bn (f_X3_setMade 23 (c : Int) (kd c) (s 9 (c : Int).toNat) ((c + 1 : Nat) : Int) ((c + 1 : Nat) : Int) s) fun s1 => some s1)) = some s' ∧ shO s' 23 c (some (psh (if kd c = 4 then (nu c).toNat else 0) u)) ∧ ∀ p k, ((p ≤ 23 ∨ 27 < p) ∨ k ≠ c) → s' p k = s p k := by
        rw [gx_d (by omega) (by omega), tn_c, r9]
        have en : nu c = ((if kd c = 4 then (nu c).toNat else 0 : Nat) : Int) := by
          rcases h with h | h
          · rw [if_pos h]; omega
          · rw [if_neg (by rw [h]; decide), n0 h]; rfl
        rw [en]
        have e2 : (if kd c = 4 then ((if kd c = 4 then (nu c).toNat else 0 : Nat) : Int).toNat else 0) = (if kd c = 4 then (nu c).toNat else 0) := by
          rw [tn_c]
          split
          · rfl
          · rfl
        rw [e2]
        rw [X3_push_v h (by rw [shl23]; omega) (by rw [shl23]; omega) s1 (bnd_sOK hd k1 hub) (by split <;> omega), bn_t]
        exact ⟨_, rfl, st4_at _ _ _ _, fr4 _⟩
      by_cases h5 : kd c = 5
      · rw [if_pos h5, X3_tell_v (by rw [shl23]; omega) s1, bn_t, if_pos rfl]
        by_cases hl : u.1 = 1
        · rw [if_pos (by omega), if_neg (fun z => by omega)]
          exact ep
        · have := hub.1
          rw [if_neg (by omega), if_pos ⟨h5, by omega⟩]
          exact ez
      · rw [if_neg h5, if_neg (fun z => h5 z.1)]
        exact ep
