/-! ===== the pure part: words of the functions, numbers ===== -/
theorem gx_t {β : Type} {i : Int} {n : Nat} {x : Option β} (h : 0 ≤ i ∧ i < n) : gx i n x = x := if_pos h
theorem gb_t {β : Type} {v : Int} {x : Option β} (h : v = 0 ∨ v = 1) : gb v x = x := if_pos h
theorem gb_0 {β : Type} {x : Option β} : gb 0 x = x := if_pos (Or.inl rfl)
theorem gb_1 {β : Type} {x : Option β} : gb 1 x = x := if_pos (Or.inr rfl)
theorem sb_t {α β : Type} {v : α} {K : α → Option β} : sb v K = K v := rfl
theorem bn_t {α β : Type} {x : α} {K : α → Option β} : bn (some x) K = K x := rfl
theorem cb_t {α β : Type} {x : α} {s : SS} {K : α → SS → Option β} : cb (some (x, s)) K = K x s := rfl
theorem ob_tn {β : Type} {A : Option β} {B : Nat → Option β} : ob none A B = A := rfl
theorem ob_ts {β : Type} {q : Nat} {A : Option β} {B : Nat → Option β} : ob (some q) A B = B q := rfl
theorem wr_t {a : Int} (h1 : -2147483648 ≤ a) (h2 : a ≤ 2147483647) : wr a = a := wr_of ⟨h1, h2⟩
theorem up_s {σ : SS} {q k : Nat} {v : Int} : up σ q k v q k = v := by simp [up]
theorem up_q {σ : SS} {q k q' k' : Nat} {v : Int} (h : q' ≠ q) : up σ q k v q' k' = σ q' k' := by simp [up, h]
theorem up_k {σ : SS} {q k k' : Nat} {v : Int} (h : k' ≠ k) : up σ q k v q k' = σ q k' := by simp [up, h]
theorem tn_c (n : Nat) : ((n : Nat) : Int).toNat = n := rfl
theorem oN (n : Nat) : Int32.ofInt (n : Int) = nI n := Int32.ofInt_eq_ofNat
theorem oN_and {a b : Nat} (ha : a < 2 ^ 31) (hb : b < 2 ^ 31) : i_and (a : Int) (b : Int) = ((a &&& b : Nat) : Int) := by
  have e : nI a &&& nI b = nI (a &&& b) := by
    apply Int32.toBitVec_inj.mp
    apply BitVec.eq_of_toNat_eq
    have h3 : a &&& b ≤ a := Nat.and_le_left
    rw [Int32.toBitVec_and, BitVec.toNat_and, pk_tn (by omega), pk_tn (by omega), pk_tn (by omega)]
  have h3 : a &&& b ≤ a := Nat.and_le_left
  unfold i_and
  rw [oN, oN, e, nI_toInt (by omega)]
theorem oN_or {a b k : Nat} (hk : k ≤ 31) (ha : a < 2 ^ k) (hb : b < 2 ^ k) : i_or (a : Int) (b : Int) = ((a ||| b : Nat) : Int) := by
  have h2 : (2 : Nat) ^ k ≤ 2 ^ 31 := Nat.pow_le_pow_right (by decide) hk
  have h3 : a ||| b < 2 ^ k := Nat.or_lt_two_pow ha hb
  have e : nI a ||| nI b = nI (a ||| b) := by
    apply Int32.toBitVec_inj.mp
    apply BitVec.eq_of_toNat_eq
    rw [Int32.toBitVec_or, BitVec.toNat_or, pk_tn (by omega), pk_tn (by omega), pk_tn (by omega)]
  unfold i_or
  rw [oN, oN, e, nI_toInt (by omega)]
theorem sh5 (k : Nat) (hk : k < 31) : (((nI k) &&& 31).toBitVec.smod 32).toNat = k := by
  have h : ∀ k, k < 31 → (((nI k) &&& 31).toBitVec.smod 32).toNat = k := by decide
  exact h k hk
theorem oN_shl {a k : Nat} (hk : k < 31) (h : a * 2 ^ k < 2 ^ 31) : i_shl (a : Int) (k : Int) = ((a * 2 ^ k : Nat) : Int) := by
  unfold i_shl
  rw [oN, oN, pk_shlN _ k (sh5 k hk) (by omega), nI_toInt h]
theorem oN_shr {a k : Nat} (hk : k < 31) (h : a < 2 ^ 31) : i_shr (a : Int) (k : Int) = ((a / 2 ^ k : Nat) : Int) := by
  have h2 : a / 2 ^ k ≤ a := Nat.div_le_self _ _
  unfold i_shr
  rw [oN, oN, pk_shrN h _ k (sh5 k hk), nI_toInt (by omega)]
theorem or_sum {a k : Nat} (b : Nat) (h : a < 2 ^ k) : a ||| 2 ^ k * b = a + 2 ^ k * b := by
  rw [Nat.or_comm, ← Nat.two_pow_add_eq_or_of_lt h]
  omega
/-! ===== shapes as numbers ===== -/
abbrev Sh : Type := Nat × Nat × Nat × Nat
def pk (s : Sh) : Nat := s.1 + 64 * s.2.1 + 32768 * s.2.2.1 + 16777216 * s.2.2.2
def sOK (s : Sh) : Prop := s.1 < 64 ∧ s.2.1 < 512 ∧ s.2.2.1 < 512 ∧ s.2.2.2 < 64
theorem pkk_lt {s : Sh} (h : sOK s) : pk s < 2 ^ 30 := by
  obtain ⟨h1, h2, h3, h4⟩ := h
  unfold pk
  omega
theorem X7_lines_pk {s : Sh} (h : sOK s) : f_X7_lines (pk s : Int) = some (s.1 : Int) := by
  have hp := pkk_lt h
  obtain ⟨h1, h2, h3, h4⟩ := h
  unfold f_X7_lines
  rw [show (63 : Int) = ((63 : Nat) : Int) from rfl, oN_and (by omega) (by decide), show (63 : Nat) = 2 ^ 6 - 1 from rfl, Nat.and_two_pow_sub_one_eq_mod]
  have : pk s % 2 ^ 6 = s.1 := by unfold pk; omega
  rw [this]
theorem X7_last_pk {s : Sh} (h : sOK s) : f_X7_last (pk s : Int) = some (s.2.1 : Int) := by
  have hp := pkk_lt h
  obtain ⟨h1, h2, h3, h4⟩ := h
  unfold f_X7_last
  rw [show (6 : Int) = ((6 : Nat) : Int) from rfl, oN_shr (by decide) (by omega), show (511 : Int) = ((511 : Nat) : Int) from rfl, oN_and (by omega) (by decide), show (511 : Nat) = 2 ^ 9 - 1 from rfl, Nat.and_two_pow_sub_one_eq_mod]
  have : pk s / 2 ^ 6 % 2 ^ 9 = s.2.1 := by unfold pk; omega
  rw [this]
theorem X7_most_pk {s : Sh} (h : sOK s) : f_X7_most (pk s : Int) = some (s.2.2.1 : Int) := by
  have hp := pkk_lt h
  obtain ⟨h1, h2, h3, h4⟩ := h
  unfold f_X7_most
  rw [show (15 : Int) = ((15 : Nat) : Int) from rfl, oN_shr (by decide) (by omega), show (511 : Int) = ((511 : Nat) : Int) from rfl, oN_and (by omega) (by decide), show (511 : Nat) = 2 ^ 9 - 1 from rfl, Nat.and_two_pow_sub_one_eq_mod]
  have : pk s / 2 ^ 15 % 2 ^ 9 = s.2.2.1 := by unfold pk; omega
  rw [this]
theorem X7_way_pk {s : Sh} (h : sOK s) : f_X7_wayOf (pk s : Int) = some (s.2.2.2 : Int) := by
  have hp := pkk_lt h
  obtain ⟨h1, h2, h3, h4⟩ := h
  unfold f_X7_wayOf
  rw [show (24 : Int) = ((24 : Nat) : Int) from rfl, oN_shr (by decide) (by omega)]
  have : pk s / 2 ^ 24 = s.2.2.2 := by unfold pk; omega
  rw [this]
theorem X7_shape_pk {l la m w : Nat} (h : sOK (l, la, m, w)) : f_X7_shape (l : Int) (la : Int) (m : Int) (w : Int) = some (pk (l, la, m, w) : Int) := by
  obtain ⟨h1, h2, h3, h4⟩ := h
  dsimp only at h1 h2 h3 h4
  unfold f_X7_shape
  rw [show (6 : Int) = ((6 : Nat) : Int) from rfl, show (15 : Int) = ((15 : Nat) : Int) from rfl, show (24 : Int) = ((24 : Nat) : Int) from rfl,
    oN_shl (by decide) (by omega), oN_shl (by decide) (by omega), oN_shl (by decide) (by omega)]
  have e1 : l ||| la * 2 ^ 6 = l + la * 2 ^ 6 := by rw [Nat.mul_comm la]; exact or_sum la (by omega)
  have e2 : (l + la * 2 ^ 6) ||| m * 2 ^ 15 = l + la * 2 ^ 6 + m * 2 ^ 15 := by rw [Nat.mul_comm m]; exact or_sum m (by omega)
  have e3 : (l + la * 2 ^ 6 + m * 2 ^ 15) ||| w * 2 ^ 24 = l + la * 2 ^ 6 + m * 2 ^ 15 + w * 2 ^ 24 := by rw [Nat.mul_comm w]; exact or_sum w (by omega)
  rw [oN_or (k := 15) (by decide) (by omega) (by omega), e1, oN_or (k := 24) (by decide) (by omega) (by omega), e2, oN_or (k := 31) (by decide) (by omega) (by omega), e3]
  congr 2
  unfold pk
  dsimp only
  omega
theorem X7_in_v (x a b : Int) : f_X7_in x a b = some (if a ≤ x ∧ x ≤ b then 1 else 0) := by
  unfold f_X7_in g_X7_in_14 g_X7_in_15
  by_cases h1 : x < a
  · rw [if_pos h1, if_neg (by omega), gb_0]
  · rw [if_neg h1]
    by_cases h2 : b < x
    · rw [if_pos h2, if_neg (by omega), gb_0]
    · rw [if_neg h2, if_pos (by omega), gb_1]
theorem X7_max_v (a b : Nat) : f_X7_max (a : Int) (b : Int) = some ((max a b : Nat) : Int) := by
  unfold f_X7_max g_X7_max_10
  by_cases h : (a : Int) ≤ b
  · rw [if_pos h, Nat.max_eq_right (by omega)]
  · rw [if_neg h, Nat.max_eq_left (by omega)]
/-- no greater in anything -/
def ng (a b : Sh) : Bool := decide (a.1 ≤ b.1) && decide (a.2.1 ≤ b.2.1) && decide (a.2.2.1 ≤ b.2.2.1)
def bI (b : Bool) : Int := if b then 1 else 0
theorem X7_ng_pk {a b : Sh} (ha : sOK a) (hb : sOK b) : f_X7_isNoGreater (pk a : Int) (pk b : Int) = some (bI (ng a b)) := by
  unfold f_X7_isNoGreater g_X7_isNoGreater_37 g_X7_isNoGreater_38
  simp only [X7_lines_pk ha, X7_lines_pk hb, X7_last_pk ha, X7_last_pk hb, X7_most_pk ha, X7_most_pk hb, bn_t, gb_0, gb_1]
  by_cases h1 : (b.1 : Int) < a.1
  · rw [if_pos h1]
    have : ng a b = false := by simp [ng]; omega
    rw [this]; rfl
  · rw [if_neg h1]
    by_cases h2 : (b.2.1 : Int) < a.2.1
    · rw [if_pos h2]
      have : ng a b = false := by simp [ng]; omega
      rw [this]; rfl
    · rw [if_neg h2]
      by_cases h3 : (b.2.2.1 : Int) < a.2.2.1
      · rw [if_pos h3]
        have : ng a b = false := by simp [ng]; omega
        rw [this]; rfl
      · rw [if_neg h3]
        have : ng a b = true := by simp [ng]; omega
        rw [this]; rfl
/-- two, beside or under one another -/
def bth (k : Int) (a b : Sh) : Sh := if k = 1 then (a.1 + b.1 - 1, a.2.1 + b.2.1, max a.2.2.1 (a.2.1 + b.2.2.1), a.2.2.2 ||| b.2.2.2) else (a.1 + b.1, b.2.1, max a.2.2.1 b.2.2.1, a.2.2.2 ||| b.2.2.2)
def psh (n : Nat) (a : Sh) : Sh := (a.1, a.2.1 + n, a.2.2.1 + n, a.2.2.2)
theorem X7_both_pk {k : Int} {a b : Sh} (ha : sOK a) (hb : sOK b) (h1 : 1 ≤ a.1) (hr : sOK (bth k a b)) : f_X7_both k (pk a : Int) (pk b : Int) = some (pk (bth k a b) : Int) := by
  unfold f_X7_both
  simp only [X7_lines_pk ha, X7_lines_pk hb, X7_last_pk ha, X7_last_pk hb, X7_most_pk ha, X7_most_pk hb, X7_way_pk ha, X7_way_pk hb, bn_t, sb_t]
  obtain ⟨a1, a2, a3, a4⟩ := ha
  obtain ⟨b1, b2, b3, b4⟩ := hb
  rw [oN_or (k := 6) (by decide) (by omega) (by omega)]
  unfold bth at hr ⊢
  by_cases hk : k = 1
  · rw [if_pos hk] at hr ⊢
    rw [if_pos hk]
    rw [wr_t (a := (a.2.1 : Int) + b.2.2.1) (by omega) (by omega), wr_t (a := (a.1 : Int) + b.1) (by omega) (by omega), wr_t (a := (a.1 : Int) + b.1 - 1) (by omega) (by omega), wr_t (a := (a.2.1 : Int) + b.2.1) (by omega) (by omega)]
    rw [show (a.2.1 : Int) + b.2.2.1 = ((a.2.1 + b.2.2.1 : Nat) : Int) by omega, X7_max_v, bn_t, show (a.1 : Int) + b.1 - 1 = ((a.1 + b.1 - 1 : Nat) : Int) by omega, show (a.2.1 : Int) + b.2.1 = ((a.2.1 + b.2.1 : Nat) : Int) by omega, X7_shape_pk hr, bn_t]
  · rw [if_neg hk] at hr ⊢
    rw [if_neg hk]
    rw [wr_t (a := (a.1 : Int) + b.1) (by omega) (by omega)]
    rw [X7_max_v, bn_t, show (a.1 : Int) + b.1 = ((a.1 + b.1 : Nat) : Int) by omega, X7_shape_pk hr, bn_t]
theorem X7_pushed_pk {n : Nat} {a : Sh} (ha : sOK a) (hn : n < 512) (hr : sOK (psh n a)) : f_X7_pushed (pk a : Int) (n : Int) = some (pk (psh n a) : Int) := by
  unfold f_X7_pushed
  simp only [X7_lines_pk ha, X7_last_pk ha, X7_most_pk ha, X7_way_pk ha, bn_t]
  obtain ⟨a1, a2, a3, a4⟩ := ha
  rw [wr_t (a := (a.2.1 : Int) + n) (by omega) (by omega), wr_t (a := (a.2.2.1 : Int) + n) (by omega) (by omega), show (a.2.1 : Int) + n = ((a.2.1 + n : Nat) : Int) by omega, show (a.2.2.1 : Int) + n = ((a.2.2.1 + n : Nat) : Int) by omega, X7_shape_pk hr, bn_t]
  rfl
theorem pkk_bit {a : Sh} {j : Nat} (ha : sOK a) (hj : j < 6) : i_or (pk a : Int) (i_shl ((2 ^ j : Nat) : Int) 24) = (pk (a.1, a.2.1, a.2.2.1, a.2.2.2 ||| 2 ^ j) : Int) := by
  have hp := pkk_lt ha
  obtain ⟨a1, a2, a3, a4⟩ := ha
  have h2 : 2 ^ j < 2 ^ 6 := Nat.pow_lt_pow_right (by decide) hj
  have hlow : pk a = (a.1 + 64 * a.2.1 + 32768 * a.2.2.1) ||| 2 ^ 24 * a.2.2.2 := by
    rw [or_sum _ (by omega)]
    unfold pk
    omega
  rw [show (24 : Int) = ((24 : Nat) : Int) from rfl, oN_shl (by decide) (by omega), oN_or (k := 31) (by decide) (by omega) (by omega)]
  have e : pk a ||| 2 ^ j * 2 ^ 24 = (a.1 + 64 * a.2.1 + 32768 * a.2.2.1) ||| 2 ^ 24 * (a.2.2.2 ||| 2 ^ j) := by
    rw [hlow, Nat.or_assoc]
    congr 1
    rw [Nat.mul_comm (2 ^ j), Nat.mul_comm (2 ^ 24) a.2.2.2, Nat.mul_comm (2 ^ 24) (2 ^ j), Nat.mul_comm (2 ^ 24), ← Nat.shiftLeft_eq, ← Nat.shiftLeft_eq, ← Nat.shiftLeft_eq, Nat.shiftLeft_or_distrib]
  rw [e, or_sum _ (by omega)]
  congr 1
