/-! ===== the layouts of the whole, the least of them ===== -/
def Few (Q : Sh → Prop) (g : Sh → Nat) (r : Int) : Prop := (r = -1 ∧ ∀ x, ¬ Q x) ∨ ∃ x, Q x ∧ r = g x ∧ ∀ y, Q y → g x ≤ g y
theorem Few.unique {Q : Sh → Prop} {g : Sh → Nat} {r r' : Int} (h : Few Q g r) (h' : Few Q g r') : r = r' := by
  rcases h with ⟨a, b⟩ | ⟨x, a, b, c⟩ <;> rcases h' with ⟨a', b'⟩ | ⟨x', a', b', c'⟩
  · omega
  · exact absurd a' (b x')
  · exact absurd a (b' x)
  · have := c x' a'
    have := c' x a
    omega
theorem Few.same {Q Q' : Sh → Prop} {g : Sh → Nat} {r : Int} (h : Few Q g r) (e : ∀ x, Q' x ↔ Q x) : Few Q' g r := by
  rcases h with ⟨a, b⟩ | ⟨x, a, b, c⟩
  · exact Or.inl ⟨a, fun x q => b x ((e x).mp q)⟩
  · exact Or.inr ⟨x, (e x).mpr a, b, fun y q => c y ((e y).mp q)⟩
theorem Few.add {Q Q' : Sh → Prop} {g : Sh → Nat} {r : Int} {x : Sh} (h : Few Q g r) (e : ∀ y, Q' y ↔ Q y ∨ y = x) : Few Q' g (if r = -1 ∨ (g x : Int) < r then (g x : Int) else r) := by
  rcases h with ⟨a, b⟩ | ⟨z, a, b, c⟩
  · rw [if_pos (Or.inl a)]
    exact Or.inr ⟨x, (e x).mpr (Or.inr rfl), rfl, fun y q => by
      rcases (e y).mp q with q | q
      · exact absurd q (b y)
      · rw [q]; exact Nat.le_refl _⟩
  · by_cases hr : r = -1 ∨ (g x : Int) < r
    · rw [if_pos hr]
      exact Or.inr ⟨x, (e x).mpr (Or.inr rfl), rfl, fun y q => by
        rcases (e y).mp q with q | q
        · have := c y q
          omega
        · rw [q]; exact Nat.le_refl _⟩
    · rw [if_neg hr]
      exact Or.inr ⟨z, (e z).mpr (Or.inl a), b, fun y q => by
        rcases (e y).mp q with q | q
        · exact c y q
        · rw [q]; omega⟩
theorem Few.ge {Q : Sh → Prop} {g : Sh → Nat} {r : Int} (h : Few Q g r) : -1 ≤ r := by
  rcases h with ⟨a, b⟩ | ⟨x, a, b, c⟩ <;> omega
section QS
variable {n : Nat} {t : Nat → Int}
theorem pC_le : pC n t ≤ 6 := by
  have := chs_le (pts n t) 0 (pts_ok n t).1
  show chs (pts n t) ≤ 6
  omega
theorem pow_pC : 2 ^ pC n t ≤ 64 := Nat.le_trans (Nat.pow_le_pow_right (n := 2) (by decide) (pC_le (n := n) (t := t))) (by decide)
theorem inR_pC (hn : n ≤ 40) (h0 : 0 < pN n t) {i : Nat} (h : inR (pN n t) (pK n t) 0 i) : i < pC n t := by
  have hd := D_1 (t := t) hn h0
  have h1 := c3_mono (pK n t) (k := 0) (e := wi (pN n t) (pK n t) 0) (np := pN n t) (wi_sub hd.2.1 h0).2.1
  have h2 : c3 (pK n t) (pN n t) 0 = pC n t := c3_chs (pts n t)
  unfold inR lo cn at h
  have h3 : c3 (pK n t) 0 0 = 0 := rfl
  omega
theorem U_way (hn : n ≤ 40) {w : Nat} {x : Sh} (h : U n t w = some x) : U n t x.2.2.2 = some x ∧ x.2.2.2 < 2 ^ pC n t ∧ ∀ i, x.2.2.2.testBit i = true → w.testBit i = true := by
  obtain ⟨hb, ho, h0, hd, hs⟩ := U_bnd hn h
  refine ⟨?_, ?_, fun i hi => (SH_way hd 0 h0 x hs i hi).2⟩
  · unfold U UU
    rw [if_neg (by omega)]
    exact SH_own hd h0 hs
  · apply Nat.lt_pow_two_of_testBit
    intro i hi
    cases hq : x.2.2.2.testBit i with
    | false => rfl
    | true =>
      have := inR_pC hn h0 (SH_way hd 0 h0 x hs i hq).1
      omega
theorem U_mod (hn : n ≤ 40) (w : Nat) : U n t (w % 2 ^ pC n t) = U n t w := by
  unfold U UU
  by_cases h0 : pN n t = 0
  · rw [if_pos h0, if_pos h0]
  · rw [if_neg h0, if_neg h0]
    refine SH_ext (D_1 (t := t) hn (by omega)) 0 (by omega) (fun i hi => ?_)
    have := inR_pC hn (by omega) hi
    rw [Nat.testBit_mod_two_pow]
    simp [this]
/-- a layout of the whole within v, without the seconds of the mask -/
def LY (n : Nat) (t : Nat → Int) (v : Int) (m : Nat) (x : Sh) : Prop := U n t x.2.2.2 = some x ∧ x.2.2.2 &&& m = 0 ∧ (x.2.2.1 : Int) ≤ v
theorem and_sub {a b m : Nat} (h : ∀ i, a.testBit i = true → b.testBit i = true) (hb : b &&& m = 0) : a &&& m = 0 := by
  apply Nat.eq_of_testBit_eq
  intro i
  have hb2 : (b &&& m).testBit i = false := by rw [hb]; exact Nat.zero_testBit i
  rw [Nat.testBit_and] at hb2 ⊢
  rw [Nat.zero_testBit]
  cases ha : a.testBit i with
  | false => simp
  | true =>
    rw [h i ha] at hb2
    simpa using hb2
theorem LY_m (hn : n ≤ 40) {N : Nat} (hN : 2 ^ pC n t ≤ N) {v : Int} {m : Nat} {x : Sh} : (∃ w, w < N ∧ w &&& m = 0 ∧ U n t w = some x ∧ (x.2.2.1 : Int) ≤ v) ↔ LY n t v m x := by
  constructor
  · rintro ⟨w, h1, h2, h3, h4⟩
    obtain ⟨a, b, c⟩ := U_way hn h3
    exact ⟨a, and_sub c h2, h4⟩
  · rintro ⟨a, b, c⟩
    have := (U_way hn a).2.1
    exact ⟨x.2.2.2, by omega, b, a, c⟩
theorem LY_c (hn : n ≤ 40) {v : Int} {m : Nat} {x : Sh} : (∃ w, w < 2 ^ pC n t ∧ U n t w = some x ∧ x.2.2.2 &&& m = 0 ∧ (x.2.2.1 : Int) ≤ v) ↔ LY n t v m x := by
  constructor
  · rintro ⟨w, h1, h2, h3, h4⟩
    exact ⟨(U_way hn h2).1, h3, h4⟩
  · rintro ⟨a, b, c⟩
    exact ⟨x.2.2.2, (U_way hn a).2.1, a, b, c⟩
theorem LY_bnd (hn : n ≤ 40) {v : Int} {m : Nat} {x : Sh} (h : LY n t v m x) : 1 ≤ x.1 ∧ x.1 ≤ 40 ∧ 1 ≤ x.2.2.1 ∧ x.2.2.1 ≤ 360 := by
  obtain ⟨hb, -, h0, hd, -⟩ := U_bnd hn h.1
  have h3 := (wi_sub hd.2.1 h0).2.1
  have h40 := hd.1
  obtain ⟨a, b, c, d, e, f⟩ := hb
  omega
end QS
