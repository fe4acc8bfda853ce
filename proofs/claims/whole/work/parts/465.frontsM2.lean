/-! ===== the model finds the frontiers ===== -/
/-- for part k the layouts C have been tried since s0 -/
def TS (s0 s : SS) (W : Int) (flat : Bool) (k : Nat) (C : List Sh) : Prop := FL s k (C.foldl (tr W flat) []) ∧ s 0 15 = s0 0 15 + C.length ∧ s 0 16 = s0 0 16 + (C.length - (C.foldl (tr W flat) []).length) ∧ ∀ q j, (q = 0 → j ≠ 15 ∧ j ≠ 16) → (q = 10 → j ≠ k) → (q = 9 → j < 64 * k ∨ 64 * k + 64 ≤ j) → s q j = s0 q j
section FM
variable {s0 : SS} {W : Int} {k : Nat} {kd : Int}
theorem TS_step {s : SS} {C : List Sh} {x : Sh} (hk : k < 40) (h17 : s0 0 17 = W) (h2 : s0 2 k = kd) (hT : 0 ≤ s0 0 15 ∧ s0 0 15 ≤ 100000) (hG : 0 ≤ s0 0 16 ∧ s0 0 16 ≤ 100000) (h : TS s0 s W (decide (kd = 5)) k C) (hx : sOK x) (hl : C.length < 64) :
    ∃ s', f_X7_tries k (pk x : Int) s = some s' ∧ TS s0 s' W (decide (kd = 5)) k (C ++ [x]) := by
  obtain ⟨h1, h15, h16, hf⟩ := h
  have hlen := fold_len (W := W) (flat := decide (kd = 5)) C []
  simp only [List.length_nil, Nat.zero_add] at hlen
  obtain ⟨s', a1, a2, a3, a4, a5⟩ := X7_tries_v (W := W) (kd := kd) (T := s 0 15) (G := s 0 16) hk hx h1 (by omega) (by rw [hf 0 17 (fun _ => by decide) (fun q => by cases q) (fun q => by cases q)]; exact h17) (by rw [hf 2 k (fun q => by cases q) (fun q => by cases q) (fun q => by cases q)]; exact h2) rfl rfl (by rw [h15]; omega) (by rw [h16]; omega)
  refine ⟨s', a1, ?_⟩
  have hlen2 := fold_len (W := W) (flat := decide (kd = 5)) (C ++ [x]) []
  simp only [List.length_nil, Nat.zero_add] at hlen2
  have hlen3 := tr_len W (decide (kd = 5)) (C.foldl (tr W (decide (kd = 5))) []) x
  unfold TS
  rw [List.foldl_append]
  simp only [List.foldl_cons, List.foldl_nil, List.length_append, List.length_cons, List.length_nil]
  refine ⟨a2, by rw [a3, h15]; omega, by rw [a4, h16]; omega, fun q j x0 x1 x2 => by rw [a5 q j x0 x1 x2, hf q j x0 x1 x2]⟩
theorem TS_src {s : SS} {C L : List Sh} {flat : Bool} {p : Nat} (h : TS s0 s W flat k C) (hp : p ≠ k) (hL : FL s0 p L) : FL s p L := by
  obtain ⟨-, -, -, hf⟩ := h
  obtain ⟨b1, b2, b3, b4⟩ := hL
  refine ⟨by rw [hf 10 p (fun q => by cases q) (fun _ => hp) (fun q => by cases q)]; exact b1, fun j hj => ?_, b3, b4⟩
  rw [hf 9 _ (fun q => by cases q) (fun q => by cases q) (fun _ => by omega)]
  exact b2 j hj
theorem getD_mid {A : List Sh} {b : Sh} {B : List Sh} : (A ++ b :: B).getD A.length d0 = b := by simp [List.getD_eq_getElem?_getD]
/-- pushed, or kept to one line -/
theorem m107 {k22 : Int → SS → Option SS} {n : Nat} {A : List Sh} (hk : k + 1 < 40) (h17 : s0 0 17 = W) (h2 : s0 2 k = kd) (hkd : kd = 4 ∨ kd = 5) (h3 : kd = 4 → s0 3 k = n) (hn : n < 512) (hT : 0 ≤ s0 0 15 ∧ s0 0 15 ≤ 100000) (hG : 0 ≤ s0 0 16 ∧ s0 0 16 ≤ 100000) (hA : FL s0 (k + 1) A) (hOK : ∀ a ∈ A, sOK (psh (if kd = 4 then n else 0) a)) :
    ∀ (B D : List Sh) (f : Nat) (s : SS), A = D ++ B → B.length < f → TS s0 s W (decide (kd = 5)) k (D.map (psh (if kd = 4 then n else 0))) →
      ∃ s', f_X7_findsFronts_107 k22 f k D.length s = g_X7_findsFronts_166 k22 k s' ∧ TS s0 s' W (decide (kd = 5)) k (A.map (psh (if kd = 4 then n else 0))) := by
  intro B
  induction B with
  | nil =>
    intro D f s hD hf hs
    match f, hf with
    | f + 1, _ =>
      simp only [List.append_nil] at hD
      subst hD
      refine ⟨s, ?_, hs⟩
      have hL := TS_src hs (by omega) hA
      show g_X7_findsFronts_107 k22 (f_X7_findsFronts_107 k22 f) _ _ _ = _
      unfold g_X7_findsFronts_107
      rw [wr_t (by omega) (by omega), gx_d (by omega) (by omega), show ((k : Int) + 1).toNat = k + 1 by omega, hL.1, if_pos (by omega)]
  | cons b B ih =>
    intro D f s hD hf hs
    match f, hf with
    | f + 1, hf =>
      simp only [List.length_cons] at hf
      have hL := TS_src hs (by omega) hA
      have hlen : A.length = D.length + (B.length + 1) := by rw [hD]; simp
      have h64 := hA.2.2.2
      have hb : b ∈ A := by rw [hD]; simp
      have hrow : s 9 (64 * (k + 1) + D.length) = (pk b : Int) := by
        rw [hL.2.1 D.length (by omega), hD, getD_mid]
      obtain ⟨s1, a1, a2⟩ := TS_step (x := psh (if kd = 4 then n else 0) b) (by omega) h17 h2 hT hG hs (hOK b hb) (by simp; omega)
      show ∃ s', g_X7_findsFronts_107 k22 (f_X7_findsFronts_107 k22 f) _ _ _ = _ ∧ _
      unfold g_X7_findsFronts_107 g_X7_findsFronts_154
      have e2 : s 2 k = kd := by rw [hs.2.2.2 2 k (fun q => by cases q) (fun q => by cases q) (fun q => by cases q)]; exact h2
      have e3 : s 3 k = s0 3 k := hs.2.2.2 3 k (fun q => by cases q) (fun q => by cases q) (fun q => by cases q)
      rw [wr_t (a := (k : Int) + 1) (by omega) (by omega), gx_d (by omega) (by omega), show ((k : Int) + 1).toNat = k + 1 by omega, hL.1, if_neg (by omega), wr_t (a := 64 * ((k : Int) + 1)) (by omega) (by omega), wr_t (a := 64 * ((k : Int) + 1) + D.length) (by omega) (by omega), gx_d (by omega) (by omega), gx_d (by omega) (by omega), tn_c, e2,
        show (64 * ((k : Int) + 1) + D.length).toNat = 64 * (k + 1) + D.length by omega, hrow]
      have hps : ∀ z : Int, z = ((if kd = 4 then n else 0 : Nat) : Int) → f_X7_pushed (pk b : Int) z = some (pk (psh (if kd = 4 then n else 0) b) : Int) := by
        intro z hz
        rw [hz]
        exact X7_pushed_pk (hA.2.2.1 b hb) (by split <;> omega) (hOK b hb)
      have fin : ∃ s', f_X7_findsFronts_107 k22 f k ((D.length : Int) + 1) s1 = g_X7_findsFronts_166 k22 k s' ∧ TS s0 s' W (decide (kd = 5)) k (A.map (psh (if kd = 4 then n else 0))) := by
        have := ih (D ++ [b]) f s1 (by rw [hD]; simp) (by omega) (by rw [List.map_append]; exact a2)
        rw [show (D.length : Int) + 1 = (((D ++ [b]).length : Nat) : Int) by simp]
        exact this
      rcases hkd with h4 | h5
      · rw [if_pos h4, gx_d (by omega) (by omega), e3, h3 h4, hps n (by rw [if_pos h4]), bn_t, a1, bn_t, sb_t, wr_t (by omega) (by omega)]
        exact fin
      · rw [if_neg (by rw [h5]; decide), hps 0 (by rw [if_neg (by rw [h5]; decide)]; rfl), bn_t, a1, bn_t, sb_t, wr_t (by omega) (by omega)]
        exact fin
/-- the first one of two -/
theorem m11 {j : Nat} {A : List Sh} (hk : k + 1 < 40) (h17 : s0 0 17 = W) (h2 : s0 2 k = kd) (hT : 0 ≤ s0 0 15 ∧ s0 0 15 ≤ 100000) (hG : 0 ≤ s0 0 16 ∧ s0 0 16 ≤ 100000) (hA : FL s0 (k + 1) A) :
    ∀ (B D : List Sh) (f : Nat) (s : SS), A = D ++ B → B.length < f → TS s0 s W (decide (kd = 5)) k D →
      ∃ s', f_X7_triesChoice_11 f k (j : Int) D.length s = g_X7_triesChoice_47 k (j : Int) s' ∧ TS s0 s' W (decide (kd = 5)) k A := by
  intro B
  induction B with
  | nil =>
    intro D f s hD hf hs
    match f, hf with
    | f + 1, _ =>
      simp only [List.append_nil] at hD
      subst hD
      refine ⟨s, ?_, hs⟩
      have hL := TS_src hs (by omega) hA
      show g_X7_triesChoice_11 (f_X7_triesChoice_11 f) _ _ _ _ = _
      unfold g_X7_triesChoice_11
      rw [wr_t (by omega) (by omega), gx_d (by omega) (by omega), show ((k : Int) + 1).toNat = k + 1 by omega, hL.1, if_pos (by omega)]
  | cons b B ih =>
    intro D f s hD hf hs
    match f, hf with
    | f + 1, hf =>
      simp only [List.length_cons] at hf
      have hL := TS_src hs (by omega) hA
      have hlen : A.length = D.length + (B.length + 1) := by rw [hD]; simp
      have h64 := hA.2.2.2
      have hb : b ∈ A := by rw [hD]; simp
      have hrow : s 9 (64 * (k + 1) + D.length) = (pk b : Int) := by
        rw [hL.2.1 D.length (by omega), hD, getD_mid]
      obtain ⟨s1, a1, a2⟩ := TS_step (x := b) (by omega) h17 h2 hT hG hs (hA.2.2.1 b hb) (by omega)
      show ∃ s', g_X7_triesChoice_11 (f_X7_triesChoice_11 f) _ _ _ _ = _ ∧ _
      unfold g_X7_triesChoice_11
      rw [wr_t (a := (k : Int) + 1) (by omega) (by omega), gx_d (by omega) (by omega), show ((k : Int) + 1).toNat = k + 1 by omega, hL.1, if_neg (by omega), wr_t (a := 64 * ((k : Int) + 1)) (by omega) (by omega), wr_t (a := 64 * ((k : Int) + 1) + D.length) (by omega) (by omega), gx_d (by omega) (by omega),
        show (64 * ((k : Int) + 1) + D.length).toNat = 64 * (k + 1) + D.length by omega, hrow, a1, bn_t, sb_t, wr_t (by omega) (by omega)]
      have := ih (D ++ [b]) f s1 (by rw [hD]; simp) (by omega) a2
      rw [show (D.length : Int) + 1 = (((D ++ [b]).length : Nat) : Int) by simp]
      exact this
/-- the second one of two, with its bit -/
theorem m49 {j c : Nat} {A B0 : List Sh} (hk : k < 40) (hc : c < 40) (hck : c ≠ k) (hj : j < 6) (h17 : s0 0 17 = W) (h2 : s0 2 k = kd) (h7 : s0 7 k = c) (hT : 0 ≤ s0 0 15 ∧ s0 0 15 ≤ 100000) (hG : 0 ≤ s0 0 16 ∧ s0 0 16 ≤ 100000) (hA : FL s0 c A) (hOK : ∀ a ∈ A, sOK (a.1, a.2.1, a.2.2.1, a.2.2.2 ||| 2 ^ j)) (hlen0 : B0.length + A.length ≤ 64) :
    ∀ (B D : List Sh) (f : Nat) (s : SS), A = D ++ B → B.length < f → TS s0 s W (decide (kd = 5)) k (B0 ++ D.map (fun a => (a.1, a.2.1, a.2.2.1, a.2.2.2 ||| 2 ^ j))) →
      ∃ s', f_X7_triesChoice_49 f k ((2 ^ j : Nat) : Int) D.length s = some s' ∧ TS s0 s' W (decide (kd = 5)) k (B0 ++ A.map (fun a => (a.1, a.2.1, a.2.2.1, a.2.2.2 ||| 2 ^ j))) := by
  intro B
  induction B with
  | nil =>
    intro D f s hD hf hs
    match f, hf with
    | f + 1, _ =>
      simp only [List.append_nil] at hD
      subst hD
      refine ⟨s, ?_, hs⟩
      have hL := TS_src hs hck hA
      have e7 : s 7 k = c := by rw [hs.2.2.2 7 k (fun q => by cases q) (fun q => by cases q) (fun q => by cases q)]; exact h7
      show g_X7_triesChoice_49 (f_X7_triesChoice_49 f) _ _ _ _ = _
      unfold g_X7_triesChoice_49 g_X7_triesChoice_96
      rw [gx_d (by omega) (by omega), tn_c, e7, gx_d (by omega) (by omega), tn_c, hL.1, if_pos (by omega)]
  | cons b B ih =>
    intro D f s hD hf hs
    match f, hf with
    | f + 1, hf =>
      simp only [List.length_cons] at hf
      have hL := TS_src hs hck hA
      have e7 : s 7 k = c := by rw [hs.2.2.2 7 k (fun q => by cases q) (fun q => by cases q) (fun q => by cases q)]; exact h7
      have hlen : A.length = D.length + (B.length + 1) := by rw [hD]; simp
      have h64 := hA.2.2.2
      have hb : b ∈ A := by rw [hD]; simp
      have hrow : s 9 (64 * c + D.length) = (pk b : Int) := by
        rw [hL.2.1 D.length (by omega), hD, getD_mid]
      obtain ⟨s1, a1, a2⟩ := TS_step (x := (b.1, b.2.1, b.2.2.1, b.2.2.2 ||| 2 ^ j)) hk h17 h2 hT hG hs (hOK b hb) (by simp; omega)
      show ∃ s', g_X7_triesChoice_49 (f_X7_triesChoice_49 f) _ _ _ _ = _ ∧ _
      unfold g_X7_triesChoice_49
      rw [gx_d (by omega) (by omega), tn_c, e7, gx_d (by omega) (by omega), tn_c, hL.1, if_neg (by omega), gx_d (by omega) (by omega), wr_t (a := 64 * (c : Int)) (by omega) (by omega), wr_t (a := 64 * (c : Int) + D.length) (by omega) (by omega), gx_d (by omega) (by omega),
        show (64 * (c : Int) + D.length).toNat = 64 * c + D.length by omega, hrow, pkk_bit (hA.2.2.1 b hb) hj, a1, bn_t, sb_t, wr_t (by omega) (by omega)]
      have := ih (D ++ [b]) f s1 (by rw [hD]; simp) (by omega) (by rw [List.map_append, ← List.append_assoc]; exact a2)
      rw [show (D.length : Int) + 1 = (((D ++ [b]).length : Nat) : Int) by simp]
      exact this
/-- one of the first, all of the second -/
theorem m28 {k14 : Int → Int → Int → Int → SS → Option SS} {c i : Nat} {a : Sh} {A B0 : List Sh} (hk : k + 1 < 40) (hc : c < 40) (hck : c ≠ k) (h17 : s0 0 17 = W) (h2 : s0 2 k = kd) (hT : 0 ≤ s0 0 15 ∧ s0 0 15 ≤ 100000) (hG : 0 ≤ s0 0 16 ∧ s0 0 16 ≤ 100000) (ha0 : i < 64 ∧ s0 9 (64 * (k + 1) + i) = (pk a : Int)) (ha : sOK a) (ha1 : 1 ≤ a.1) (hA : FL s0 c A) (hOK : ∀ b ∈ A, sOK (bth kd a b)) (hlen0 : B0.length + A.length ≤ 64) :
    ∀ (B D : List Sh) (f : Nat) (s : SS), A = D ++ B → B.length < f → TS s0 s W (decide (kd = 5)) k (B0 ++ D.map (fun b => bth kd a b)) →
      ∃ s', f_X7_triesBoth_28 k14 f k ((k : Int) + 1) c i D.length s = g_X7_triesBoth_83 k14 k ((k : Int) + 1) c i s' ∧ TS s0 s' W (decide (kd = 5)) k (B0 ++ A.map (fun b => bth kd a b)) := by
  intro B
  induction B with
  | nil =>
    intro D f s hD hf hs
    match f, hf with
    | f + 1, _ =>
      simp only [List.append_nil] at hD
      subst hD
      refine ⟨s, ?_, hs⟩
      have hL := TS_src hs hck hA
      show g_X7_triesBoth_28 k14 (f_X7_triesBoth_28 k14 f) _ _ _ _ _ _ = _
      unfold g_X7_triesBoth_28
      rw [gx_d (by omega) (by omega), tn_c, hL.1, if_pos (by omega)]
  | cons b B ih =>
    intro D f s hD hf hs
    match f, hf with
    | f + 1, hf =>
      simp only [List.length_cons] at hf
      have hL := TS_src hs hck hA
      have hlen : A.length = D.length + (B.length + 1) := by rw [hD]; simp
      have h64 := hA.2.2.2
      have hb : b ∈ A := by rw [hD]; simp
      have hrow : s 9 (64 * c + D.length) = (pk b : Int) := by
        rw [hL.2.1 D.length (by omega), hD, getD_mid]
      have hrow2 : s 9 (64 * (k + 1) + i) = (pk a : Int) := by
        rw [hs.2.2.2 9 _ (fun q => by cases q) (fun q => by cases q) (fun _ => by omega)]; exact ha0.2
      have e2 : s 2 k = kd := by rw [hs.2.2.2 2 k (fun q => by cases q) (fun q => by cases q) (fun q => by cases q)]; exact h2
      obtain ⟨s1, a1, a2⟩ := TS_step (x := bth kd a b) (by omega) h17 h2 hT hG hs (hOK b hb) (by simp; omega)
      show ∃ s', g_X7_triesBoth_28 k14 (f_X7_triesBoth_28 k14 f) _ _ _ _ _ _ = _ ∧ _
      have hi := ha0.1
      unfold g_X7_triesBoth_28
      rw [gx_d (by omega) (by omega), tn_c, hL.1, if_neg (by omega), gx_d (by omega) (by omega), wr_t (a := 64 * ((k : Int) + 1)) (by omega) (by omega), wr_t (a := 64 * ((k : Int) + 1) + i) (by omega) (by omega), gx_d (by omega) (by omega), wr_t (a := 64 * (c : Int)) (by omega) (by omega), wr_t (a := 64 * (c : Int) + D.length) (by omega) (by omega), gx_d (by omega) (by omega),
        show (64 * (c : Int) + D.length).toNat = 64 * c + D.length by omega, show (64 * ((k : Int) + 1) + i).toNat = 64 * (k + 1) + i by omega, hrow, hrow2, tn_c, e2, X7_both_pk ha (hA.2.2.1 b hb) ha1 (hOK b hb), bn_t, a1, bn_t, sb_t, wr_t (by omega) (by omega)]
      have := ih (D ++ [b]) f s1 (by rw [hD]; simp) (by omega) (by rw [List.map_append, ← List.append_assoc]; exact a2)
      rw [show (D.length : Int) + 1 = (((D ++ [b]).length : Nat) : Int) by simp]
      exact this
theorem m14 {c : Nat} {A1 A : List Sh} (hk : k + 1 < 40) (hc : c < 40) (hck : c ≠ k) (h17 : s0 0 17 = W) (h2 : s0 2 k = kd) (hT : 0 ≤ s0 0 15 ∧ s0 0 15 ≤ 100000) (hG : 0 ≤ s0 0 16 ∧ s0 0 16 ≤ 100000) (hA1 : FL s0 (k + 1) A1) (h1 : ∀ a ∈ A1, 1 ≤ a.1) (hA : FL s0 c A) (hOK : ∀ a ∈ A1, ∀ b ∈ A, sOK (bth kd a b)) (hlen0 : (A1.flatMap (fun a => A.map (fun b => bth kd a b))).length ≤ 64) :
    ∀ (B D : List Sh) (f : Nat) (s : SS), A1 = D ++ B → B.length < f → TS s0 s W (decide (kd = 5)) k (D.flatMap (fun a => A.map (fun b => bth kd a b))) →
      ∃ s', f_X7_triesBoth_14 f k ((k : Int) + 1) c D.length s = some s' ∧ TS s0 s' W (decide (kd = 5)) k (A1.flatMap (fun a => A.map (fun b => bth kd a b))) := by
  intro B
  induction B with
  | nil =>
    intro D f s hD hf hs
    match f, hf with
    | f + 1, _ =>
      simp only [List.append_nil] at hD
      subst hD
      refine ⟨s, ?_, hs⟩
      have hL := TS_src hs (by omega) hA1
      show g_X7_triesBoth_14 (f_X7_triesBoth_14 f) _ _ _ _ _ = _
      unfold g_X7_triesBoth_14 g_X7_triesBoth_89
      rw [gx_d (by omega) (by omega), show ((k : Int) + 1).toNat = k + 1 by omega, hL.1, if_pos (by omega)]
  | cons b B ih =>
    intro D f s hD hf hs
    match f, hf with
    | f + 1, hf =>
      simp only [List.length_cons] at hf
      have hL := TS_src hs (by omega) hA1
      have hlen : A1.length = D.length + (B.length + 1) := by rw [hD]; simp
      have h64 := hA1.2.2.2
      have hb : b ∈ A1 := by rw [hD]; simp
      have hl2 : (D.flatMap (fun a => A.map (fun b => bth kd a b))).length + A.length ≤ 64 := by
        rw [hD, List.flatMap_append, List.flatMap_cons, List.length_append, List.length_append, List.length_map] at hlen0
        omega
      have hA64 := hA.2.2.2
      show ∃ s', g_X7_triesBoth_14 (f_X7_triesBoth_14 f) _ _ _ _ _ = _ ∧ _
      unfold g_X7_triesBoth_14
      rw [gx_d (by omega) (by omega), show ((k : Int) + 1).toNat = k + 1 by omega, hL.1, if_neg (by omega)]
      obtain ⟨s1, a1, a2⟩ := m28 (k14 := f_X7_triesBoth_14 f) (i := D.length) (a := b) (B0 := D.flatMap (fun a => A.map (fun b => bth kd a b))) hk hc hck h17 h2 hT hG ⟨by omega, by rw [hA1.2.1 D.length (by omega), hD, getD_mid]⟩ (hA1.2.2.1 b hb) (h1 b hb) hA (hOK b hb) hl2 A [] FU s rfl (by unfold FU; omega) (by simpa using hs)
      have a1' : f_X7_triesBoth_28 (f_X7_triesBoth_14 f) FU k ((k : Int) + 1) c D.length 0 s = _ := a1
      rw [a1']
      unfold g_X7_triesBoth_83
      rw [sb_t, wr_t (by omega) (by omega)]
      have := ih (D ++ [b]) f s1 (by rw [hD]; simp) (by omega) (by rw [List.flatMap_append]; simpa using a2)
      rw [show (D.length : Int) + 1 = (((D ++ [b]).length : Nat) : Int) by simp]
      exact this
end FM
