/-! ===== the class finds the frontiers ===== -/
section FC
variable {s0 : SS} {W : Int} {k : Nat} {flat : Bool}
/-- one of two -/
theorem e3 {c j : Nat} {A B0 : List Sh} (hk : k < 40) (hc : c < 40) (hck : c ≠ k) (hj : j < 64) (hT : 0 ≤ s0 10 2 ∧ s0 10 2 ≤ 50000) (hG : 0 ≤ s0 10 3 ∧ s0 10 3 ≤ 50000) (hA : FLc s0 c A) (hOK : ∀ a ∈ A, sOK (a.1, a.2.1, a.2.2.1, a.2.2.2 ||| j)) (hlen0 : B0.length + A.length ≤ 64) (hfl : flat = false) :
    ∀ (B D : List Sh) (f : Nat) (s : SS), A = D ++ B → B.length < f → TC s0 s W flat k (B0 ++ D.map (fun a => (a.1, a.2.1, a.2.2.1, a.2.2.2 ||| j))) →
      ∃ s', f_X1_tryEach_3 f (k : Int) (c : Int) (j : Int) W D.length s = some s' ∧ TC s0 s' W flat k (B0 ++ A.map (fun a => (a.1, a.2.1, a.2.2.1, a.2.2.2 ||| j))) := by
  intro B
  induction B with
  | nil =>
    intro D f s hD hf hs
    match f, hf with
    | f + 1, _ =>
      simp only [List.append_nil] at hD
      subst hD
      refine ⟨s, ?_, hs⟩
      have hL := TC_src hs hck hA
      show g_X1_tryEach_3 (f_X1_tryEach_3 f) _ _ _ _ _ _ = _
      unfold g_X1_tryEach_3 g_X1_tryEach_46
      rw [X1_sizeOf_v hc, bn_t, hL.1, if_pos (by omega)]
  | cons b B ih =>
    intro D f s hD hf hs
    match f, hf with
    | f + 1, hf =>
      simp only [List.length_cons] at hf
      have hL := TC_src hs hck hA
      have hlen : A.length = D.length + (B.length + 1) := by rw [hD]; simp
      have h64 := hA.2.2.2
      have hb : b ∈ A := by rw [hD]; simp
      have hrow : shAt s 11 (64 * c + D.length) b := by
        have := hL.2.1 D.length (by omega)
        rw [hD, getD_mid] at this
        exact this
      obtain ⟨n, n1, n2, s1, a1, a2⟩ := TC_step (x := (b.1, b.2.1, b.2.2.1, b.2.2.2 ||| j)) hk hT hG hs (hOK b hb) (by simp; omega) (fun q => by rw [hfl] at q; cases q)
      show ∃ s', g_X1_tryEach_3 (f_X1_tryEach_3 f) _ _ _ _ _ _ = _ ∧ _
      unfold g_X1_tryEach_3
      rw [X1_sizeOf_v hc, bn_t, hL.1, if_neg (by omega), n2, bn_t, wr_t (a := (c : Int) * 64) (by omega) (by omega), wr_t (a := (c : Int) * 64 + D.length) (by omega) (by omega), show (c : Int) * 64 + D.length = ((64 * c + D.length : Nat) : Int) by omega,
        X3_setLike_v (by rw [shl11]; omega) (by rw [shl11]; omega) hrow (hA.2.2.1 b hb).2.2.2 hj, bn_t, a1, bn_t, sb_t, wr_t (by omega) (by omega)]
      have := ih (D ++ [b]) f s1 (by rw [hD]; simp) (by omega) (by rw [List.map_append, ← List.append_assoc]; exact a2)
      rw [show (D.length : Int) + 1 = (((D ++ [b]).length : Nat) : Int) by simp]
      exact this
/-- one of the first, all of the second -/
theorem e33 {k19 : Int → Int → Int → Int → Int → SS → Option SS} {kd : Int} {c1 c i : Nat} {a : Sh} {A B0 : List Sh} (hk : k < 40) (hc1 : c1 < 40) (hck1 : c1 ≠ k) (hc : c < 40) (hck : c ≠ k) (hkd : kd = 1 ∨ kd = 2) (h3 : s0 3 k = kd) (hT : 0 ≤ s0 10 2 ∧ s0 10 2 ≤ 50000) (hG : 0 ≤ s0 10 3 ∧ s0 10 3 ≤ 50000) (hi : i < 64) (ha0 : shAt s0 11 (64 * c1 + i) a) (ha : sOK a) (ha1 : 1 ≤ a.1) (hA : FLc s0 c A) (hOK : ∀ b ∈ A, sOK (bth kd a b)) (hlen0 : B0.length + A.length ≤ 64) (hfl : flat = false) :
    ∀ (B D : List Sh) (f : Nat) (s : SS), A = D ++ B → B.length < f → TC s0 s W flat k (B0 ++ D.map (fun b => bth kd a b)) →
      ∃ s', f_X1_tryPairs_33 k19 f (k : Int) W (c1 : Int) (c : Int) (i : Int) D.length s = g_X1_tryPairs_91 k19 (k : Int) W (c1 : Int) (c : Int) (i : Int) s' ∧ TC s0 s' W flat k (B0 ++ A.map (fun b => bth kd a b)) := by
  intro B
  induction B with
  | nil =>
    intro D f s hD hf hs
    match f, hf with
    | f + 1, _ =>
      simp only [List.append_nil] at hD
      subst hD
      refine ⟨s, ?_, hs⟩
      have hL := TC_src hs hck hA
      show g_X1_tryPairs_33 k19 (f_X1_tryPairs_33 k19 f) _ _ _ _ _ _ _ = _
      unfold g_X1_tryPairs_33
      rw [X1_sizeOf_v hc, bn_t, hL.1, if_pos (by omega)]
  | cons b B ih =>
    intro D f s hD hf hs
    match f, hf with
    | f + 1, hf =>
      simp only [List.length_cons] at hf
      have hL := TC_src hs hck hA
      have hlen : A.length = D.length + (B.length + 1) := by rw [hD]; simp
      have h64 := hA.2.2.2
      have hb : b ∈ A := by rw [hD]; simp
      have hrow : shAt s 11 (64 * c + D.length) b := by
        have := hL.2.1 D.length (by omega)
        rw [hD, getD_mid] at this
        exact this
      have hrow2 : shAt s 11 (64 * c1 + i) a := shAt_ext ha0 (fun z _ _ => hs.2.2.2 z _ (fun q => by omega) (fun q => by omega) (fun _ => by omega))
      have e3k : s 3 k = kd := by rw [hs.2.2.2 3 k (fun q => by cases q) (fun q => by cases q) (fun q => by omega)]; exact h3
      obtain ⟨n, n1, n2, s1, a1, a2⟩ := TC_step (x := bth kd a b) hk hT hG hs (hOK b hb) (by simp; omega) (fun q => by rw [hfl] at q; cases q)
      show ∃ s', g_X1_tryPairs_33 k19 (f_X1_tryPairs_33 k19 f) _ _ _ _ _ _ _ = _ ∧ _
      unfold g_X1_tryPairs_33
      rw [X1_sizeOf_v hc, bn_t, hL.1, if_neg (by omega), n2, bn_t, gx_d (by omega) (by omega), tn_c, e3k, wr_t (a := (c1 : Int) * 64) (by omega) (by omega), wr_t (a := (c1 : Int) * 64 + i) (by omega) (by omega), wr_t (a := (c : Int) * 64) (by omega) (by omega), wr_t (a := (c : Int) * 64 + D.length) (by omega) (by omega),
        show (c : Int) * 64 + D.length = ((64 * c + D.length : Nat) : Int) by omega, show (c1 : Int) * 64 + i = ((64 * c1 + i : Nat) : Int) by omega,
        X3_both_v (k := 0) hkd (by rw [shl11]; omega) (by rw [shl11]; omega) (by rw [shl11]; omega) hrow2 hrow ha (hA.2.2.1 b hb) ha1, bn_t, a1, bn_t, sb_t, wr_t (by omega) (by omega)]
      have := ih (D ++ [b]) f s1 (by rw [hD]; simp) (by omega) (by rw [List.map_append, ← List.append_assoc]; exact a2)
      rw [show (D.length : Int) + 1 = (((D ++ [b]).length : Nat) : Int) by simp]
      exact this
theorem e19 {kd : Int} {c1 c : Nat} {A1 A : List Sh} (hk : k < 40) (hc1 : c1 < 40) (hck1 : c1 ≠ k) (hc : c < 40) (hck : c ≠ k) (hkd : kd = 1 ∨ kd = 2) (h3 : s0 3 k = kd) (hT : 0 ≤ s0 10 2 ∧ s0 10 2 ≤ 50000) (hG : 0 ≤ s0 10 3 ∧ s0 10 3 ≤ 50000) (hA1 : FLc s0 c1 A1) (h1 : ∀ a ∈ A1, 1 ≤ a.1) (hA : FLc s0 c A) (hOK : ∀ a ∈ A1, ∀ b ∈ A, sOK (bth kd a b)) (hlen0 : (A1.flatMap (fun a => A.map (fun b => bth kd a b))).length ≤ 64) (hfl : flat = false) :
    ∀ (B D : List Sh) (f : Nat) (s : SS), A1 = D ++ B → B.length < f → TC s0 s W flat k (D.flatMap (fun a => A.map (fun b => bth kd a b))) →
      ∃ s', f_X1_tryPairs_19 f (k : Int) W (c1 : Int) (c : Int) D.length s = some s' ∧ TC s0 s' W flat k (A1.flatMap (fun a => A.map (fun b => bth kd a b))) := by
  intro B
  induction B with
  | nil =>
    intro D f s hD hf hs
    match f, hf with
    | f + 1, _ =>
      simp only [List.append_nil] at hD
      subst hD
      refine ⟨s, ?_, hs⟩
      have hL := TC_src hs hck1 hA1
      show g_X1_tryPairs_19 (f_X1_tryPairs_19 f) _ _ _ _ _ _ = _
      unfold g_X1_tryPairs_19 g_X1_tryPairs_97
      rw [X1_sizeOf_v hc1, bn_t, hL.1, if_pos (by omega)]
  | cons b B ih =>
    intro D f s hD hf hs
    match f, hf with
    | f + 1, hf =>
      simp only [List.length_cons] at hf
      have hL := TC_src hs hck1 hA1
      have hlen : A1.length = D.length + (B.length + 1) := by rw [hD]; simp
      have h64 := hA1.2.2.2
      have hA64 := hA.2.2.2
      have hb : b ∈ A1 := by rw [hD]; simp
      have hl2 : (D.flatMap (fun a => A.map (fun b => bth kd a b))).length + A.length ≤ 64 := by
        rw [hD, List.flatMap_append, List.flatMap_cons, List.length_append, List.length_append, List.length_map] at hlen0
        omega
      have hrow : shAt s0 11 (64 * c1 + D.length) b := by
        have := hA1.2.1 D.length (by omega)
        rw [hD, getD_mid] at this
        exact this
      show ∃ s', g_X1_tryPairs_19 (f_X1_tryPairs_19 f) _ _ _ _ _ _ = _ ∧ _
      unfold g_X1_tryPairs_19
      rw [X1_sizeOf_v hc1, bn_t, hL.1, if_neg (by omega)]
      obtain ⟨s1, a1, a2⟩ := e33 (k19 := f_X1_tryPairs_19 f) (i := D.length) (B0 := D.flatMap (fun a => A.map (fun b => bth kd a b))) hk hc1 hck1 hc hck hkd h3 hT hG (by omega) hrow (hA1.2.2.1 b hb) (h1 b hb) hA (hOK b hb) hl2 hfl A [] FU s rfl (by unfold FU; omega) (by simpa using hs)
      have a1' : f_X1_tryPairs_33 (f_X1_tryPairs_19 f) FU (k : Int) W (c1 : Int) (c : Int) (D.length : Int) 0 s = _ := a1
      rw [a1']
      unfold g_X1_tryPairs_91
      rw [sb_t, wr_t (by omega) (by omega)]
      have := ih (D ++ [b]) f s1 (by rw [hD]; simp) (by omega) (by rw [List.flatMap_append]; simpa using a2)
      rw [show (D.length : Int) + 1 = (((D ++ [b]).length : Nat) : Int) by simp]
      exact this
/-- pushed, or kept to one line -/
theorem e11 {kd : Int} {n c : Nat} {A : List Sh} (hk : k < 40) (hc : c < 40) (hck : c ≠ k) (hkd : kd = 4 ∨ kd = 5) (h3 : s0 3 k = kd) (h9 : s0 9 k = ((if kd = 4 then n else 0 : Nat) : Int)) (hn : n ≤ 100) (hT : 0 ≤ s0 10 2 ∧ s0 10 2 ≤ 50000) (hG : 0 ≤ s0 10 3 ∧ s0 10 3 ≤ 50000) (hA : FLc s0 c A) (h1 : ∀ a ∈ A, 1 ≤ a.1) (hOK : ∀ a ∈ A, sOK (psh (if kd = 4 then n else 0) a)) (hfl : flat = decide (kd = 5)) :
    ∀ (B D : List Sh) (f : Nat) (s : SS), A = D ++ B → B.length < f → TC s0 s W flat k (D.map (psh (if kd = 4 then n else 0))) →
      ∃ s', f_X1_tryAlone_11 f (k : Int) W (c : Int) D.length s = some s' ∧ TC s0 s' W flat k (A.map (psh (if kd = 4 then n else 0))) := by
  intro B
  induction B with
  | nil =>
    intro D f s hD hf hs
    match f, hf with
    | f + 1, _ =>
      simp only [List.append_nil] at hD
      subst hD
      refine ⟨s, ?_, hs⟩
      have hL := TC_src hs hck hA
      show g_X1_tryAlone_11 (f_X1_tryAlone_11 f) _ _ _ _ _ = _
      unfold g_X1_tryAlone_11 g_X1_tryAlone_119
      rw [X1_sizeOf_v hc, bn_t, hL.1, if_pos (by omega)]
  | cons b B ih =>
    intro D f s hD hf hs
    match f, hf with
    | f + 1, hf =>
      simp only [List.length_cons] at hf
      have hL := TC_src hs hck hA
      have hlen : A.length = D.length + (B.length + 1) := by rw [hD]; simp
      have h64 := hA.2.2.2
      have hb : b ∈ A := by rw [hD]; simp
      have hrow : shAt s 11 (64 * c + D.length) b := by
        have := hL.2.1 D.length (by omega)
        rw [hD, getD_mid] at this
        exact this
      have e3k : s 3 k = kd := by rw [hs.2.2.2 3 k (fun q => by cases q) (fun q => by cases q) (fun q => by omega)]; exact h3
      have e9k : s 9 k = ((if kd = 4 then n else 0 : Nat) : Int) := by rw [hs.2.2.2 9 k (fun q => by cases q) (fun q => by cases q) (fun q => by omega)]; exact h9
      show ∃ s', g_X1_tryAlone_11 (f_X1_tryAlone_11 f) _ _ _ _ _ = _ ∧ _
      unfold g_X1_tryAlone_11
      rw [X1_sizeOf_v hc, bn_t, hL.1, if_neg (by omega), sb_t, wr_t (a := (c : Int) * 64) (by omega) (by omega), wr_t (a := (c : Int) * 64 + D.length) (by omega) (by omega), gx_d (by omega) (by omega), tn_c, e3k, show (c : Int) * 64 + D.length = ((64 * c + D.length : Nat) : Int) by omega]
      -- it is tried
      have tri : (flat = true → b.1 ≤ 1) → ∃ s', g_X1_tryAlone_79 (f_X1_tryAlone_11 f) (k : Int) W (c : Int) (D.length : Int) ((64 * c + D.length : Nat) : Int) s = some s' ∧ TC s0 s' W flat k (A.map (psh (if kd = 4 then n else 0))) := by
        intro hfb
        obtain ⟨m, n1, n2, s1, a1, a2⟩ := TC_step (x := psh (if kd = 4 then n else 0) b) hk hT hG hs (hOK b hb) (by simp; omega) hfb
        unfold g_X1_tryAlone_79 g_X1_tryAlone_113
        rw [n2, bn_t, gx_d (by omega) (by omega), gx_d (by omega) (by omega), tn_c, e3k, e9k, X3_push_v hkd (by rw [shl11]; omega) (by rw [shl11]; omega) hrow (hA.2.2.1 b hb) (by split <;> omega), bn_t, a1, bn_t, sb_t, wr_t (by omega) (by omega)]
        have := ih (D ++ [b]) f s1 (by rw [hD]; simp) (by omega) (by rw [List.map_append]; exact a2)
        rw [show (D.length : Int) + 1 = (((D ++ [b]).length : Nat) : Int) by simp]
        exact this
      by_cases h5 : kd = 5
      · rw [if_pos h5, X3_tell_v (by rw [shl11]; omega) hrow, bn_t, if_pos rfl]
        by_cases hb1 : b.1 = 1
        · rw [if_pos (by omega)]
          exact tri (fun _ => by omega)
        · have hb2 := h1 b hb
          rw [if_neg (by omega), sb_t, sb_t]
          obtain ⟨t1, t2, t3, t4⟩ := hs
          have hlenF := fold_len (W := W) (flat := flat) (D.map (psh (if kd = 4 then n else 0))) []
          simp only [List.length_nil, Nat.zero_add, List.length_map] at hlenF t2 t3
          rw [t2, wr_t (a := s0 10 2 + (D.length : Int) + 1) (by omega) (by omega), up_k (by decide), t3, wr_t (by omega) (by omega)]
          unfold g_X1_tryAlone_113
          rw [sb_t, wr_t (by omega) (by omega)]
          have etr : tr W flat ((D.map (psh (if kd = 4 then n else 0))).foldl (tr W flat) []) (psh (if kd = 4 then n else 0) b) = (D.map (psh (if kd = 4 then n else 0))).foldl (tr W flat) [] := by
            unfold tr
            rw [if_pos (Or.inr (Or.inl ⟨by rw [hfl]; simp [h5], by unfold psh; dsimp only; omega⟩))]
          have hTC : TC s0 (up (up s 10 2 (s0 10 2 + (D.length : Int) + 1)) 10 3 (s0 10 3 + ((D.length : Int) - ((D.map (psh (if kd = 4 then n else 0))).foldl (tr W flat) []).length) + 1)) W flat k ((D ++ [b]).map (psh (if kd = 4 then n else 0))) := by
            unfold TC
            rw [List.map_append, List.foldl_append]
            simp only [List.map_cons, List.map_nil, List.foldl_cons, List.foldl_nil, List.length_append, List.length_cons, List.length_nil, List.length_map]
            rw [etr]
            refine ⟨⟨by rw [up_q (by decide), up_q (by decide)]; exact t1.1, fun j hj => shAt_ext (t1.2.1 j hj) (fun z _ _ => by rw [up_q (by omega), up_q (by omega)]), t1.2.2.1, t1.2.2.2⟩, ?_, ?_, fun q j x0 x1 x2 => ?_⟩
            · rw [up_k (by decide), up_s]; omega
            · rw [up_s]; omega
            · by_cases hq : q = 10
              · subst hq; rw [up_k (x0 rfl).2, up_k (x0 rfl).1]; exact t4 10 j x0 x1 x2
              · rw [up_q hq, up_q hq]; exact t4 q j x0 x1 x2
          have := ih (D ++ [b]) f _ (by rw [hD]; simp) (by omega) hTC
          rw [show (D.length : Int) + 1 = (((D ++ [b]).length : Nat) : Int) by simp]
          exact this
      · rw [if_neg h5]
        exact tri (fun q => by rw [hfl] at q; simp [h5] at q)
end FC
