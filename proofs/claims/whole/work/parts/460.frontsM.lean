/-! ===== the frontiers; how the model finds them ===== -/
def cand (kd nu : Nat → Int) (k : Nat) (A B : List Sh) : List Sh :=
  if kd k = 0 then [(1, (nu k).toNat, (nu k).toNat, 0)]
  else if kd k = 3 then A ++ B.map (fun s => (s.1, s.2.1, s.2.2.1, s.2.2.2 ||| 2 ^ (nu k).toNat))
  else if kd k = 1 ∨ kd k = 2 then A.flatMap (fun a => B.map (fun b => bth (kd k) a b))
  else A.map (psh (if kd k = 4 then (nu k).toNat else 0))
def flt (W : Int) (flat : Bool) (C : List Sh) : List Sh := C.foldl (tr W flat) []
def frF (W : Int) (kd nu : Nat → Int) (k : Nat) (A B : List Sh) : List Sh := flt W (decide (kd k = 5)) (cand kd nu k A B)
theorem cand_ok (kd nu : Nat → Int) : evOK kd (cand kd nu) := by
  intro k a b a' b' ha hb
  unfold cand
  by_cases h0 : kd k = 0
  · rw [if_pos h0, if_pos h0]
  · rw [if_neg h0, if_neg h0]
    have har : ar (kd k) ≠ 0 := by
      unfold ar
      rw [if_neg h0]
      split <;> decide
    rw [ha har]
    by_cases h3 : kd k = 3
    · rw [if_pos h3, if_pos h3, hb (by rw [h3]; decide)]
    · rw [if_neg h3, if_neg h3]
      by_cases h12 : kd k = 1 ∨ kd k = 2
      · rw [if_pos h12, if_pos h12, hb (by rcases h12 with h | h <;> rw [h] <;> decide)]
      · rw [if_neg h12, if_neg h12]
theorem frF_ok (W : Int) (kd nu : Nat → Int) : evOK kd (frF W kd nu) := fun k a b a' b' ha hb => by
  unfold frF
  rw [cand_ok kd nu k a b a' b' ha hb]
def FR (W : Int) (np : Nat) (kd nu : Nat → Int) : Nat → List Sh := EV [] (frF W kd nu) np kd
/-- what is tried for part k -/
def CD (W : Int) (np : Nat) (kd nu : Nat → Int) (k : Nat) : List Sh := cand kd nu k (FR W np kd nu (k + 1)) (FR W np kd nu (scn np kd k))
theorem FR_eq {W : Int} {np : Nat} {kd nu : Nat → Int} (hw : wfd np kd) {k : Nat} (hk : k < np) : FR W np kd nu k = flt W (decide (kd k = 5)) (CD W np kd nu k) := EV_eq hw (frF_ok W kd nu) hk
/-! ===== bounds ===== -/
def c3 (kd : Nat → Int) : Nat → Nat → Nat
  | 0, _ => 0
  | d + 1, k => (if kd k = 3 then 1 else 0) + c3 kd d (k + 1)
theorem c3_add (kd : Nat → Int) : ∀ (a b k : Nat), c3 kd (a + b) k = c3 kd a k + c3 kd b (k + a)
  | 0, b, k => by simp [c3]
  | a + 1, b, k => by
      rw [show a + 1 + b = (a + b) + 1 by omega]
      simp only [c3]
      rw [c3_add kd a b (k + 1), show k + 1 + a = k + (a + 1) by omega]
      omega
/-- the choices in part k -/
def cn (np : Nat) (kd : Nat → Int) (k : Nat) : Nat := c3 kd (wi np kd k) k
theorem c3_mono (kd : Nat → Int) {k e np : Nat} (h : k + e ≤ np) : c3 kd e k ≤ c3 kd np 0 := by
  have h1 := c3_add kd k (np - k) 0
  have h2 := c3_add kd e (np - k - e) k
  rw [show k + (np - k) = np by omega, Nat.zero_add] at h1
  rw [show e + (np - k - e) = np - k by omega] at h2
  omega
theorem c3_chs : ∀ P : List Pt, c3 (kdL P) P.length 0 = chs P
  | [] => rfl
  | x :: P => by
      have e : ∀ d k, c3 (kdL (x :: P)) d (k + 1) = c3 (kdL P) d k := by
        intro d
        induction d with
        | zero => intro k; rfl
        | succ d ih =>
          intro k
          simp only [c3]
          rw [ih (k + 1)]
          simp [kdL]
      simp only [List.length_cons, c3, chs]
      rw [e P.length 0, c3_chs P]
      simp [kdL]
theorem cn_eq {np : Nat} {kd : Nat → Int} (hw : wfd np kd) {k : Nat} (hk : k < np) : cn np kd k = (if kd k = 3 then 1 else 0) + (if ar (kd k) = 0 then 0 else cn np kd (k + 1)) + (if ar (kd k) = 2 then cn np kd (scn np kd k) else 0) := by
  unfold cn
  rcases ar_3 (kd k) with h | h | h
  · rw [wi_0 hw hk h, if_pos h, if_neg (show ¬ ar (kd k) = 2 by omega)]
    simp [c3]
  · rw [wi_1 hw hk h, if_neg (show ¬ ar (kd k) = 0 by omega), if_neg (show ¬ ar (kd k) = 2 by omega), Nat.add_comm 1]
    simp [c3]
  · rw [wi_2 hw hk h, if_neg (show ¬ ar (kd k) = 0 by omega), if_pos h, Nat.add_assoc, Nat.add_comm 1]
    simp only [c3]
    rw [c3_add]
    show _ + (_ + c3 kd _ (scn np kd k)) = _
    omega
/-- a document of parts: its numbers are as they should be -/
def DOK (np : Nat) (kd nu : Nat → Int) : Prop := np ≤ 40 ∧ wfd np kd ∧ c3 kd np 0 ≤ 6 ∧ ∀ k, k < np → (kd k = 0 ∧ 1 ≤ nu k ∧ nu k ≤ 9) ∨ ((kd k = 1 ∨ kd k = 2 ∨ kd k = 5) ∧ nu k = 0) ∨ (kd k = 3 ∧ nu k = c3 kd k 0 ∧ nu k < 6) ∨ (kd k = 4 ∧ 1 ≤ nu k ∧ nu k ≤ 9)
def bnd (np : Nat) (kd : Nat → Int) (k : Nat) (x : Sh) : Prop := 1 ≤ x.1 ∧ x.1 ≤ wi np kd k ∧ 1 ≤ x.2.1 ∧ x.2.1 ≤ x.2.2.1 ∧ x.2.2.1 ≤ 9 * wi np kd k ∧ x.2.2.2 < 64
theorem bnd_sOK {np : Nat} {kd nu : Nat → Int} (hd : DOK np kd nu) {k : Nat} (hk : k < np) {x : Sh} (h : bnd np kd k x) : sOK x := by
  have h1 := (wi_sub hd.2.1 hk).2.1
  have h2 := hd.1
  obtain ⟨a, b, c, d, e, f⟩ := h
  exact ⟨by omega, by omega, by omega, f⟩
theorem or64 {a b : Nat} (ha : a < 64) (hb : b < 64) : a ||| b < 64 := Nat.or_lt_two_pow (n := 6) ha hb
theorem cand_bnd {np : Nat} {kd nu : Nat → Int} (hd : DOK np kd nu) {k : Nat} (hk : k < np) {A B : List Sh} (hA : ar (kd k) ≠ 0 → ∀ x ∈ A, bnd np kd (k + 1) x) (hB : ar (kd k) = 2 → ∀ x ∈ B, bnd np kd (scn np kd k) x) : ∀ x ∈ cand kd nu k A B, bnd np kd k x := by
  obtain ⟨h40, hw, h6, hn⟩ := hd
  intro x hx
  unfold cand at hx
  rcases hn k hk with ⟨h, n1, n2⟩ | ⟨h, n1⟩ | ⟨h, n1, n2⟩ | ⟨h, n1, n2⟩
  · rw [if_pos h] at hx
    rw [List.mem_singleton.mp hx]
    have := wi_0 hw hk (by rw [h]; decide)
    unfold bnd
    rw [this]
    dsimp only
    omega
  · have h0 : kd k ≠ 0 := by rcases h with h | h | h <;> rw [h] <;> decide
    have h3 : kd k ≠ 3 := by rcases h with h | h | h <;> rw [h] <;> decide
    rw [if_neg h0, if_neg h3] at hx
    by_cases h12 : kd k = 1 ∨ kd k = 2
    · rw [if_pos h12] at hx
      have har : ar (kd k) = 2 := by rcases h12 with h | h <;> rw [h] <;> decide
      obtain ⟨a, ha, hx⟩ := List.mem_flatMap.mp hx
      obtain ⟨b, hb, rfl⟩ := List.mem_map.mp hx
      have pa := hA (by omega) a ha
      have pb := hB har b hb
      have hwi := wi_2 hw hk har
      obtain ⟨a1, a2, a3, a4, a5, a6⟩ := pa
      obtain ⟨b1, b2, b3, b4, b5, b6⟩ := pb
      have ho := or64 a6 b6
      unfold bnd bth
      rw [hwi]
      split <;> (dsimp only; omega)
    · rw [if_neg h12] at hx
      have h5 : kd k = 5 := by
        rcases h with h | h | h
        · exact absurd (Or.inl h) h12
        · exact absurd (Or.inr h) h12
        · exact h
      obtain ⟨a, ha, rfl⟩ := List.mem_map.mp hx
      have har : ar (kd k) = 1 := by rw [h5]; decide
      have pa := hA (by omega) a ha
      have hwi := wi_1 hw hk har
      obtain ⟨a1, a2, a3, a4, a5, a6⟩ := pa
      unfold bnd psh
      rw [hwi, h5, if_neg (by decide)]
      dsimp only
      omega
  · have h0 : kd k ≠ 0 := by rw [h]; decide
    rw [if_neg h0, if_pos h] at hx
    have har : ar (kd k) = 2 := by rw [h]; decide
    have hwi := wi_2 hw hk har
    rcases List.mem_append.mp hx with hx | hx
    · obtain ⟨a1, a2, a3, a4, a5, a6⟩ := hA (by omega) x hx
      unfold bnd
      rw [hwi]
      omega
    · obtain ⟨b, hb, rfl⟩ := List.mem_map.mp hx
      obtain ⟨b1, b2, b3, b4, b5, b6⟩ := hB har b hb
      have h2 : 2 ^ (nu k).toNat < 64 := Nat.pow_lt_pow_right (n := 6) (by decide) (by omega)
      have ho := or64 b6 h2
      unfold bnd
      rw [hwi]
      dsimp only
      omega
  · have h0 : kd k ≠ 0 := by rw [h]; decide
    have h3 : kd k ≠ 3 := by rw [h]; decide
    have h12 : ¬ (kd k = 1 ∨ kd k = 2) := by rw [h]; decide
    rw [if_neg h0, if_neg h3, if_neg h12, if_pos h] at hx
    obtain ⟨a, ha, rfl⟩ := List.mem_map.mp hx
    have har : ar (kd k) = 1 := by rw [h]; decide
    have pa := hA (by omega) a ha
    have hwi := wi_1 hw hk har
    obtain ⟨a1, a2, a3, a4, a5, a6⟩ := pa
    unfold bnd psh
    rw [hwi]
    dsimp only
    omega
theorem tr_mem {W : Int} {flat : Bool} {L : List Sh} {x y : Sh} (h : y ∈ tr W flat L x) : y ∈ L ∨ y = x := by
  unfold tr at h
  split at h
  · exact Or.inl h
  · rcases List.mem_append.mp h with h | h
    · exact Or.inl (List.mem_filter.mp h).1
    · exact Or.inr (List.mem_singleton.mp h)
theorem fold_mem {W : Int} {flat : Bool} : ∀ (C L : List Sh) (y : Sh), y ∈ C.foldl (tr W flat) L → y ∈ L ∨ y ∈ C
  | [], L, y, h => Or.inl h
  | c :: C, L, y, h => by
      rcases fold_mem C _ y h with h | h
      · rcases tr_mem h with h | h
        · exact Or.inl h
        · exact Or.inr (by rw [h]; exact List.mem_cons_self)
      · exact Or.inr (List.mem_cons_of_mem _ h)
theorem fold_len {W : Int} {flat : Bool} : ∀ (C L : List Sh), (C.foldl (tr W flat) L).length ≤ L.length + C.length
  | [], L => by simp
  | c :: C, L => by
      have h1 := fold_len (W := W) (flat := flat) C (tr W flat L c)
      have h2 := tr_len W flat L c
      simp only [List.foldl_cons, List.length_cons]
      omega
theorem flt_mem {W : Int} {flat : Bool} {C : List Sh} {y : Sh} (h : y ∈ flt W flat C) : y ∈ C := by
  rcases fold_mem C [] y h with h | h
  · cases h
  · exact h
theorem flt_len (W : Int) (flat : Bool) (C : List Sh) : (flt W flat C).length ≤ C.length := by
  have := fold_len (W := W) (flat := flat) C []
  simpa [flt] using this
theorem FR_bnd {W : Int} {np : Nat} {kd nu : Nat → Int} (hd : DOK np kd nu) : ∀ k, k < np → (∀ x ∈ FR W np kd nu k, bnd np kd k x) ∧ (∀ x ∈ CD W np kd nu k, bnd np kd k x) ∧ (CD W np kd nu k).length ≤ 2 ^ cn np kd k ∧ (FR W np kd nu k).length ≤ 2 ^ cn np kd k := by
  have hw := hd.2.1
  refine part_ind hw (fun k hk h1 h2 => ?_)
  have e := FR_eq (W := W) (nu := nu) hw hk
  have hC : ∀ x ∈ CD W np kd nu k, bnd np kd k x := cand_bnd hd hk (fun h => (h1 h).1) (fun h => (h2 h).1)
  have hl : (CD W np kd nu k).length ≤ 2 ^ cn np kd k := by
    have ec := cn_eq hw hk
    unfold CD cand
    have pos : ∀ n, 1 ≤ 2 ^ n := fun n => Nat.one_le_two_pow
    by_cases h0 : kd k = 0
    · rw [if_pos h0]
      exact pos _
    · rw [if_neg h0]
      have har : ar (kd k) ≠ 0 := by
        unfold ar
        rw [if_neg h0]
        split <;> decide
      have l1 := (h1 har).2.2.2
      rw [if_neg har] at ec
      by_cases h3 : kd k = 3
      · have a2 : ar (kd k) = 2 := by rw [h3]; decide
        have l2 := (h2 a2).2.2.2
        rw [if_pos h3, if_pos a2] at ec
        rw [if_pos h3, ec, List.length_append, List.length_map]
        have e1 : 2 ^ (1 + cn np kd (k + 1) + cn np kd (scn np kd k)) = 2 * (2 ^ cn np kd (k + 1) * 2 ^ cn np kd (scn np kd k)) := by rw [Nat.pow_add, Nat.pow_add, Nat.pow_one, Nat.mul_assoc]
        rw [e1]
        have q1 := pos (cn np kd (k + 1))
        have q2 := pos (cn np kd (scn np kd k))
        have q3 : 2 ^ cn np kd (k + 1) ≤ 2 ^ cn np kd (k + 1) * 2 ^ cn np kd (scn np kd k) := Nat.le_mul_of_pos_right _ q2
        have q4 : 2 ^ cn np kd (scn np kd k) ≤ 2 ^ cn np kd (k + 1) * 2 ^ cn np kd (scn np kd k) := Nat.le_mul_of_pos_left _ q1
        omega
      · rw [if_neg h3]
        rw [if_neg h3, Nat.zero_add] at ec
        by_cases h12 : kd k = 1 ∨ kd k = 2
        · have a2 : ar (kd k) = 2 := by rcases h12 with h | h <;> rw [h] <;> decide
          have l2 := (h2 a2).2.2.2
          rw [if_pos a2] at ec
          rw [if_pos h12, ec, Nat.pow_add]
          have e1 : ((FR W np kd nu (k + 1)).flatMap (fun a => (FR W np kd nu (scn np kd k)).map (fun b => bth (kd k) a b))).length = (FR W np kd nu (k + 1)).length * (FR W np kd nu (scn np kd k)).length := by
            induction (FR W np kd nu (k + 1)) with
            | nil => simp
            | cons a A ih => rw [List.flatMap_cons, List.length_append, ih, List.length_map, List.length_cons, Nat.succ_mul]; omega
          rw [e1]
          exact Nat.mul_le_mul l1 l2
        · rw [if_neg h12, List.length_map, ec]
          refine Nat.le_trans l1 (Nat.pow_le_pow_right (by decide) (by omega))
  refine ⟨fun x hx => hC x (by rw [e] at hx; exact flt_mem hx), hC, hl, ?_⟩
  rw [e]
  exact Nat.le_trans (flt_len _ _ _) hl
theorem cn_le {np : Nat} {kd nu : Nat → Int} (hd : DOK np kd nu) {k : Nat} (hk : k < np) : cn np kd k ≤ 6 := Nat.le_trans (c3_mono kd (wi_sub hd.2.1 hk).2.1) hd.2.2.1
theorem CD_64 {W : Int} {np : Nat} {kd nu : Nat → Int} (hd : DOK np kd nu) {k : Nat} (hk : k < np) : (CD W np kd nu k).length ≤ 64 ∧ (FR W np kd nu k).length ≤ 64 := by
  obtain ⟨-, -, h1, h2⟩ := FR_bnd (W := W) hd k hk
  have h3 : 2 ^ cn np kd k ≤ 2 ^ 6 := Nat.pow_le_pow_right (by decide) (cn_le hd hk)
  exact ⟨by omega, by omega⟩
theorem DOK_of {P : List Pt} (hl : P.length ≤ 40) (hw : wfd P.length (kdL P)) (hp : ptsOK P 0) : DOK P.length (kdL P) (nuL P) := by
  refine ⟨hl, hw, by rw [c3_chs]; have := chs_le P 0 hp; omega, fun k hk => ?_⟩
  obtain ⟨h1, h2⟩ := ptsOK_at P 0 k hp hk
  have ec : ∀ (P : List Pt) (k : Nat), k ≤ P.length → chs (P.take k) = c3 (kdL P) k 0 := by
    intro P
    induction P with
    | nil => intro k hk; obtain rfl : k = 0 := by simpa using hk
             rfl
    | cons x P ih =>
      intro k hk
      match k, hk with
      | 0, _ => rfl
      | k + 1, hk =>
        have e : ∀ d j, c3 (kdL (x :: P)) d (j + 1) = c3 (kdL P) d j := by
          intro d
          induction d with
          | zero => intro j; rfl
          | succ d ih2 =>
            intro j
            simp only [c3]
            rw [ih2 (j + 1)]
            simp [kdL]
        simp only [List.take_succ_cons, chs, c3]
        rw [ih k (by simpa using hk), e k 0]
        simp [kdL]
  rw [Nat.zero_add, ec P k (by omega)] at h1
  rcases h1 with h | h | h | h
  · exact Or.inl h
  · exact Or.inr (Or.inl h)
  · refine Or.inr (Or.inr (Or.inl ⟨h.1, h.2.1, ?_⟩))
    have h5 : nuL P k = _ := h.2.1
    have := h.2.2
    omega
  · exact Or.inr (Or.inr (Or.inr h))
