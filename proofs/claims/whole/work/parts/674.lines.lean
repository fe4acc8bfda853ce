/-! ===== lines as they are set ===== -/
/-- where a word begins, if it is on this line -/
def woc (P : Ps) (kd : Nat → Int) (row : Int) (k : Nat) : Option Nat := match P k with
  | none => none
  | some p => if kd k = 0 ∧ (p.1 : Int) = row then some p.2 else none
def cE (P : Ps) (kd nu : Nat → Int) (row : Int) : Nat → Int
  | 0 => -1
  | k + 1 => match woc P kd row k with
    | none => cE P kd nu row k
    | some c => if cE P kd nu row k < (c : Int) + nu k then (c : Int) + nu k else cE P kd nu row k
def bm (P : Ps) (kd nu : Nat → Int) (row col : Int) : Nat → Int
  | 0 => 32
  | k + 1 => match woc P kd row k with
    | none => bm P kd nu row col k
    | some c => if (c : Int) ≤ col ∧ col < (c : Int) + nu k then nu k + 96 else bm P kd nu row col k
section LN
variable {P : Ps} {kd nu : Nat → Int} {row : Int}
theorem woc_some {k c : Nat} (h : woc P kd row k = some c) : kd k = 0 ∧ ∃ r : Nat, P k = some (r, c) ∧ (r : Int) = row := by
  unfold woc at h
  cases hP : P k with
  | none => rw [hP] at h; cases h
  | some p =>
    rw [hP] at h
    dsimp only at h
    by_cases q : kd k = 0 ∧ (p.1 : Int) = row
    · rw [if_pos q] at h
      injection h with h
      subst h
      exact ⟨q.1, p.1, rfl, q.2⟩
    · rw [if_neg q] at h; cases h
theorem woc_none {k : Nat} (h : woc P kd row k = none) {r c : Nat} (hP : P k = some (r, c)) : ¬ (kd k = 0 ∧ (r : Int) = row) := by
  intro q
  unfold woc at h
  rw [hP] at h
  dsimp only at h
  rw [if_pos q] at h
  cases h
theorem cE_n {k : Nat} (h : woc P kd row k = none) : cE P kd nu row (k + 1) = cE P kd nu row k := by
  show (match woc P kd row k with | none => _ | some c => _) = _
  rw [h]
theorem cE_y {k c : Nat} (h : woc P kd row k = some c) : cE P kd nu row (k + 1) = if cE P kd nu row k < (c : Int) + nu k then (c : Int) + nu k else cE P kd nu row k := by
  show (match woc P kd row k with | none => _ | some c => _) = _
  rw [h]
theorem bm_n {col : Int} {k : Nat} (h : woc P kd row k = none) : bm P kd nu row col (k + 1) = bm P kd nu row col k := by
  show (match woc P kd row k with | none => _ | some c => _) = _
  rw [h]
theorem bm_y {col : Int} {k c : Nat} (h : woc P kd row k = some c) : bm P kd nu row col (k + 1) = if (c : Int) ≤ col ∧ col < (c : Int) + nu k then nu k + 96 else bm P kd nu row col k := by
  show (match woc P kd row k with | none => _ | some c => _) = _
  rw [h]
theorem cE_b (hb : ∀ k c, woc P kd row k = some c → c ≤ 30000 ∧ 1 ≤ nu k ∧ nu k ≤ 9) : ∀ k, -1 ≤ cE P kd nu row k ∧ cE P kd nu row k ≤ 30009
  | 0 => ⟨Int.le_refl _, by show (-1 : Int) ≤ 30009; decide⟩
  | k + 1 => by
      have ih := cE_b hb k
      cases h : woc P kd row k with
      | none => rw [cE_n h]; exact ih
      | some c =>
        have := hb k c h
        rw [cE_y h]
        split <;> omega
theorem cE_ge : ∀ (m k c : Nat), k < m → woc P kd row k = some c → (c : Int) + nu k ≤ cE P kd nu row m
  | 0, _, _, h, _ => absurd h (by omega)
  | m + 1, k, c, h, hw => by
      by_cases e : k = m
      · subst e
        rw [cE_y hw]
        split <;> omega
      · have ih := cE_ge m k c (by omega) hw
        cases h2 : woc P kd row m with
        | none => rw [cE_n h2]; exact ih
        | some d =>
          rw [cE_y h2]
          split <;> omega
theorem bm_no {col : Int} : ∀ m : Nat, (∀ k c, k < m → woc P kd row k = some c → ¬ ((c : Int) ≤ col ∧ col < (c : Int) + nu k)) → bm P kd nu row col m = 32
  | 0, _ => rfl
  | m + 1, h => by
      have ih := bm_no m (fun k c hk => h k c (by omega))
      cases h2 : woc P kd row m with
      | none => rw [bm_n h2]; exact ih
      | some d => rw [bm_y h2, if_neg (h m d (by omega) h2)]; exact ih
theorem bm_one {col : Int} : ∀ (m k c : Nat), k < m → woc P kd row k = some c → ((c : Int) ≤ col ∧ col < (c : Int) + nu k) → (∀ j d, j < m → j ≠ k → woc P kd row j = some d → ¬ ((d : Int) ≤ col ∧ col < (d : Int) + nu j)) → bm P kd nu row col m = nu k + 96
  | 0, _, _, h, _, _, _ => absurd h (by omega)
  | m + 1, k, c, h, hw, hc, hu => by
      by_cases e : k = m
      · subst e
        rw [bm_y hw, if_pos hc]
      · have ih := bm_one m k c (by omega) hw hc (fun j d hj => hu j d (by omega))
        cases h2 : woc P kd row m with
        | none => rw [bm_n h2]; exact ih
        | some d => rw [bm_y h2, if_neg (hu m d (by omega) (fun z => e z.symm) h2)]; exact ih
/-! the class -/
theorem X2_isWordOn_v {np : Nat} (hk9 : ∀ k, k < np → kd k = 0 → 1 ≤ nu k) {s : SS} (hP : PC np kd nu P np s) {k : Nat} (hk : k < np) (h40 : np ≤ 40) : f_X2_isWordOn (k : Int) row s = some (bI (woc P kd row k).isSome) ∧ ∀ c, woc P kd row k = some c → s 38 k = (c : Int) ∧ s 39 k = nu k ∧ s 40 k = nu k + 96 := by
  constructor
  · unfold f_X2_isWordOn g_X2_isWordOn_32 g_X2_isWordOn_33
    have g : ∀ {β : Type} {z : Option β}, gx (k : Int) 40 z = z := fun {β z} => gx_d (by omega) (by omega)
    simp only [g, tn_c, gb_0, gb_1]
    cases hPk : P k with
    | none =>
      rw [if_pos ((hP k hk).1 hPk)]
      unfold woc
      rw [hPk]
      rfl
    | some p =>
      obtain ⟨b1, b2, b3, b4, b5⟩ := (hP k hk).2 p.1 p.2 hPk
      rw [if_neg (by rw [b1]; decide)]
      by_cases q : kd k = 0
      · rw [(b4 ⟨q, hk⟩).1, if_neg (by have := hk9 k hk q; omega), b2]
        unfold woc
        rw [hPk]
        dsimp only
        by_cases z : (p.1 : Int) = row
        · rw [if_pos z, if_pos ⟨q, z⟩]; rfl
        · rw [if_neg z, if_neg (fun y => z y.2)]; rfl
      · rw [b5 (fun z => q z.1), if_pos (by decide)]
        unfold woc
        rw [hPk]
        dsimp only
        rw [if_neg (fun y => q y.1)]
        rfl
  · intro c hc
    obtain ⟨q, r, hPk, -⟩ := woc_some hc
    obtain ⟨b1, b2, b3, b4, b5⟩ := (hP k hk).2 r c hPk
    exact ⟨b3, b4 ⟨q, hk⟩⟩
theorem co4 {np : Nat} (h40 : np ≤ 40) (hk9 : ∀ k, k < np → kd k = 0 → 1 ≤ nu k ∧ nu k ≤ 9) (hb : ∀ k r c, k < np → P k = some (r, c) → c ≤ 30000) {s : SS} (hP : PC np kd nu P np s) (h35 : s 35 5 = (np : Int)) : ∀ (r k f : Nat), k + r = np → r < f → f_X2_columnsOf_4 f row (cE P kd nu row k) (k : Int) s = some (cE P kd nu row np) := by
  intro r
  induction r with
  | zero =>
    intro k f hk hf
    match f, hf with
    | f + 1, _ =>
      obtain rfl : k = np := by omega
      show g_X2_columnsOf_4 (f_X2_columnsOf_4 f) _ _ _ s = _
      unfold g_X2_columnsOf_4 g_X2_columnsOf_54
      rw [if_pos (by omega)]
  | succ r ih =>
    intro k f hk hf
    match f, hf with
    | f + 1, hf =>
      show g_X2_columnsOf_4 (f_X2_columnsOf_4 f) _ _ _ s = _
      have i2 := ih (k + 1) f (by omega) (by omega)
      obtain ⟨e1, e2⟩ := X2_isWordOn_v (row := row) (fun k h1 h2 => (hk9 k h1 h2).1) hP (k := k) (by omega) h40
      unfold g_X2_columnsOf_4 g_X2_columnsOf_48
      rw [if_neg (by omega), if_neg (by omega), e1, bn_t, gx_d (by omega) (by omega), gx_d (by omega) (by omega), tn_c, sb_t, sb_t, sb_t, wr_t (by omega) (by omega), show (k : Int) + 1 = ((k + 1 : Nat) : Int) by omega]
      cases hw : woc P kd row k with
      | none =>
        rw [if_pos (show bI (none : Option Nat).isSome = 0 from rfl)]
        rw [cE_n hw] at i2
        exact i2
      | some c =>
        obtain ⟨d1, d2, d3⟩ := e2 c hw
        obtain ⟨q, r', hPk, -⟩ := woc_some hw
        have := hb k r' c (by omega) hPk
        have := hk9 k (by omega) q
        rw [if_neg (show ¬ bI (some c).isSome = 0 from (by decide : ¬ (1 : Int) = 0)), d1, d2, wr_t (by omega) (by omega)]
        rw [cE_y hw] at i2
        exact i2
theorem by2 {np : Nat} (h40 : np ≤ 40) (hk9 : ∀ k, k < np → kd k = 0 → 1 ≤ nu k ∧ nu k ≤ 9) (hb : ∀ k r c, k < np → P k = some (r, c) → c ≤ 30000) {s : SS} (hP : PC np kd nu P np s) (h35 : s 35 5 = (np : Int)) {col : Int}
    (hu : ∀ j k d c, j < np → k < np → j ≠ k → woc P kd row j = some d → woc P kd row k = some c → ((c : Int) ≤ col ∧ col < (c : Int) + nu k) → ¬ ((d : Int) ≤ col ∧ col < (d : Int) + nu j)) : ∀ (r k f : Nat), k + r = np → r < f → (∀ j c, j < k → woc P kd row j = some c → ¬ ((c : Int) ≤ col ∧ col < (c : Int) + nu j)) → f_X2_byteAt_2 f row col (k : Int) s = some (if cE P kd nu row np ≤ col then -1 else bm P kd nu row col np) := by
  intro r
  induction r with
  | zero =>
    intro k f hk hf hno
    match f, hf with
    | f + 1, _ =>
      obtain rfl : k = np := by omega
      show g_X2_byteAt_2 (f_X2_byteAt_2 f) _ _ _ s = _
      have ec : f_X2_columnsOf row s = _ := co4 (row := row) h40 hk9 hb hP h35 k 0 FU (by omega) (by unfold FU; omega)
      unfold g_X2_byteAt_2 g_X2_byteAt_80 g_X2_byteAt_95
      rw [if_pos (by omega), ec, bn_t, bm_no k hno]
      split <;> rfl
  | succ r ih =>
    intro k f hk hf hno
    match f, hf with
    | f + 1, hf =>
      show g_X2_byteAt_2 (f_X2_byteAt_2 f) _ _ _ s = _
      obtain ⟨e1, e2⟩ := X2_isWordOn_v (row := row) (fun k h1 h2 => (hk9 k h1 h2).1) hP (k := k) (by omega) h40
      have nx : (¬ ∃ c : Nat, woc P kd row k = some c ∧ (c : Int) ≤ col ∧ col < (c : Int) + nu k) → f_X2_byteAt_2 f row col ((k + 1 : Nat) : Int) s = some (if cE P kd nu row np ≤ col then -1 else bm P kd nu row col np) := by
        intro hn
        refine ih (k + 1) f (by omega) (by omega) (fun j c hj hw => ?_)
        by_cases e : j = k
        · subst e; exact fun z => hn ⟨c, hw, z⟩
        · exact hno j c (by omega) hw
      unfold g_X2_byteAt_2 g_X2_byteAt_50 g_X2_byteAt_51 g_X2_byteAt_67 g_X2_byteAt_74
      have g : ∀ {β : Type} {z : Option β}, gx (k : Int) 40 z = z := fun {β z} => gx_d (by omega) (by omega)
      have ew : wr ((k : Int) + 1) = ((k + 1 : Nat) : Int) := by rw [wr_t (by omega) (by omega)]; omega
      have n10 : ¬ (1 : Int) = 0 := by decide
      simp only [g, sb_t, tn_c, ew, if_neg n10, if_true]
      rw [if_neg (by omega), if_neg (by omega), e1, bn_t]
      cases hw : woc P kd row k with
      | none =>
        rw [if_pos (show bI (none : Option Nat).isSome = 0 from rfl)]
        have := nx (fun ⟨c, z, _⟩ => by rw [hw] at z; cases z)
        split
        · exact this
        · split <;> exact this
      | some c =>
        obtain ⟨d1, d2, d3⟩ := e2 c hw
        obtain ⟨q, r', hPk, -⟩ := woc_some hw
        have hc3 := hb k r' c (by omega) hPk
        have hn9 := hk9 k (by omega) q
        rw [if_neg (show ¬ bI (some c).isSome = 0 from (by decide : ¬ (1 : Int) = 0)), d1, d2, d3, wr_t (by omega) (by omega)]
        by_cases c1 : col < (c : Int)
        · rw [if_pos c1]
          exact nx (fun ⟨c', z, z1, z2⟩ => by rw [hw] at z; injection z with z; omega)
        · rw [if_neg c1]
          by_cases c2 : (c : Int) + nu k ≤ col
          · rw [if_pos c2]
            exact nx (fun ⟨c', z, z1, z2⟩ => by rw [hw] at z; injection z with z; omega)
          · have hcov : (c : Int) ≤ col ∧ col < (c : Int) + nu k := by omega
            rw [if_neg c2, if_neg (by have := cE_ge (nu := nu) np k c (by omega) hw; omega), bm_one np k c (by omega) hw hcov (fun j d hj hne hwj => hu j k d c hj (by omega) hne hwj hw hcov)]
/-! the model -/
theorem ci4 {np : Nat} (h40 : np ≤ 40) (hk9 : ∀ k, k < np → kd k = 0 → 1 ≤ nu k ∧ nu k ≤ 9) (hb : ∀ k r c, k < np → P k = some (r, c) → c ≤ 30000) {s : SS} (hM : MP np kd nu s) (hP : PM np P s) (h4 : s 0 4 = (np : Int)) : ∀ (r k f : Nat), k + r = np → r < f → f_X7_columnsIn_4 f row (cE P kd nu row k) (k : Int) s = some (cE P kd nu row np) := by
  intro r
  induction r with
  | zero =>
    intro k f hk hf
    match f, hf with
    | f + 1, _ =>
      obtain rfl : k = np := by omega
      show g_X7_columnsIn_4 (f_X7_columnsIn_4 f) _ _ _ s = _
      unfold g_X7_columnsIn_4 g_X7_columnsIn_81
      rw [if_pos (by omega)]
  | succ r ih =>
    intro k f hk hf
    match f, hf with
    | f + 1, hf =>
      show g_X7_columnsIn_4 (f_X7_columnsIn_4 f) _ _ _ s = _
      have i2 := ih (k + 1) f (by omega) (by omega)
      obtain ⟨m2, m3, -⟩ := hM k (by omega)
      unfold g_X7_columnsIn_4 g_X7_columnsIn_45 g_X7_columnsIn_46 g_X7_columnsIn_74
      have g : ∀ {β : Type} {z : Option β}, gx (k : Int) 40 z = z := fun {β z} => gx_d (by omega) (by omega)
      have ew : wr ((k : Int) + 1) = ((k + 1 : Nat) : Int) := by rw [wr_t (by omega) (by omega)]; omega
      have n10 : ¬ (1 : Int) = 0 := by decide
      simp only [g, sb_t, tn_c, ew, if_neg n10, if_true]
      rw [if_neg (by omega), m2, m3, X7_max_i, bn_t]
      cases hw : woc P kd row k with
      | none =>
        rw [cE_n hw] at i2
        by_cases q : kd k = 0
        · rw [if_pos q]
          cases hPk : P k with
          | none => rw [if_neg (by rw [(hP k (by omega)).1 hPk]; decide)]; exact i2
          | some p =>
            obtain ⟨b1, b2, b3⟩ := (hP k (by omega)).2 p.1 p.2 hPk
            rw [if_pos b1, b2, if_neg (fun z => woc_none hw hPk ⟨q, z⟩)]
            exact i2
        · rw [if_neg q]; exact i2
      | some c =>
        obtain ⟨q, r', hPk, hr⟩ := woc_some hw
        obtain ⟨b1, b2, b3⟩ := (hP k (by omega)).2 r' c hPk
        have := hb k r' c (by omega) hPk
        have := hk9 k (by omega) q
        rw [if_pos q, if_pos b1, b2, if_pos hr, b3, wr_t (by omega) (by omega)]
        rw [cE_y hw] at i2
        have ee : (if cE P kd nu row k ≤ (c : Int) + nu k then (c : Int) + nu k else cE P kd nu row k) = (if cE P kd nu row k < (c : Int) + nu k then (c : Int) + nu k else cE P kd nu row k) := by
          split <;> split <;> omega
        rw [ee]
        exact i2
theorem bi6 {np : Nat} (h40 : np ≤ 40) (hk9 : ∀ k, k < np → kd k = 0 → 1 ≤ nu k ∧ nu k ≤ 9) (hb : ∀ k r c, k < np → P k = some (r, c) → c ≤ 30000) {s : SS} (hM : MP np kd nu s) (hP : PM np P s) (h4 : s 0 4 = (np : Int)) (col : Int) : ∀ (r k f : Nat), k + r = np → r < f → f_X7_byteIn_6 f row col (bm P kd nu row col k) (k : Int) s = some (bm P kd nu row col np) := by
  intro r
  induction r with
  | zero =>
    intro k f hk hf
    match f, hf with
    | f + 1, _ =>
      obtain rfl : k = np := by omega
      show g_X7_byteIn_6 (f_X7_byteIn_6 f) _ _ _ _ s = _
      unfold g_X7_byteIn_6 g_X7_byteIn_113
      rw [if_pos (by omega)]
  | succ r ih =>
    intro k f hk hf
    match f, hf with
    | f + 1, hf =>
      show g_X7_byteIn_6 (f_X7_byteIn_6 f) _ _ _ _ s = _
      have i2 := ih (k + 1) f (by omega) (by omega)
      obtain ⟨m2, m3, -⟩ := hM k (by omega)
      unfold g_X7_byteIn_6 g_X7_byteIn_82 g_X7_byteIn_83 g_X7_byteIn_106
      have g : ∀ {β : Type} {z : Option β}, gx (k : Int) 40 z = z := fun {β z} => gx_d (by omega) (by omega)
      have ew : wr ((k : Int) + 1) = ((k + 1 : Nat) : Int) := by rw [wr_t (by omega) (by omega)]; omega
      have n10 : ¬ (1 : Int) = 0 := by decide
      simp only [g, sb_t, tn_c, ew, if_neg n10, if_true]
      rw [if_neg (by omega), m2, m3, X7_in_v, bn_t]
      cases hw : woc P kd row k with
      | none =>
        rw [bm_n hw] at i2
        by_cases q : kd k = 0
        · rw [if_pos q]
          cases hPk : P k with
          | none => rw [if_neg (by rw [(hP k (by omega)).1 hPk]; decide)]; exact i2
          | some p =>
            obtain ⟨b1, b2, b3⟩ := (hP k (by omega)).2 p.1 p.2 hPk
            rw [if_pos b1, b2, if_neg (fun z => woc_none hw hPk ⟨q, z⟩)]
            exact i2
        · rw [if_neg q]; exact i2
      | some c =>
        obtain ⟨q, r', hPk, hr⟩ := woc_some hw
        obtain ⟨b1, b2, b3⟩ := (hP k (by omega)).2 r' c hPk
        have := hb k r' c (by omega) hPk
        have := hk9 k (by omega) q
        rw [if_pos q, if_pos b1, b2, if_pos hr, b3]
        rw [bm_y hw] at i2
        rw [wr_t (a := (c : Int) + nu k) (by omega) (by omega), wr_t (a := (c : Int) + nu k - 1) (by omega) (by omega), wr_t (a := 97 + nu k) (by omega) (by omega), wr_t (a := 97 + nu k - 1) (by omega) (by omega), show 97 + nu k - 1 = nu k + 96 by omega]
        by_cases cv : (c : Int) ≤ col ∧ col < (c : Int) + nu k
        · rw [if_pos cv] at i2
          rw [if_pos (show (c : Int) ≤ col ∧ col ≤ (c : Int) + nu k - 1 by omega), if_neg (show ¬ (1 : Int) = 0 by decide)]
          exact i2
        · rw [if_neg cv] at i2
          rw [if_neg (show ¬ ((c : Int) ≤ col ∧ col ≤ (c : Int) + nu k - 1) by omega), if_pos rfl]
          exact i2
end LN
section LNB
variable {n : Nat} {t : Nat → Int} {W : Int} {s : SS}
theorem wd9 (hn : n ≤ 40) : ∀ k, k < pN n t → pK n t k = 0 → 1 ≤ pU n t k ∧ pU n t k ≤ 9 := by
  intro k hk q
  rcases PK_of (D_1 (t := t) hn (by omega)) hk with ⟨_, a, n1, n2⟩ | ⟨_, a, k0, _⟩ | ⟨_, a, k0, _⟩ | ⟨_, a, k0, _⟩
  · exact ⟨n1, n2⟩
  · exact absurd q k0
  · exact absurd q k0
  · exact absurd q k0
theorem PB_b (hn : n ≤ 40) : ∀ k r c, k < pN n t → PB n t W k = some (r, c) → c ≤ 30000 := by
  intro k r c hk h
  unfold PB at h
  have hl : pN n t ≤ n := (pts_ok n t).2
  cases hb : bestS n t W with
  | none => rw [hb] at h; cases h
  | some x =>
    rw [hb] at h
    obtain ⟨p1, p2, p3, p4⟩ := bestS_ok hn hb
    have := (PL_ok p2 p1 (bestS_SH hn hb) (pN n t) (Nat.le_refl _) k hk r c h).2.2
    omega
theorem PB_u (hn : n ≤ 40) {row col : Int} : ∀ j k d c, j < pN n t → k < pN n t → j ≠ k → woc (PB n t W) (pK n t) row j = some d → woc (PB n t W) (pK n t) row k = some c → ((c : Int) ≤ col ∧ col < (c : Int) + pU n t k) → ¬ ((d : Int) ≤ col ∧ col < (d : Int) + pU n t j) := by
  intro j k d c hj hk hne hwj hwk hc hd
  obtain ⟨q1, r1, P1, e1⟩ := woc_some hwj
  obtain ⟨q2, r2, P2, e2⟩ := woc_some hwk
  obtain rfl : r1 = r2 := by omega
  unfold PB at P1 P2
  cases hb : bestS n t W with
  | none => rw [hb] at P1; cases P1
  | some x =>
    rw [hb] at P1 P2
    obtain ⟨p1, p2, p3, p4⟩ := bestS_ok hn hb
    have h00 : PF x.2.2.2 (pN n t) (pK n t) (pU n t) 0 = some (0, 0) := by rw [PF_at p2 p1]; rfl
    have ew := wi_all p2 p1
    have := PF_D p2 0 p1 0 0 x h00 (bestS_SH hn hb) j k ⟨by omega, by omega⟩ ⟨by omega, by omega⟩ hne q1 q2 r1 d c P1 P2
    have := wd9 hn j hj q1
    have := wd9 hn k hk q2
    omega
/-- the end of a line, a byte of it -/
def coA (n : Nat) (t : Nat → Int) (W row : Int) : Int := cE (PB n t W) (pK n t) (pU n t) row (pN n t)
def byA (n : Nat) (t : Nat → Int) (W row col : Int) : Int := bm (PB n t W) (pK n t) (pU n t) row col (pN n t)
def liA (n : Nat) (t : Nat → Int) (W row col : Int) : Int := if col = -1 then coA n t W row else if coA n t W row ≤ col then -1 else byA n t W row col
theorem coA_b (hn : n ≤ 40) (row : Int) : -1 ≤ coA n t W row ∧ coA n t W row ≤ 30009 := by
  have key : ∀ m, m ≤ pN n t → -1 ≤ cE (PB n t W) (pK n t) (pU n t) row m ∧ cE (PB n t W) (pK n t) (pU n t) row m ≤ 30009 := by
    intro m
    induction m with
    | zero => intro _; exact ⟨Int.le_refl _, by show (-1 : Int) ≤ 30009; decide⟩
    | succ m ih =>
      intro hm
      have ih := ih (by omega)
      cases h : woc (PB n t W) (pK n t) row m with
      | none => rw [cE_n h]; exact ih
      | some c =>
        obtain ⟨q, r, hP, -⟩ := woc_some h
        have := PB_b hn m r c (by omega) hP
        have := wd9 hn m (by omega) q
        rw [cE_y h]
        split <;> omega
  exact key _ (Nat.le_refl _)
theorem X7_columnsIn_v (hn : n ≤ 40) (hR : MR n t s) (hP : PM (pN n t) (PB n t W) s) (row : Int) : f_X7_columnsIn row s = some (coA n t W row) := by
  have hl : pN n t ≤ n := (pts_ok n t).2
  exact ci4 (by omega) (wd9 hn) (PB_b hn) (MR_MP hR) hP hR.2.1 (pN n t) 0 FU (by omega) (by unfold FU; omega)
theorem X7_byteIn_v (hn : n ≤ 40) (hR : MR n t s) (hP : PM (pN n t) (PB n t W) s) (row col : Int) : f_X7_byteIn row col s = some (byA n t W row col) := by
  have hl : pN n t ≤ n := (pts_ok n t).2
  exact bi6 (by omega) (wd9 hn) (PB_b hn) (MR_MP hR) hP hR.2.1 col (pN n t) 0 FU (by omega) (by unfold FU; omega)
theorem X7_lineOf_v (h : TX n t W s) (row col : Int) : ∃ s', f_X7_lineOf row col s = some (liA n t W row col, s') ∧ frX s s' := by
  obtain ⟨s1, a, b, c, d⟩ := X7_sets_v h
  refine ⟨s1, ?_, d⟩
  unfold f_X7_lineOf g_X7_lineOf_34 liA
  rw [a, bn_t, X7_columnsIn_v h.1.1 b c, bn_t, X7_byteIn_v h.1.1 b c, bn_t]
  split
  · rfl
  · split <;> rfl
theorem X7_line_v (h : TX n t W s) (x y : Int) : ∃ s', f_X7_line x y s = some (if (0 ≤ x ∧ x ≤ 99) ∧ -1 ≤ y ∧ y ≤ 399 then liA n t W x y else -2, s') ∧ frX s s' := by
  unfold f_X7_line g_X7_line_30 g_X7_line_32
  rw [X7_in_v, bn_t, X7_in_v, bn_t]
  by_cases q1 : 0 ≤ x ∧ x ≤ 99
  · rw [if_pos q1, if_neg (show ¬ (1 : Int) = 0 by decide)]
    by_cases q2 : -1 ≤ y ∧ y ≤ 399
    · obtain ⟨s1, a, b⟩ := X7_lineOf_v h x y
      refine ⟨s1, ?_, b⟩
      rw [if_pos q2, if_neg (show ¬ (1 : Int) = 0 by decide), a, cb_t, if_pos ⟨q1, q2⟩]
    · refine ⟨s, ?_, frX_refl s⟩
      rw [if_neg q2, if_pos rfl, if_neg (fun z => q2 z.2)]
  · refine ⟨s, ?_, frX_refl s⟩
    rw [if_neg q1, if_pos rfl, if_neg (fun z => q1 z.1)]
/-- the class's rows are those of the best layout -/
def CL (n : Nat) (t : Nat → Int) (W : Int) (s : SS) : Prop := (bestS n t W = none ∧ s 35 5 = 0) ∨ ((∃ x, bestS n t W = some x) ∧ s 35 5 = (pN n t : Int) ∧ PC (pN n t) (pK n t) (pU n t) (PB n t W) (pN n t) s)
theorem PB_no (hb : bestS n t W = none) (row : Int) (k : Nat) : woc (PB n t W) (pK n t) row k = none := by
  unfold woc PB
  rw [hb]
theorem co_no (hb : bestS n t W = none) (row : Int) : coA n t W row = -1 := by
  have : ∀ m, cE (PB n t W) (pK n t) (pU n t) row m = -1 := by
    intro m
    induction m with
    | zero => rfl
    | succ m ih => rw [cE_n (PB_no hb row m)]; exact ih
  exact this _
theorem X2_columnsOf_v (hn : n ≤ 40) (hL : CL n t W s) (row : Int) : f_X2_columnsOf row s = some (coA n t W row) := by
  have hl : pN n t ≤ n := (pts_ok n t).2
  rcases hL with ⟨hb, h35⟩ | ⟨-, h35, hP⟩
  · rw [co_no hb]
    show g_X2_columnsOf_4 (f_X2_columnsOf_4 199) _ _ _ s = _
    unfold g_X2_columnsOf_4 g_X2_columnsOf_54
    rw [if_pos (by omega)]
  · exact co4 (by omega) (wd9 hn) (PB_b hn) hP h35 (pN n t) 0 FU (by omega) (by unfold FU; omega)
theorem X2_byteAt_v (hn : n ≤ 40) (hL : CL n t W s) (row : Int) {col : Int} (hc : 0 ≤ col) : f_X2_byteAt row col s = some (if coA n t W row ≤ col then -1 else byA n t W row col) := by
  have hl : pN n t ≤ n := (pts_ok n t).2
  have hL' := hL
  rcases hL with ⟨hb, h35⟩ | ⟨-, h35, hP⟩
  · rw [co_no hb, if_pos (by omega)]
    show g_X2_byteAt_2 (f_X2_byteAt_2 199) _ _ _ s = _
    unfold g_X2_byteAt_2 g_X2_byteAt_80 g_X2_byteAt_95
    rw [if_pos (by omega), X2_columnsOf_v hn hL', bn_t, co_no hb, if_pos (by omega)]
  · exact by2 (by omega) (wd9 hn) (PB_b hn) hP h35 (PB_u hn) (pN n t) 0 FU (by omega) (by unfold FU; omega) (fun j c hj => by omega)
theorem X6_line_v (hn : n ≤ 40) (hL : CL n t W s) (x y : Int) : f_X6_line x y s = some (if (0 ≤ x ∧ x ≤ 99) ∧ -1 ≤ y ∧ y ≤ 399 then liA n t W x y else -2) := by
  unfold f_X6_line g_X6_line_22 g_X6_line_50
  by_cases q1 : x < 0
  · rw [if_pos q1, if_neg (by omega)]
  · rw [if_neg q1]
    by_cases q2 : 99 < x
    · rw [if_pos q2, if_neg (by omega)]
    · rw [if_neg q2]
      by_cases q3 : y < -1
      · rw [if_pos q3, if_neg (by omega)]
      · rw [if_neg q3]
        by_cases q4 : y ≤ 399
        · rw [if_pos q4, if_pos (show (0 ≤ x ∧ x ≤ 99) ∧ -1 ≤ y ∧ y ≤ 399 by omega), X2_columnsOf_v hn hL, bn_t]
          unfold liA
          by_cases q5 : y = -1
          · rw [if_pos q5, if_pos q5]
          · rw [if_neg q5, if_neg q5, X2_byteAt_v hn hL x (by omega), bn_t]
        · rw [if_neg q4, if_neg (by omega)]
end LNB
