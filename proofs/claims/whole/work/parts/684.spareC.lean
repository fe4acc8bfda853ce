/-! ===== the choices that need not be: the class ===== -/
theorem lex3_iff {a b c a' b' c' : Nat} : lex3 a b c a' b' c' = true ↔ a < a' ∨ (a = a' ∧ (b < b' ∨ (b = b' ∧ c < c'))) := by
  unfold lex3
  by_cases h1 : a = a'
  · rw [if_pos h1]
    by_cases h2 : b = b'
    · rw [if_pos h2, decide_eq_true_iff]
      omega
    · rw [if_neg h2, decide_eq_true_iff]
      omega
  · rw [if_neg h1, decide_eq_true_iff]
    omega
theorem lex3_no {a b c a' b' c' : Nat} : lex3 a b c a' b' c' = false ↔ ¬ (a < a' ∨ (a = a' ∧ (b < b' ∨ (b = b' ∧ c < c')))) := by
  rw [← lex3_iff, Bool.not_eq_true]
theorem ahd_tr {o : Bool} {x y z : Sh} (h1 : ahd o x y = true) (h2 : ahd o z y = false) : ahd o z x = false := by
  unfold ahd at *
  cases o with
  | true =>
    simp only [if_true] at *
    rw [lex3_iff] at h1
    rw [lex3_no] at h2 ⊢
    omega
  | false =>
    have nf : ¬ (false = true) := by decide
    simp only [if_neg nf] at *
    rw [lex3_iff] at h1
    rw [lex3_no] at h2 ⊢
    omega
theorem ahd_rf (o : Bool) (x : Sh) : ahd o x x = false := by
  unfold ahd
  split <;> (rw [lex3_no]; omega)
theorem ahd_t {x y : Sh} (h : ahd true x y = false) : y.2.2.1 ≤ x.2.2.1 ∧ (x.2.2.1 = y.2.2.1 → y.1 ≤ x.1) := by
  unfold ahd at h
  rw [if_pos rfl, lex3_no] at h
  omega
theorem ahd_f {x y : Sh} (h : ahd false x y = false) : y.1 ≤ x.1 := by
  unfold ahd at h
  rw [if_neg (by decide), lex3_no] at h
  omega
theorem bst_min (o : Bool) : ∀ (L : List Sh) (b y : Sh), bst o L (some b) = some y → ahd o b y = false ∧ ∀ z ∈ L, ahd o z y = false
  | [], b, y, h => by
      have h' : some b = some y := h
      injection h' with h'
      subst h'
      exact ⟨ahd_rf o b, fun z hz => absurd hz List.not_mem_nil⟩
  | x :: L, b, y, h => by
      have h' : bst o L (if ahd o x b = true then some x else some b) = some y := h
      by_cases c : ahd o x b = true
      · rw [if_pos c] at h'
        obtain ⟨a1, a2⟩ := bst_min o L x y h'
        have hb : ahd o b y = false := by
          cases hc : ahd o b y with
          | false => rfl
          | true => exact absurd (ahd_tr hc a1) (by rw [c]; decide)
        refine ⟨hb, fun z hz => ?_⟩
        rcases List.mem_cons.mp hz with rfl | hz
        · exact a1
        · exact a2 z hz
      · rw [if_neg c] at h'
        obtain ⟨a1, a2⟩ := bst_min o L b y h'
        refine ⟨a1, fun z hz => ?_⟩
        rcases List.mem_cons.mp hz with rfl | hz
        · cases hc : ahd o z y with
          | false => rfl
          | true => exact absurd (ahd_tr hc a1) (fun q => c (by
              cases hq : ahd o z b with
              | true => rfl
              | false =>
                exfalso
                unfold ahd at hc hq a1 q
                cases o with
                | true =>
                  simp only [if_true] at *
                  rw [lex3_iff] at hc
                  rw [lex3_no] at hq a1 q
                  omega
                | false =>
                  have nf : ¬ (false = true) := by decide
                  simp only [if_neg nf] at *
                  rw [lex3_iff] at hc
                  rw [lex3_no] at hq a1 q
                  omega))
        · exact a2 z hz
theorem bst_none {o : Bool} {L : List Sh} (h : bst o L none = none) : L = [] := by
  cases L with
  | nil => rfl
  | cons x L =>
    obtain ⟨y, h1, -⟩ := bst_some o L x
    have h' : bst o L (some x) = none := h
    rw [h1] at h'
    cases h'
theorem bst_all {o : Bool} {L : List Sh} {y : Sh} (h : bst o L none = some y) : y ∈ L ∧ ∀ z ∈ L, ahd o z y = false := by
  cases L with
  | nil => cases h
  | cons x L =>
    have h' : bst o L (some x) = some y := h
    obtain ⟨a1, a2⟩ := bst_min o L x y h'
    obtain ⟨w, b1, b2⟩ := bst_some o L x
    rw [h'] at b1
    injection b1 with b1
    subst b1
    refine ⟨by rcases b2 with b2 | b2 <;> simp [b2], fun z hz => ?_⟩
    rcases List.mem_cons.mp hz with rfl | hz
    · exact a1
    · exact a2 z hz
theorem Few_ex (Q : Sh → Prop) (g : Sh → Nat) : ∃ r, Few Q g r := by
  by_cases h : ∃ x, Q x
  · have key : ∀ n x, Q x → g x ≤ n → ∃ y, Q y ∧ ∀ z, Q z → g y ≤ g z := by
      intro n
      induction n with
      | zero => intro x hx h0; exact ⟨x, hx, fun z _ => by omega⟩
      | succ n ih =>
        intro x hx hn
        by_cases h2 : ∃ z, Q z ∧ g z < g x
        · obtain ⟨z, z1, z2⟩ := h2
          exact ih z z1 (by omega)
        · refine ⟨x, hx, fun z hz => ?_⟩
          rcases Nat.lt_or_ge (g z) (g x) with h3 | h3
          · exact absurd ⟨z, hz, h3⟩ h2
          · exact h3
    obtain ⟨x, hx⟩ := h
    obtain ⟨y, y1, y2⟩ := key (g x) x hx (Nat.le_refl _)
    exact ⟨g y, Or.inr ⟨y, y1, rfl, y2⟩⟩
  · exact ⟨-1, Or.inl ⟨rfl, fun x hx => h ⟨x, hx⟩⟩⟩
theorem fewV_F (Q : Sh → Prop) (g : Sh → Nat) : Few Q g (fewV Q g) := by
  obtain ⟨r, h⟩ := Few_ex Q g
  rw [fewV_eq h]
  exact h
section SPC
variable {n : Nat} {t : Nat → Int} {W : Int} {s : SS}
theorem LY_mono {v v' : Int} {m : Nat} {x : Sh} (h : LY n t v m x) (hv : (x.2.2.1 : Int) ≤ v') : LY n t v' m x := ⟨h.1, h.2.1, hv⟩
theorem LY_m0 {v : Int} {m : Nat} {x : Sh} (h : LY n t v m x) : LY n t v 0 x := ⟨h.1, Nat.and_zero _, h.2.2⟩
theorem LY_FR (hn : n ≤ 40) {v : Int} {x : Sh} (h : LY n t v 0 x) : 0 < pN n t ∧ ∃ y ∈ FR v (pN n t) (pK n t) (pU n t) 0, ng y x = true := by
  obtain ⟨b1, b2, b3, b4, b5⟩ := U_bnd hn h.1
  exact ⟨b3, prune b4 0 b3 x b5 h.2.2⟩
theorem FR_LY (hn : n ≤ 40) (h0 : 0 < pN n t) {v : Int} {y : Sh} (h : y ∈ FR v (pN n t) (pK n t) (pU n t) 0) : LY n t v 0 y := by
  obtain ⟨a, b⟩ := FR_SH (D_1 (t := t) hn h0) 0 h0 y h
  refine ⟨?_, Nat.and_zero _, a⟩
  show UU _ _ _ _ = _
  unfold UU
  rw [if_neg (by omega)]
  exact b
/-- how the best stands to all layouts -/
theorem best_none (hn : n ≤ 40) (h : bestS n t W = none) : lwo n t W 0 = -1 := by
  have no : ∀ x, ¬ LY n t 1000 0 x := by
    intro x hx
    obtain ⟨h0, -⟩ := LY_FR hn hx
    have hb := LY_bnd hn hx
    obtain ⟨-, y, y1, -⟩ := LY_FR hn (LY_mono (v' := 500) hx (by omega))
    unfold bestS at h
    rw [if_neg (by omega)] at h
    by_cases ho : ovr n t W = true
    · rw [if_pos ho] at h
      rw [bst_none h] at y1
      exact absurd y1 List.not_mem_nil
    · rw [if_neg ho] at h
      apply ho
      unfold ovr
      rw [bst_none h, decide_eq_true h0]
      rfl
  have e : lst n t 0 = -1 := fewV_eq (Or.inl ⟨rfl, no⟩)
  unfold lwo
  rw [if_pos e]
theorem best_some (hn : n ≤ 40) (hW : 1 ≤ W ∧ W ≤ 99) {y : Sh} (h : bestS n t W = some y) : lwo n t W 0 = (y.1 : Int) ∧ ovb n t W 0 = ovr n t W ∧ lst n t 0 ≠ -1 := by
  obtain ⟨h0, -, -, hm⟩ := bestS_ok hn h
  unfold bestS at h
  rw [if_neg (by omega)] at h
  by_cases ho : ovr n t W = true
  · rw [if_pos ho] at h hm
    obtain ⟨a1, a2⟩ := bst_all h
    have yL := FR_LY hn h0 hm
    have yb := LY_bnd hn yL
    have mn : ∀ x, LY n t 1000 0 x → y.2.2.1 ≤ x.2.2.1 ∧ (x.2.2.1 ≤ y.2.2.1 → y.1 ≤ x.1) := by
      intro x hx
      have hb := LY_bnd hn hx
      obtain ⟨-, z, z1, z2⟩ := LY_FR hn (LY_mono (v' := 500) hx (by omega))
      have := ahd_t (a2 z z1)
      have := ng_iff.mp z2
      omega
    have e1 : lst n t 0 = (y.2.2.1 : Int) := fewV_eq (Or.inr ⟨y, LY_mono yL (by omega), rfl, fun x hx => (mn x hx).1⟩)
    have hov : W < (y.2.2.1 : Int) := by
      rcases Int.lt_or_le W (y.2.2.1 : Int) with q | q
      · exact q
      · exfalso
        obtain ⟨-, z, z1, -⟩ := LY_FR hn (LY_mono yL q)
        have he : (FR W (pN n t) (pK n t) (pU n t) 0).isEmpty = true := by
          unfold ovr at ho
          exact (Bool.and_eq_true_iff.mp ho).2
        rw [List.isEmpty_iff.mp he] at z1
        exact absurd z1 List.not_mem_nil
    have e2 : few n t (y.2.2.1 : Int) 0 = (y.1 : Int) := fewV_eq (Or.inr ⟨y, LY_mono yL (by omega), rfl, fun x hx => (mn x (LY_mono hx (by have := LY_bnd hn hx; omega))).2 (by have := hx.2.2; omega)⟩)
    refine ⟨?_, ?_, by omega⟩
    · unfold lwo
      rw [if_neg (by omega), e1, if_pos (by omega)]
      exact e2
    · rw [ho]
      unfold ovb
      rw [e1]
      exact decide_eq_true hov
  · rw [if_neg ho] at h hm
    obtain ⟨a1, a2⟩ := bst_all h
    have yL := FR_LY hn h0 hm
    have yb := LY_bnd hn yL
    have e1 := fewV_F (LY n t 1000 0) (fun x => x.2.2.1)
    have e1' : Few (LY n t 1000 0) (fun x => x.2.2.1) (lst n t 0) := e1
    have y1000 : LY n t 1000 0 y := LY_mono yL (by omega)
    have e2 : few n t W 0 = (y.1 : Int) := fewV_eq (Or.inr ⟨y, yL, rfl, fun x hx => by
      obtain ⟨-, z, z1, z2⟩ := LY_FR hn hx
      have := ahd_f (a2 z z1)
      have := ng_iff.mp z2
      show y.1 ≤ x.1
      omega⟩)
    rcases e1' with ⟨-, no⟩ | ⟨x, x1, x2, x3⟩
    · exact absurd y1000 (no y)
    · have x3' : x.2.2.1 ≤ y.2.2.1 := x3 y y1000
      have x2 : lst n t 0 = (x.2.2.1 : Int) := x2
      have h3 : lst n t 0 ≤ W := by have := yL.2.2; rw [x2]; omega
      refine ⟨?_, ?_, by rw [x2]; omega⟩
      · unfold lwo
        rw [if_neg (by rw [x2]; omega)]
        by_cases q : W ≤ lst n t 0
        · rw [if_pos q, show lst n t 0 = W by omega]; exact e2
        · rw [if_neg q]; exact e2
      · rw [Bool.eq_false_iff.mpr ho]
        unfold ovb
        exact decide_eq_false (by omega)
/-- those of the first i ways -/
def Qc (n : Nat) (t : Nat → Int) (i : Nat) (v : Int) (m : Nat) (x : Sh) : Prop := ∃ w, w < i ∧ U n t w = some x ∧ x.2.2.2 &&& m = 0 ∧ (x.2.2.1 : Int) ≤ v
theorem Qc_LY (hn : n ≤ 40) {v : Int} {m : Nat} {x : Sh} : Qc n t (mny n t) v m x ↔ LY n t v m x := by
  constructor
  · rintro ⟨w, w1, w2, w3, w4⟩
    have := mny_U hn w2
    rw [this] at w1
    exact (LY_c hn).mp ⟨w, w1, w2, w3, w4⟩
  · intro h
    obtain ⟨w, w1, w2, w3, w4⟩ := (LY_c hn).mpr h
    exact ⟨w, by rw [mny_U hn w2]; exact w1, w2, w3, w4⟩
/-- b is the best one of the first i -/
def BI (n : Nat) (t : Nat → Int) (o : Bool) (i : Nat) (v : Int) (m : Nat) (b : Int) : Prop := (b = -1 ∧ ∀ x, ¬ Qc n t i v m x) ∨ ∃ (r : Nat) (y : Sh), b = (r : Int) ∧ r < i ∧ U n t r = some y ∧ Qc n t i v m y ∧ ∀ x, Qc n t i v m x → ahd o x y = false
theorem BI_no {o : Bool} {i : Nat} {v : Int} {m : Nat} {b : Int} (h : BI n t o i v m b) (hi : ∀ x, U n t i = some x → ¬ (x.2.2.2 &&& m = 0 ∧ (x.2.2.1 : Int) ≤ v)) : BI n t o (i + 1) v m b := by
  have e : ∀ x, Qc n t (i + 1) v m x → Qc n t i v m x := by
    rintro x ⟨w, w1, w2, w3, w4⟩
    by_cases q : w = i
    · subst q; exact absurd ⟨w3, w4⟩ (hi x w2)
    · exact ⟨w, by omega, w2, w3, w4⟩
  rcases h with ⟨h1, h2⟩ | ⟨r, y, h1, h2, h3, h4, h5⟩
  · exact Or.inl ⟨h1, fun x hx => h2 x (e x hx)⟩
  · obtain ⟨w, w1, w2⟩ := h4
    exact Or.inr ⟨r, y, h1, by omega, h3, ⟨w, by omega, w2⟩, fun x hx => h5 x (e x hx)⟩
theorem BI_yes {o : Bool} {i : Nat} {v : Int} {m : Nat} {b : Int} {z : Sh} (h : BI n t o i v m b) (hz : U n t i = some z) (hm : z.2.2.2 &&& m = 0) (hv : (z.2.2.1 : Int) ≤ v) : (b = -1 → BI n t o (i + 1) v m i) ∧ ∀ (r : Nat) (y : Sh), b = (r : Int) → U n t r = some y → BI n t o (i + 1) v m (if ahd o z y = true then (i : Int) else b) := by
  have qz : Qc n t (i + 1) v m z := ⟨i, by omega, hz, hm, hv⟩
  have e : ∀ x, Qc n t (i + 1) v m x → Qc n t i v m x ∨ x = z := by
    rintro x ⟨w, w1, w2, w3, w4⟩
    by_cases q : w = i
    · subst q; rw [hz] at w2; injection w2 with w2; exact Or.inr w2.symm
    · exact Or.inl ⟨w, by omega, w2, w3, w4⟩
  constructor
  · intro hb
    rcases h with ⟨-, h2⟩ | ⟨r, y, h1, -⟩
    · refine Or.inr ⟨i, z, rfl, by omega, hz, qz, fun x hx => ?_⟩
      rcases e x hx with hx | hx
      · exact absurd hx (h2 x)
      · subst hx; exact ahd_rf o x
    · omega
  · intro r y hb hy
    rcases h with ⟨h1, -⟩ | ⟨r', y', h1, h2, h3, h4, h5⟩
    · omega
    · obtain rfl : r = r' := by omega
      rw [hy] at h3
      injection h3 with h3
      subst h3
      by_cases c : ahd o z y = true
      · rw [if_pos c]
        refine Or.inr ⟨i, z, rfl, by omega, hz, qz, fun x hx => ?_⟩
        rcases e x hx with hx | hx
        · exact ahd_tr c (h5 x hx)
        · subst hx; exact ahd_rf o x
      · rw [if_neg c]
        obtain ⟨w, w1, w2⟩ := h4
        refine Or.inr ⟨r, y, hb, by omega, hy, ⟨w, by omega, w2⟩, fun x hx => ?_⟩
        rcases e x hx with hx | hx
        · exact h5 x hx
        · subst hx; exact Bool.eq_false_iff.mpr c
theorem fl5 (hn : n ≤ 40) (hR : WR n t s) {v : Int} {m : Nat} (hm : m < 64) : ∀ (r i f : Nat) (b : Int), i + r = mny n t → r < f → BI n t false i v m b → ∃ b', f_X5_fewestLines_5 f (m : Int) v b (i : Int) s = g_X5_fewestLines_78 b' s ∧ BI n t false (mny n t) v m b' := by
  intro r
  have h64 := mny_le (n := n) (t := t)
  induction r with
  | zero =>
    intro i f b hi hf hB
    match f, hf with
    | f + 1, _ =>
      obtain rfl : i = mny n t := by omega
      refine ⟨b, ?_, hB⟩
      show g_X5_fewestLines_5 (f_X5_fewestLines_5 f) _ _ _ _ s = _
      unfold g_X5_fewestLines_5
      rw [hR.1, if_pos (by omega)]
  | succ r ih =>
    intro i f b hi hf hB
    match f, hf with
    | f + 1, hf =>
      show ∃ b', g_X5_fewestLines_5 (f_X5_fewestLines_5 f) _ _ _ _ s = _ ∧ _
      have ew : wr ((i : Int) + 1) = ((i + 1 : Nat) : Int) := by rw [wr_t (by omega) (by omega)]; omega
      have n10 : ¬ (1 : Int) = 0 := by decide
      unfold g_X5_fewestLines_5 g_X5_fewestLines_43 g_X5_fewestLines_44 g_X5_fewestLines_69 g_X5_fewestLines_72
      simp only [sb_t, ew, if_neg n10, if_true]
      rw [hR.1, if_neg (by omega), X5_fits_v hn hR (by omega), bn_t]
      cases hu : U n t i with
      | none =>
        rw [alw_n hu, if_pos rfl]
        exact ih (i + 1) f b (by omega) (by omega) (BI_no hB (fun x hx => by rw [hu] at hx; cases hx))
      | some z =>
        by_cases c1 : (z.2.2.1 : Int) ≤ v
        · have hz64 := (U_bnd hn hu).2.1.2.2.2
          have t3 : f_X3_tell 28 (i : Int) 3 s = some (z.2.2.2 : Int) := by rw [tell28 hR (by omega) hu]; rfl
          rw [alw_y hu c1, if_neg n10, t3, bn_t, oN_and (by omega) (by omega)]
          by_cases c2 : z.2.2.2 &&& m = 0
          · rw [if_pos (by rw [c2]; rfl)]
            obtain ⟨y1, y2⟩ := BI_yes hB hu c2 c1
            by_cases c3 : b = -1
            · rw [if_pos c3]
              exact ih (i + 1) f _ (by omega) (by omega) (y1 c3)
            · rw [if_neg c3]
              rcases id hB with ⟨q, -⟩ | ⟨r', y, q1, q2, q3, -⟩
              · exact absurd q c3
              · have hi28 : i < shl 28 := by rw [shl28]; omega
                have hr28 : r' < shl 28 := by rw [shl28]; omega
                have sz := hR.2 i (by omega)
                have sy := hR.2 r' (by omega)
                rw [hu] at sz
                rw [q3] at sy
                have := y2 r' y q1 q3
                rw [q1, X3_fewer_v hi28 hr28 sz sy, bn_t]
                rw [q1] at this
                cases hc : ahd false z y with
                | true =>
                  rw [hc, if_pos rfl] at this
                  rw [if_neg (show ¬ bI true = 0 by decide)]
                  exact ih (i + 1) f _ (by omega) (by omega) this
                | false =>
                  rw [hc, if_neg (by decide)] at this
                  rw [if_pos (show bI false = 0 from rfl)]
                  exact ih (i + 1) f _ (by omega) (by omega) this
          · rw [if_neg (by omega)]
            exact ih (i + 1) f b (by omega) (by omega) (BI_no hB (fun x hx q => by rw [hu] at hx; injection hx with hx; subst hx; exact c2 q.1))
        · rw [alw_0 hu c1, if_pos rfl]
          exact ih (i + 1) f b (by omega) (by omega) (BI_no hB (fun x hx q => by rw [hu] at hx; injection hx with hx; subst hx; exact c1 q.2))
theorem ll4 (hn : n ≤ 40) (hR : WR n t s) {m : Nat} (hm : m < 64) : ∀ (r i f : Nat) (b : Int), i + r = mny n t → r < f → BI n t true i 1000 m b → ∃ b', f_X5_linesOfLeastMost_4 f (m : Int) b (i : Int) s = g_X5_linesOfLeastMost_74 b' s ∧ BI n t true (mny n t) 1000 m b' := by
  intro r
  have h64 := mny_le (n := n) (t := t)
  induction r with
  | zero =>
    intro i f b hi hf hB
    match f, hf with
    | f + 1, _ =>
      obtain rfl : i = mny n t := by omega
      refine ⟨b, ?_, hB⟩
      show g_X5_linesOfLeastMost_4 (f_X5_linesOfLeastMost_4 f) _ _ _ s = _
      unfold g_X5_linesOfLeastMost_4
      rw [hR.1, if_pos (by omega)]
  | succ r ih =>
    intro i f b hi hf hB
    match f, hf with
    | f + 1, hf =>
      show ∃ b', g_X5_linesOfLeastMost_4 (f_X5_linesOfLeastMost_4 f) _ _ _ s = _ ∧ _
      have ew : wr ((i : Int) + 1) = ((i + 1 : Nat) : Int) := by rw [wr_t (by omega) (by omega)]; omega
      have n10 : ¬ (1 : Int) = 0 := by decide
      unfold g_X5_linesOfLeastMost_4 g_X5_linesOfLeastMost_41 g_X5_linesOfLeastMost_42 g_X5_linesOfLeastMost_66 g_X5_linesOfLeastMost_68
      simp only [sb_t, ew, if_neg n10, if_true]
      rw [hR.1, if_neg (by omega), X5_fits_v hn hR (by omega), bn_t]
      cases hu : U n t i with
      | none =>
        rw [alw_n hu, if_pos rfl]
        exact ih (i + 1) f b (by omega) (by omega) (BI_no hB (fun x hx => by rw [hu] at hx; cases hx))
      | some z =>
        by_cases c1 : (z.2.2.1 : Int) ≤ 1000
        · have hz64 := (U_bnd hn hu).2.1.2.2.2
          have t3 : f_X3_tell 28 (i : Int) 3 s = some (z.2.2.2 : Int) := by rw [tell28 hR (by omega) hu]; rfl
          rw [alw_y hu c1, if_neg n10, t3, bn_t, oN_and (by omega) (by omega)]
          by_cases c2 : z.2.2.2 &&& m = 0
          · rw [if_pos (by rw [c2]; rfl)]
            obtain ⟨y1, y2⟩ := BI_yes hB hu c2 c1
            by_cases c3 : b = -1
            · rw [if_pos c3]
              exact ih (i + 1) f _ (by omega) (by omega) (y1 c3)
            · rw [if_neg c3]
              rcases id hB with ⟨q, -⟩ | ⟨r', y, q1, q2, q3, -⟩
              · exact absurd q c3
              · have hi28 : i < shl 28 := by rw [shl28]; omega
                have hr28 : r' < shl 28 := by rw [shl28]; omega
                have sz := hR.2 i (by omega)
                have sy := hR.2 r' (by omega)
                rw [hu] at sz
                rw [q3] at sy
                have := y2 r' y q1 q3
                rw [q1, X3_less_v hi28 hr28 sz sy, bn_t]
                rw [q1] at this
                cases hc : ahd true z y with
                | true =>
                  rw [hc, if_pos rfl] at this
                  rw [if_neg (show ¬ bI true = 0 by decide)]
                  exact ih (i + 1) f _ (by omega) (by omega) this
                | false =>
                  rw [hc, if_neg (by decide)] at this
                  rw [if_pos (show bI false = 0 from rfl)]
                  exact ih (i + 1) f _ (by omega) (by omega) this
          · rw [if_neg (by omega)]
            exact ih (i + 1) f b (by omega) (by omega) (BI_no hB (fun x hx q => by rw [hu] at hx; injection hx with hx; subst hx; exact c2 q.1))
        · rw [alw_0 hu c1, if_pos rfl]
          exact ih (i + 1) f b (by omega) (by omega) (BI_no hB (fun x hx q => by rw [hu] at hx; injection hx with hx; subst hx; exact c1 q.2))
theorem X5_fewest_v (hn : n ≤ 40) (hR : WR n t s) (v : Int) {m : Nat} (hm : m < 64) : f_X5_fewestLines (m : Int) v s = some (few n t v m) := by
  have h64 := mny_le (n := n) (t := t)
  obtain ⟨b, a1, a2⟩ := fl5 hn hR (v := v) hm (mny n t) 0 FU (-1) (by omega) (by unfold FU; omega) (Or.inl ⟨rfl, fun x ⟨w, w1, _⟩ => by omega⟩)
  have a1' : f_X5_fewestLines (m : Int) v s = g_X5_fewestLines_78 b s := a1
  rw [a1']
  unfold g_X5_fewestLines_78
  rcases a2 with ⟨b1, b2⟩ | ⟨r, y, b1, b2, b3, b4, b5⟩
  · rw [b1, X3_tell_no (by decide), bn_t]
    congr 1
    exact (fewV_eq (Or.inl ⟨rfl, fun x hx => b2 x ((Qc_LY hn).mpr hx)⟩)).symm
  · rw [b1, tell28 hR b2 b3, bn_t]
    congr 1
    exact (fewV_eq (Or.inr ⟨y, (Qc_LY hn).mp b4, rfl, fun x hx => ahd_f (b5 x ((Qc_LY hn).mpr hx))⟩)).symm
theorem X5_least_v (hn : n ≤ 40) (hR : WR n t s) {m : Nat} (hm : m < 64) : f_X5_linesOfLeastMost (m : Int) s = some (if lst n t m = -1 then -1 else few n t (lst n t m) m) := by
  have h64 := mny_le (n := n) (t := t)
  obtain ⟨b, a1, a2⟩ := ll4 hn hR hm (mny n t) 0 FU (-1) (by omega) (by unfold FU; omega) (Or.inl ⟨rfl, fun x ⟨w, w1, _⟩ => by omega⟩)
  have a1' : f_X5_linesOfLeastMost (m : Int) s = g_X5_linesOfLeastMost_74 b s := a1
  rw [a1']
  unfold g_X5_linesOfLeastMost_74
  rcases a2 with ⟨b1, b2⟩ | ⟨r, y, b1, b2, b3, b4, b5⟩
  · have e : lst n t m = -1 := fewV_eq (Or.inl ⟨rfl, fun x hx => b2 x ((Qc_LY hn).mpr hx)⟩)
    rw [b1, X3_tell_no (by decide), bn_t, if_pos e]
  · have yL := (Qc_LY hn).mp b4
    have yb := LY_bnd hn yL
    have e : lst n t m = (y.2.2.1 : Int) := fewV_eq (Or.inr ⟨y, yL, rfl, fun x hx => (ahd_t (b5 x ((Qc_LY hn).mpr hx))).1⟩)
    have e2 : few n t (y.2.2.1 : Int) m = (y.1 : Int) := fewV_eq (Or.inr ⟨y, LY_mono yL (by omega), rfl, fun x hx => by
      have xb := LY_bnd hn hx
      have := ahd_t (b5 x ((Qc_LY hn).mpr (LY_mono hx (by omega))))
      have := hx.2.2
      show y.1 ≤ x.1
      omega⟩)
    rw [b1, tell28 hR b2 b3, bn_t, if_neg (by omega), e, e2]
    rfl
/-- what the class looks at tells the same -/
theorem sp_same (hn : n ≤ 40) (hW : 1 ≤ W ∧ W ≤ 99) {y : Sh} (h : bestS n t W = some y) (m : Nat) : ((if ovr n t W = true then (if lst n t m = -1 then -1 else few n t (lst n t m) m) else few n t W m) = (y.1 : Int)) ↔ (lwo n t W m = lwo n t W 0 ∧ ovb n t W m = ovb n t W 0) := by
  obtain ⟨e1, e2, e3⟩ := best_some hn hW h
  have f0 : Few (LY n t 1000 0) (fun x => x.2.2.1) (lst n t 0) := fewV_F _ _
  have fm : Few (LY n t 1000 m) (fun x => x.2.2.1) (lst n t m) := fewV_F _ _
  rw [e1, e2]
  by_cases ho : ovr n t W = true
  · rw [if_pos ho, ho]
    rw [ho] at e2
    have hov : W < lst n t 0 := of_decide_eq_true e2
    by_cases q : lst n t m = -1
    · rw [if_pos q]
      constructor
      · intro z; omega
      · intro z
        have z1 := z.1
        unfold lwo at z1
        rw [if_pos q] at z1
        omega
    · rw [if_neg q]
      have hge : lst n t 0 ≤ lst n t m := by
        rcases fm with ⟨q1, -⟩ | ⟨x, x1, x2, x3⟩
        · exact absurd q1 q
        · rcases f0 with ⟨q2, q3⟩ | ⟨z, z1, z2, z3⟩
          · exact absurd (LY_m0 x1) (q3 x)
          · have := z3 x (LY_m0 x1)
            rw [x2, z2]
            omega
      have el : lwo n t W m = few n t (lst n t m) m := by
        unfold lwo
        rw [if_neg q, if_pos (by omega)]
      rw [el]
      constructor
      · intro z
        exact ⟨z, decide_eq_true (by omega)⟩
      · exact fun z => z.1
  · rw [if_neg ho, Bool.eq_false_iff.mpr ho]
    have fw : Few (LY n t W m) (fun x => x.1) (few n t W m) := fewV_F _ _
    by_cases q : lst n t m = -1
    · have nn : few n t W m = -1 := by
        rcases fm with ⟨-, q2⟩ | ⟨x, x1, x2, x3⟩
        · exact fewV_eq (Or.inl ⟨rfl, fun x hx => q2 x (LY_mono hx (by have := LY_bnd hn hx; omega))⟩)
        · rw [x2] at q; omega
      rw [nn]
      constructor
      · intro z; omega
      · intro z
        have z1 := z.1
        unfold lwo at z1
        rw [if_pos q] at z1
        omega
    · by_cases hov : W < lst n t m
      · have nn : few n t W m = -1 := by
          rcases fm with ⟨q1, -⟩ | ⟨x, x1, x2, x3⟩
          · exact absurd q1 q
          · refine fewV_eq (Or.inl ⟨rfl, fun z hz => ?_⟩)
            have x3' : x.2.2.1 ≤ z.2.2.1 := x3 z (LY_mono hz (by have := LY_bnd hn hz; omega))
            have x2 : lst n t m = (x.2.2.1 : Int) := x2
            have := hz.2.2
            rw [x2] at hov
            omega
        rw [nn]
        constructor
        · intro z; omega
        · intro z
          have z2 : ovb n t W m = true := decide_eq_true hov
          rw [z2] at z
          exact absurd z.2 (by decide)
      · have el : lwo n t W m = few n t W m := by
          unfold lwo
          rw [if_neg q]
          by_cases c : W ≤ lst n t m
          · rw [if_pos c, show lst n t m = W by omega]
          · rw [if_neg c]
        rw [el]
        constructor
        · intro z
          exact ⟨z, decide_eq_false hov⟩
        · exact fun z => z.1
theorem sp23 (hn : n ≤ 40) (h : CB n t W s) {y : Sh} (hb : bestS n t W = some y) : ∀ (r k f : Nat), k + r = pC n t → r < f → f_X6_spare_23 f (y.1 : Int) (bitsF (spC n t W) k : Int) (k : Int) s = some (bitsF (spC n t W) (pC n t) : Int) := by
  have hC := pC_le (n := n) (t := t)
  obtain ⟨-, hF, hWy, h6, hW1, -, h9, -, -⟩ := h
  have h10 : s 1 10 = (pC n t : Int) := hF.2.2.1.2.1
  intro r
  induction r with
  | zero =>
    intro k f hk hf
    match f, hf with
    | f + 1, _ =>
      obtain rfl : k = pC n t := by omega
      show g_X6_spare_23 (f_X6_spare_23 f) _ _ _ s = _
      unfold g_X6_spare_23 g_X6_spare_90
      rw [h10, if_pos (by omega)]
  | succ r ih =>
    intro k f hk hf
    match f, hf with
    | f + 1, hf =>
      show g_X6_spare_23 (f_X6_spare_23 f) _ _ _ s = _
      have hlt := bitsF_lt (spC n t W) k
      have hp : 2 ^ k < 2 ^ 6 := Nat.pow_lt_pow_right (by decide) (by omega)
      have hshl : i_shl 1 (k : Int) = ((2 ^ k : Nat) : Int) := by
        have := oN_shl (a := 1) (k := k) (by omega) (by omega)
        rw [Nat.one_mul] at this
        exact this
      have i2 := ih (k + 1) f (by omega) (by omega)
      have eb : bitsF (spC n t W) (k + 1) = if spC n t W k = true then bitsF (spC n t W) k + 2 ^ k else bitsF (spC n t W) k := rfl
      have ew : wr ((k : Int) + 1) = ((k + 1 : Nat) : Int) := by rw [wr_t (by omega) (by omega)]; omega
      have ss := sp_same hn hW1 hb (2 ^ k)
      have go : ∀ z : Int, (z = (y.1 : Int) ↔ spC n t W k = true) → g_X6_spare_71 (f_X6_spare_23 f) (y.1 : Int) (bitsF (spC n t W) k : Int) (k : Int) ((2 ^ k : Nat) : Int) z s = some (bitsF (spC n t W) (pC n t) : Int) := by
        intro z hz
        unfold g_X6_spare_71 g_X6_spare_84
        rw [sb_t, ew, sb_t, sb_t, oN_or (k := 7) (by decide) (by omega) (by omega), bitsF_or]
        by_cases c : spC n t W k = true
        · rw [if_pos (hz.mpr c)]
          rw [if_pos c] at eb
          rw [eb] at i2
          exact i2
        · rw [if_neg (fun q => c (hz.mp q))]
          rw [if_neg c] at eb
          rw [eb] at i2
          exact i2
      unfold g_X6_spare_23
      rw [h10, if_neg (by omega), sb_t, hshl, h9, h6, X5_fewest_v hn hWy.1 W (by omega), bn_t, X5_least_v hn hWy.1 (by omega), bn_t]
      have sp : spC n t W k = true ↔ (lwo n t W (2 ^ k) = lwo n t W 0 ∧ ovb n t W (2 ^ k) = ovb n t W 0) := by
        unfold spC
        exact decide_eq_true_iff
      by_cases ho : ovr n t W = true
      · rw [if_pos ho] at ss
        rw [ho, if_neg (show ¬ bI true = 0 by decide)]
        exact go _ (ss.trans sp.symm)
      · rw [if_neg ho] at ss
        rw [Bool.eq_false_iff.mpr ho, if_pos (show bI false = 0 from rfl)]
        exact go _ (ss.trans sp.symm)
theorem X6_spare_v (h : CB n t W s) : f_X6_spare s = some (spA n t W) := by
  have hn := h.1.1
  have hC := pC_le (n := n) (t := t)
  have h' := h
  obtain ⟨-, -, -, -, hW1, h8, -, h17, -⟩ := h
  unfold f_X6_spare spA
  rw [h8]
  cases hb : bestS n t W with
  | none => rw [if_pos (show bI (none : Option Sh).isSome = 0 from rfl), if_pos (best_none hn hb)]
  | some y =>
    have e : f_X3_tell 17 0 0 s = _ := X3_tell_v (q := 17) (i := 0) (x := 0) (by rw [shl17]; omega) (h17 y hb)
    rw [if_neg (show ¬ bI (some y).isSome = 0 from (by decide : ¬ (1 : Int) = 0)), if_neg (by rw [(best_some hn hW1 hb).1]; omega), e, bn_t]
    exact sp23 hn h' hb (pC n t) 0 FU (by omega) (by unfold FU; omega)
end SPC
