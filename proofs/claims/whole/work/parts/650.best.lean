/-! ===== the best ===== -/
def lex3 (a b c a' b' c' : Nat) : Bool := if a = a' then (if b = b' then decide (c < c') else decide (b < b')) else decide (a < a')
def ahd (o : Bool) (x y : Sh) : Bool := if o = true then lex3 x.2.2.1 x.1 x.2.1 y.2.2.1 y.1 y.2.1 else lex3 x.1 x.2.2.1 x.2.1 y.1 y.2.2.1 y.2.1
def bst (o : Bool) : List Sh → Option Sh → Option Sh
  | [], b => b
  | x :: L, none => bst o L (some x)
  | x :: L, some b => bst o L (if ahd o x b = true then some x else some b)
theorem bst_some (o : Bool) : ∀ (L : List Sh) (b : Sh), ∃ y, bst o L (some b) = some y ∧ (y = b ∨ y ∈ L)
  | [], b => ⟨b, rfl, Or.inl rfl⟩
  | x :: L, b => by
      show ∃ y, bst o L (if ahd o x b = true then some x else some b) = some y ∧ _
      split
      · obtain ⟨y, h1, h2⟩ := bst_some o L x
        exact ⟨y, h1, Or.inr (by rcases h2 with h | h <;> simp [h])⟩
      · obtain ⟨y, h1, h2⟩ := bst_some o L b
        exact ⟨y, h1, by rcases h2 with h | h <;> simp [h]⟩
def encB : Option Sh → Int
  | none => -1
  | some x => (pk x : Int)
def ovr (n : Nat) (t : Nat → Int) (W : Int) : Bool := decide (0 < pN n t) && (FR W (pN n t) (pK n t) (pU n t) 0).isEmpty
def bestS (n : Nat) (t : Nat → Int) (W : Int) : Option Sh := if pN n t = 0 then none else if ovr n t W = true then bst true (FR 500 (pN n t) (pK n t) (pU n t) 0) none else bst false (FR W (pN n t) (pK n t) (pU n t) 0) none
theorem lex_if {K : Int → Option Int} {a b c a' b' c' : Nat} : (if (a : Int) = a' then (if (b : Int) = b' then (if (c' : Int) ≤ c then K 0 else K 1) else (if (b' : Int) ≤ b then K 0 else K 1)) else (if (a' : Int) ≤ a then K 0 else K 1)) = K (bI (lex3 a b c a' b' c')) := by
  unfold lex3
  have cs : ∀ x y : Nat, (if (y : Int) ≤ x then K 0 else K 1) = K (bI (decide (x < y))) := by
    intro x y
    by_cases h : x < y
    · rw [if_neg (by omega), decide_eq_true h]; rfl
    · rw [if_pos (by omega), decide_eq_false h]; rfl
  rw [cs, cs, cs]
  by_cases h1 : a = a'
  · rw [if_pos (by omega), if_pos h1]
    by_cases h2 : b = b'
    · rw [if_pos (by omega), if_pos h2]
    · rw [if_neg (by omega), if_neg h2]
  · rw [if_neg (by omega), if_neg h1]
theorem gb_bI (b : Bool) : gb (bI b) (some (bI b)) = some (bI b) := by
  cases b
  · exact gb_0
  · exact gb_1
theorem X7_isAhead_v {x y : Sh} (hx : sOK x) (hy : sOK y) {s : SS} {o : Bool} (h : s 0 19 = bI o) : f_X7_isAhead (pk x : Int) (pk y : Int) s = some (bI (ahd o x y)) := by
  unfold f_X7_isAhead g_X7_isAhead_18 g_X7_isAhead_37 g_X7_isAhead_57 g_X7_isAhead_77 g_X7_isAhead_137
  rw [X7_lines_pk hx, X7_lines_pk hy, X7_most_pk hx, X7_most_pk hy, X7_last_pk hx, X7_last_pk hy, h]
  simp only [bn_t]
  cases o with
  | false =>
    simp only [if_pos (show bI false = 0 from rfl)]
    rw [show ahd false x y = lex3 x.1 x.2.2.1 x.2.1 y.1 y.2.2.1 y.2.1 from rfl]
    exact (lex_if (K := fun z => gb z (some z))).trans (gb_bI _)
  | true =>
    simp only [if_neg (show ¬ bI true = 0 by decide)]
    rw [show ahd true x y = lex3 x.2.2.1 x.1 x.2.1 y.2.2.1 y.1 y.2.1 from rfl]
    exact (lex_if (K := fun z => gb z (some z))).trans (gb_bI _)
section BM
variable {n : Nat} {t : Nat → Int} {W : Int} {s : SS}
theorem fb50 {o : Bool} {np : Nat} (hnp : 0 < np) {L : List Sh} (hok : allOK L) (h64 : L.length ≤ 64) : ∀ (B D : List Sh) (f : Nat) (s : SS) (b : Option Sh), L = D ++ B → B.length < f → s 10 0 = (L.length : Int) → rowM s 0 L → s 0 4 = (np : Int) → s 0 19 = bI o → s 0 18 = encB b → (∀ x, b = some x → sOK x) → ∃ s', f_X7_findsBest_50 f (D.length : Int) s = some s' ∧ s' 0 18 = encB (bst o B b) ∧ ∀ q k, (q = 0 → k ≠ 18) → s' q k = s q k := by
  intro B
  induction B with
  | nil =>
    intro D f s b hD hf h10 hr h4 h19 h18 hb
    match f, hf with
    | f + 1, _ =>
      simp only [List.append_nil] at hD
      subst hD
      refine ⟨s, ?_, h18, fun _ _ _ => rfl⟩
      show g_X7_findsBest_50 (f_X7_findsBest_50 f) _ s = _
      unfold g_X7_findsBest_50 g_X7_findsBest_115
      rw [gx_d (by omega) (by omega), show (0 : Int).toNat = 0 from rfl, h10, if_pos (by omega)]
  | cons x B ih =>
    intro D f s b hD hf h10 hr h4 h19 h18 hb
    match f, hf with
    | f + 1, hf =>
      simp only [List.length_cons] at hf
      have hlen : L.length = D.length + (B.length + 1) := by rw [hD]; simp
      have hxL : x ∈ L := by rw [hD]; simp
      have hrow : s 9 D.length = (pk x : Int) := by
        have := hr D.length (by omega)
        rw [hD, getD_mid, Nat.zero_add] at this
        exact this
      show ∃ s', g_X7_findsBest_50 (f_X7_findsBest_50 f) _ s = _ ∧ _
      unfold g_X7_findsBest_50 g_X7_findsBest_93
      rw [gx_d (by omega) (by omega), show (0 : Int).toNat = 0 from rfl, h10, if_neg (by omega), h4, if_neg (by omega), gx_d (by omega) (by omega), gx_d (by omega) (by omega), tn_c, hrow, h18]
      have go : ∀ b' : Option Sh, (∀ y, b' = some y → sOK y) → ∃ s', g_X7_findsBest_106 (f_X7_findsBest_50 f) (D.length : Int) (encB b') s = some s' ∧ s' 0 18 = encB (bst o B b') ∧ ∀ q k, (q = 0 → k ≠ 18) → s' q k = s q k := by
        intro b' hb'
        unfold g_X7_findsBest_106
        rw [sb_t, sb_t, wr_t (by omega) (by omega)]
        have fr : ∀ q k, (q = 0 → k ≠ 18) → (up s 0 18 (encB b')) q k = s q k := by
          intro q k z
          by_cases hq : q = 0
          · subst hq; exact up_k (z rfl)
          · exact up_q hq
        obtain ⟨s', c1, c2, c3⟩ := ih (D ++ [x]) f (up s 0 18 (encB b')) b' (by rw [hD]; simp) (by omega) (by rw [fr 10 0 (fun z => by cases z)]; exact h10) (fun j hj => by rw [fr 9 _ (fun z => by cases z)]; exact hr j hj) (by rw [fr 0 4 (fun _ => by decide)]; exact h4) (by rw [fr 0 19 (fun _ => by decide)]; exact h19) up_s hb'
        rw [show (D.length : Int) + 1 = (((D ++ [x]).length : Nat) : Int) by simp]
        exact ⟨s', c1, c2, fun q k z => by rw [c3 q k z, fr q k z]⟩
      cases b with
      | none =>
        rw [if_pos (show encB none = -1 from rfl)]
        exact go (some x) (fun y hy => by injection hy with hy; rw [← hy]; exact hok x hxL)
      | some y =>
        have hyo := hb y rfl
        rw [if_neg (show ¬ encB (some y) = -1 by show ¬ ((pk y : Nat) : Int) = -1; omega)]
        rw [show encB (some y) = (pk y : Int) from rfl, X7_isAhead_v (hok x hxL) hyo h19, bn_t]
        show ∃ s' : SS, _ ∧ s' 0 18 = encB (bst o B (if ahd o x y = true then some x else some y)) ∧ _
        cases ha : ahd o x y with
        | false =>
          rw [if_pos (show bI false = 0 from rfl), if_neg (show ¬ false = true by decide)]
          exact go (some y) (fun z hz => by injection hz with hz; rw [← hz]; exact hyo)
        | true =>
          rw [if_neg (show ¬ bI true = 0 by decide), if_pos (show true = true from rfl)]
          exact go (some x) (fun z hz => by injection hz with hz; rw [← hz]; exact hok x hxL)
theorem X7_findsBest_v (h : TX n t W s) : ∃ s', f_X7_findsBest s = some s' ∧ MR n t s' ∧ s' 0 18 = encB (bestS n t W) ∧ s' 0 19 = bI (ovr n t W) ∧ frX s s' := by
  obtain ⟨s1, a, b, c, d⟩ := X7_frontsTold_v h
  have hl : pN n t ≤ n := (pts_ok n t).2
  have hn := h.1.1
  have b4 : s1 0 4 = (pN n t : Int) := b.2.1
  unfold f_X7_findsBest g_X7_findsBest_30 g_X7_findsBest_31 g_X7_findsBest_48
  rw [a, bn_t, sb_t, up_k (by decide), b4, sb_t, sb_t, gb_0, gb_1]
  have fr : ∀ z : Int, ∀ q k, (q = 0 → k ≠ 18 ∧ k ≠ 19) → (up (up s1 0 18 (-1)) 0 19 z) q k = s1 q k := by
    intro z q k x
    by_cases hq : q = 0
    · subst hq; rw [up_k (x rfl).2, up_k (x rfl).1]
    · rw [up_q hq, up_q hq]
  by_cases h0 : pN n t = 0
  · rw [if_pos (by omega), up_s, if_pos rfl]
    have eo : ovr n t W = false := by unfold ovr; rw [h0]; rfl
    have eb : bestS n t W = none := by unfold bestS; rw [if_pos h0]
    refine ⟨up (up s1 0 18 (-1)) 0 19 0, ?_, MR_fr b (fun k _ _ => fr 0 0 k (fun _ => by omega)) (fun q k _ _ => fr 0 q k (fun z => by omega)), by rw [up_k (by decide), up_s, eb]; rfl, by rw [up_s, eo]; rfl, frX_trans d (fun q k x y => fr 0 q k (fun z => by have := x z; omega))⟩
    show g_X7_findsBest_50 (f_X7_findsBest_50 199) _ _ = _
    unfold g_X7_findsBest_50 g_X7_findsBest_115
    rw [gx_d (by omega) (by omega), fr 0 0 4 (fun _ => by decide), b4]
    split
    · rfl
    · rw [if_pos (by omega)]
  · rw [if_neg (by omega), gx_d (by omega) (by omega), show (0 : Int).toNat = 0 from rfl, up_q (by decide)]
    have hd := D_1 (t := t) hn (by omega)
    obtain ⟨f1, f2, f3, f4⟩ := c.2.2.2 0 (by omega) (by omega)
    rw [f1]
    by_cases hE : (FR W (pN n t) (pK n t) (pU n t) 0).length = 0
    · rw [if_pos (by omega), up_s, if_neg (by decide)]
      have eo : ovr n t W = true := by
        unfold ovr
        rw [decide_eq_true (by omega), List.length_eq_zero_iff.mp hE]
        rfl
      obtain ⟨s2, a2, b2, c2⟩ := X7_findsFronts_v (W := 500) (D_0 (t := t) hn) (s := up (up s1 0 18 (-1)) 0 19 1) (by rw [fr 1 0 4 (fun _ => by decide)]; exact b4) (MP_fr (MR_MP b) (fun k => ⟨fr 1 2 k (fun z => by cases z), fr 1 3 k (fun z => by cases z), fr 1 7 k (fun z => by cases z)⟩))
      obtain ⟨g1, g2, g3, g4⟩ := b2.2.2.2 0 (by omega) (by omega)
      obtain ⟨s3, a3, b3, c3⟩ := fb50 (o := true) (np := pN n t) (by omega) g3 g4 (FR 500 (pN n t) (pK n t) (pU n t) 0) [] FU s2 none rfl (by unfold FU; omega) g1 g2 (by rw [c2 0 4 (fun _ => by decide) (by decide) (by decide), fr 1 0 4 (fun _ => by decide)]; exact b4) (by rw [c2 0 19 (fun _ => by decide) (by decide) (by decide), up_s]; rfl) (by rw [c2 0 18 (fun _ => by decide) (by decide) (by decide), up_k (by decide), up_s]; rfl) (fun x hx => by cases hx)
      have fr3 : ∀ q k, (q = 0 → k ≠ 15 ∧ k ≠ 16 ∧ k ≠ 17 ∧ k ≠ 18 ∧ k ≠ 19) → q ≠ 9 → q ≠ 10 → s3 q k = s1 q k := fun q k x y z => by
        rw [c3 q k (fun e => (x e).2.2.2.1), c2 q k (fun e => ⟨(x e).1, (x e).2.1, (x e).2.2.1⟩) y z, fr 1 q k (fun e => ⟨(x e).2.2.2.1, (x e).2.2.2.2⟩)]
      refine ⟨s3, ?_, MR_fr b (fun k _ _ => fr3 0 k (fun _ => by omega) (by decide) (by decide)) (fun q k _ _ => fr3 q k (fun z => by omega) (by omega) (by omega)), ?_, ?_, frX_trans d (fun q k x y => fr3 q k (fun z => by have := x z; omega) (by omega) (by omega))⟩
      · rw [a2, bn_t]
        exact a3
      · rw [b3]
        unfold bestS
        rw [if_neg h0, if_pos eo]
      · rw [c3 0 19 (fun _ => by decide), c2 0 19 (fun _ => by decide) (by decide) (by decide), up_s, eo]
        rfl
    · rw [if_neg (by omega), up_s, if_pos rfl]
      have eo : ovr n t W = false := by
        unfold ovr
        have : (FR W (pN n t) (pK n t) (pU n t) 0).isEmpty = false := by
          cases hq : (FR W (pN n t) (pK n t) (pU n t) 0) with
          | nil => rw [hq] at hE; exact absurd rfl hE
          | cons _ _ => rfl
        rw [this, Bool.and_false]
      obtain ⟨s3, a3, b3, c3⟩ := fb50 (o := false) (np := pN n t) (by omega) f3 f4 (FR W (pN n t) (pK n t) (pU n t) 0) [] FU (up (up s1 0 18 (-1)) 0 19 0) none rfl (by unfold FU; omega) (by rw [fr 0 10 0 (fun z => by cases z)]; exact f1) (fun j hj => by rw [fr 0 9 _ (fun z => by cases z)]; exact f2 j hj) (by rw [fr 0 0 4 (fun _ => by decide)]; exact b4) (by rw [up_s]; rfl) (by rw [up_k (by decide), up_s]; rfl) (fun x hx => by cases hx)
      have fr3 : ∀ q k, (q = 0 → k ≠ 18 ∧ k ≠ 19) → s3 q k = s1 q k := fun q k x => by
        rw [c3 q k (fun e => (x e).1), fr 0 q k x]
      refine ⟨s3, a3, MR_fr b (fun k _ _ => fr3 0 k (fun _ => by omega)) (fun q k _ _ => fr3 q k (fun z => by omega)), ?_, ?_, frX_trans d (fun q k x y => fr3 q k (fun z => by have := x z; omega))⟩
      · rw [b3]
        unfold bestS
        rw [if_neg h0, eo, if_neg (by decide)]
      · rw [c3 0 19 (fun _ => by decide), up_s, eo]
        rfl
def besA (n : Nat) (t : Nat → Int) (W y : Int) : Int := match bestS n t W with
  | none => -1
  | some x => if y = 4 then bI (ovr n t W) else tellA x y
theorem bestS_ok (hn : n ≤ 40) {x : Sh} (h : bestS n t W = some x) : 0 < pN n t ∧ DOK (pN n t) (pK n t) (pU n t) ∧ sOK x ∧ x ∈ FR (if ovr n t W = true then 500 else W) (pN n t) (pK n t) (pU n t) 0 := by
  unfold bestS at h
  by_cases h0 : pN n t = 0
  · rw [if_pos h0] at h; cases h
  · rw [if_neg h0] at h
    have hd := D_1 (t := t) hn (by omega)
    have key : ∀ (o : Bool) (L : List Sh), bst o L none = some x → x ∈ L := by
      intro o L hL
      cases L with
      | nil => cases hL
      | cons y L =>
        obtain ⟨z, h1, h2⟩ := bst_some o L y
        have e : bst o (y :: L) none = bst o L (some y) := rfl
        rw [e, h1] at hL
        injection hL with hL
        subst hL
        rcases h2 with h2 | h2 <;> simp [h2]
    by_cases ho : ovr n t W = true
    · rw [if_pos ho] at h ⊢
      have hm := key _ _ h
      exact ⟨by omega, hd, bnd_sOK hd (by omega) ((FR_bnd hd 0 (by omega)).1 x hm), hm⟩
    · rw [if_neg ho] at h ⊢
      have hm := key _ _ h
      exact ⟨by omega, hd, bnd_sOK hd (by omega) ((FR_bnd hd 0 (by omega)).1 x hm), hm⟩
theorem X7_bestOf_v (h : TX n t W s) (y : Int) : ∃ s', f_X7_bestOf y s = some (besA n t W y, s') ∧ frX s s' := by
  obtain ⟨s1, a, b, c, d, e⟩ := X7_findsBest_v h
  refine ⟨s1, ?_, e⟩
  unfold f_X7_bestOf g_X7_bestOf_44 besA
  rw [a, bn_t, c, d]
  cases hb : bestS n t W with
  | none => rw [if_pos (show encB none = -1 from rfl)]
  | some x =>
    rw [if_neg (show ¬ encB (some x) = -1 by show ¬ ((pk x : Nat) : Int) = -1; omega), show encB (some x) = (pk x : Int) from rfl, X7_tellOf_v (bestS_ok h.1.1 hb).2.2.1, bn_t]
    dsimp only
    by_cases y4 : y = 4
    · rw [if_pos y4, if_pos y4]
      cases ovr n t W
      · rfl
      · rfl
    · rw [if_neg y4, if_neg y4]
end BM
