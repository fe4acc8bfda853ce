/-! ===== where each part is set ===== -/
abbrev Ps : Type := Nat → Option (Nat × Nat)
def stp (P : Ps) (k r c : Nat) : Ps := fun j => if j = k then some (r, c) else P j
def lnS : Option Sh → Nat
  | some x => x.1
  | none => 0
def laS : Option Sh → Nat
  | some x => x.2.1
  | none => 0
def upP (w np : Nat) (kd nu : Nat → Int) (P : Ps) (k : Nat) : Ps := match P k with
  | none => P
  | some p => if kd k = 0 then P else if kd k = 1 then stp (stp P (k + 1) p.1 p.2) (scn np kd k) (p.1 + lnS (SH w np kd nu (k + 1)) - 1) (p.2 + laS (SH w np kd nu (k + 1))) else if kd k = 2 then stp (stp P (k + 1) p.1 p.2) (scn np kd k) (p.1 + lnS (SH w np kd nu (k + 1))) p.2 else if kd k = 3 then stp P (if w.testBit (nu k).toNat = true then scn np kd k else k + 1) p.1 p.2 else stp P (k + 1) p.1 (p.2 + (if kd k = 4 then (nu k).toNat else 0))
def PLs (w np : Nat) (kd nu : Nat → Int) : Nat → Ps
  | 0 => fun j => if j = 0 then some (0, 0) else none
  | i + 1 => upP w np kd nu (PLs w np kd nu i) i
section PLC
variable {w np : Nat} {kd nu : Nat → Int}
theorem stp_eq (P : Ps) (k r c : Nat) : stp P k r c k = some (r, c) := if_pos rfl
theorem stp_ne {P : Ps} {k r c j : Nat} (h : j ≠ k) : stp P k r c j = P j := if_neg h
/-- only what is below is touched -/
theorem upP_off (hd : DOK np kd nu) {P : Ps} {k j : Nat} (hk : k < np) (h : ¬ isPar np kd k j) : upP w np kd nu P k j = P j := by
  unfold upP
  cases hP : P k with
  | none => rfl
  | some p =>
    dsimp only
    rcases PK_of hd hk with ⟨q, a, n1, n2⟩ | ⟨q, a, h0, h3, n, k1, k2, k3⟩ | ⟨q, a, h0, n, n6, k1, k2, k3⟩ | ⟨q, a, h0, h3, h12, n1, n0, n2, k1⟩
    · rw [if_pos q]
    · have j1 : j ≠ k + 1 := fun z => h ⟨hk, Or.inl ⟨by omega, z⟩⟩
      have j2 : j ≠ scn np kd k := fun z => h ⟨hk, Or.inr ⟨a, z⟩⟩
      rw [if_neg h0]
      rcases q with q | q
      · rw [if_pos q, stp_ne j2, stp_ne j1]
      · rw [if_neg (by omega), if_pos q, stp_ne j2, stp_ne j1]
    · have j1 : j ≠ k + 1 := fun z => h ⟨hk, Or.inl ⟨by omega, z⟩⟩
      have j2 : j ≠ scn np kd k := fun z => h ⟨hk, Or.inr ⟨a, z⟩⟩
      rw [if_neg h0, if_neg (by omega), if_neg (by omega), if_pos q]
      exact stp_ne (by split <;> assumption)
    · have j1 : j ≠ k + 1 := fun z => h ⟨hk, Or.inl ⟨by omega, z⟩⟩
      rw [if_neg h0, if_neg (fun z => h12 (Or.inl z)), if_neg (fun z => h12 (Or.inr z)), if_neg h3]
      exact stp_ne j1
theorem isPar_gt (hd : DOK np kd nu) {k j : Nat} (h : isPar np kd k j) : k < j ∧ j < np := by
  have hw := hd.2.1
  obtain ⟨hk, ⟨a, b⟩ | ⟨a, b⟩⟩ := h
  · have := wf_1 hw hk a
    omega
  · have := wf_2 hw hk a
    have := sc_gt hw hk a
    omega
theorem PL_low (hd : DOK np kd nu) {k : Nat} : ∀ i, k ≤ i → i ≤ np → PLs w np kd nu i k = PLs w np kd nu k k := by
  intro i
  induction i with
  | zero => intro h _; obtain rfl : k = 0 := by omega
            rfl
  | succ i ih =>
    intro h h2
    by_cases hk : k = i + 1
    · subst hk; rfl
    · have e : PLs w np kd nu (i + 1) k = PLs w np kd nu i k := upP_off hd (by omega) (fun z => by have := (isPar_gt hd z).1; omega)
      rw [e, ih (by omega) (by omega)]
/-- before its own one is at hand it isn't set -/
theorem PL_none (hd : DOK np kd nu) {k j : Nat} (h : isPar np kd k j) : ∀ i, i ≤ k → PLs w np kd nu i j = none := by
  have hj := isPar_gt hd h
  intro i
  induction i with
  | zero => intro _; exact if_neg (by omega)
  | succ i ih =>
    intro hi
    have e : PLs w np kd nu (i + 1) j = PLs w np kd nu i j := upP_off hd (by omega) (fun z => by
      have := isPar.unique hd.2.1 z h
      omega)
    rw [e, ih (by omega)]
theorem PL_high (hd : DOK np kd nu) {k j : Nat} (h : isPar np kd k j) : ∀ i, k + 1 ≤ i → i ≤ np → PLs w np kd nu i j = PLs w np kd nu (k + 1) j := by
  intro i
  induction i with
  | zero => intro h1; omega
  | succ i ih =>
    intro hi hi2
    by_cases hk : k = i
    · subst hk; rfl
    · have e : PLs w np kd nu (i + 1) j = PLs w np kd nu i j := upP_off hd (by omega) (fun z => by
        have := isPar.unique hd.2.1 z h
        omega)
      rw [e, ih (by omega) (by omega)]
/-- in the end -/
def PF (w np : Nat) (kd nu : Nat → Int) : Ps := PLs w np kd nu np
theorem PF_at (hd : DOK np kd nu) {k : Nat} (hk : k < np) : PF w np kd nu k = PLs w np kd nu k k := PL_low hd np (by omega) (Nat.le_refl _)
theorem PF_child (hd : DOK np kd nu) {k j : Nat} (h : isPar np kd k j) : PF w np kd nu j = upP w np kd nu (PLs w np kd nu k) k j ∧ PLs w np kd nu k j = none ∧ PLs w np kd nu k k = PF w np kd nu k :=
  ⟨PL_high hd h np (by have := h.1; omega) (Nat.le_refl _), PL_none hd h k (Nat.le_refl _), (PF_at hd h.1).symm⟩
theorem PF_none (hd : DOK np kd nu) {k j : Nat} (h : isPar np kd k j) (hk : PF w np kd nu k = none) : PF w np kd nu j = none := by
  obtain ⟨a, b, c⟩ := PF_child (w := w) hd h
  rw [hk] at c
  rw [a]
  unfold upP
  rw [c]
  exact b
theorem par1 {k : Nat} (hk : k < np) (a : ar (kd k) ≠ 0) : isPar np kd k (k + 1) := ⟨hk, Or.inl ⟨a, rfl⟩⟩
theorem par2 {k : Nat} (hk : k < np) (a : ar (kd k) = 2) : isPar np kd k (scn np kd k) := ⟨hk, Or.inr ⟨a, rfl⟩⟩
theorem PF_1 (hd : DOK np kd nu) {k r c : Nat} (hk : k < np) (q : kd k = 1) (h : PF w np kd nu k = some (r, c)) : PF w np kd nu (k + 1) = some (r, c) ∧ PF w np kd nu (scn np kd k) = some (r + lnS (SH w np kd nu (k + 1)) - 1, c + laS (SH w np kd nu (k + 1))) := by
  have a : ar (kd k) = 2 := by rw [q]; decide
  have hg := sc_gt hd.2.1 hk a
  obtain ⟨a1, -, c1⟩ := PF_child (w := w) hd (par1 hk (by omega))
  obtain ⟨a2, -, -⟩ := PF_child (w := w) hd (par2 hk a)
  rw [h] at c1
  rw [a1, a2]
  unfold upP
  rw [c1]
  dsimp only
  rw [if_neg (by omega), if_pos q, stp_eq, stp_ne (by omega), stp_eq]
  exact ⟨rfl, rfl⟩
theorem PF_2 (hd : DOK np kd nu) {k r c : Nat} (hk : k < np) (q : kd k = 2) (h : PF w np kd nu k = some (r, c)) : PF w np kd nu (k + 1) = some (r, c) ∧ PF w np kd nu (scn np kd k) = some (r + lnS (SH w np kd nu (k + 1)), c) := by
  have a : ar (kd k) = 2 := by rw [q]; decide
  have hg := sc_gt hd.2.1 hk a
  obtain ⟨a1, -, c1⟩ := PF_child (w := w) hd (par1 hk (by omega))
  obtain ⟨a2, -, -⟩ := PF_child (w := w) hd (par2 hk a)
  rw [h] at c1
  rw [a1, a2]
  unfold upP
  rw [c1]
  dsimp only
  rw [if_neg (by omega), if_neg (by omega), if_pos q, stp_eq, stp_ne (by omega), stp_eq]
  exact ⟨rfl, rfl⟩
theorem PF_3 (hd : DOK np kd nu) {k r c : Nat} (hk : k < np) (q : kd k = 3) (h : PF w np kd nu k = some (r, c)) : PF w np kd nu (k + 1) = (if w.testBit (nu k).toNat = true then none else some (r, c)) ∧ PF w np kd nu (scn np kd k) = (if w.testBit (nu k).toNat = true then some (r, c) else none) := by
  have a : ar (kd k) = 2 := by rw [q]; decide
  have hg := sc_gt hd.2.1 hk a
  obtain ⟨a1, b1, c1⟩ := PF_child (w := w) hd (par1 hk (by omega))
  obtain ⟨a2, b2, -⟩ := PF_child (w := w) hd (par2 hk a)
  rw [h] at c1
  rw [a1, a2]
  unfold upP
  rw [c1]
  dsimp only
  rw [if_neg (by omega), if_neg (by omega), if_neg (by omega), if_pos q]
  cases hb : w.testBit (nu k).toNat with
  | true =>
    rw [if_pos rfl, if_pos rfl, if_pos rfl, stp_eq, stp_ne (by omega)]
    exact ⟨b1, rfl⟩
  | false =>
    rw [if_neg (by decide), if_neg (by decide), if_neg (by decide), stp_eq, stp_ne (by omega)]
    exact ⟨rfl, b2⟩
theorem PF_4 (hd : DOK np kd nu) {k r c : Nat} (hk : k < np) (q : kd k = 4 ∨ kd k = 5) (h : PF w np kd nu k = some (r, c)) : PF w np kd nu (k + 1) = some (r, c + (if kd k = 4 then (nu k).toNat else 0)) := by
  have a : ar (kd k) = 1 := by rcases q with q | q <;> rw [q] <;> decide
  obtain ⟨a1, b1, c1⟩ := PF_child (w := w) hd (par1 hk (by omega))
  rw [h] at c1
  rw [a1]
  unfold upP
  rw [c1]
  dsimp only
  rw [if_neg (by omega), if_neg (by omega), if_neg (by omega), if_neg (by omega), stp_eq]
/-- the parts in part k -/
def inS (np : Nat) (kd : Nat → Int) (k j : Nat) : Prop := k ≤ j ∧ j < k + wi np kd k
theorem inS_0 (hd : DOK np kd nu) {k j : Nat} (hk : k < np) (a : ar (kd k) = 0) (h : inS np kd k j) : j = k := by
  have := wi_0 hd.2.1 hk a
  unfold inS at h
  omega
theorem inS_1 (hd : DOK np kd nu) {k j : Nat} (hk : k < np) (a : ar (kd k) = 1) (h : inS np kd k j) : j = k ∨ inS np kd (k + 1) j := by
  have := wi_1 hd.2.1 hk a
  unfold inS at h ⊢
  omega
theorem inS_2 (hd : DOK np kd nu) {k j : Nat} (hk : k < np) (a : ar (kd k) = 2) (h : inS np kd k j) : j = k ∨ inS np kd (k + 1) j ∨ inS np kd (scn np kd k) j := by
  have := wi_2 hd.2.1 hk a
  have e : scn np kd k = k + 1 + wi np kd (k + 1) := rfl
  unfold inS at h ⊢
  omega
theorem PF_N (hd : DOK np kd nu) : ∀ k, k < np → PF w np kd nu k = none → ∀ j, inS np kd k j → PF w np kd nu j = none := by
  refine part_ind hd.2.1 (fun k hk h1 h2 hn j hj => ?_)
  rcases ar_3 (kd k) with a | a | a
  · rw [inS_0 hd hk a hj]; exact hn
  · rcases inS_1 hd hk a hj with rfl | hj
    · exact hn
    · exact h1 (by omega) (PF_none hd (par1 hk (by omega)) hn) j hj
  · rcases inS_2 hd hk a hj with rfl | hj | hj
    · exact hn
    · exact h1 (by omega) (PF_none hd (par1 hk (by omega)) hn) j hj
    · exact h2 a (PF_none hd (par2 hk a) hn) j hj
/-- a part's words are set within its lines, and its last one ends where it ends -/
theorem PF_G (hd : DOK np kd nu) : ∀ k, k < np → ∀ r c x, PF w np kd nu k = some (r, c) → SH w np kd nu k = some x → ∀ j, inS np kd k j → kd j = 0 → ∀ r' c', PF w np kd nu j = some (r', c') → r ≤ r' ∧ r' + 1 ≤ r + x.1 ∧ c ≤ c' ∧ (r' + 1 = r + x.1 → c' + (nu j).toNat ≤ c + x.2.1) := by
  refine part_ind hd.2.1 (fun k hk h1 h2 r c x hP hx j hj hj0 r' c' hP' => ?_)
  have hb := SH_bnd (w := w) hd k hk x hx
  rw [SH_eq hd.2.1 hk] at hx
  unfold shF at hx
  rcases PK_of hd hk with ⟨h, a, n1, n2⟩ | ⟨h, a, h0, h3, n, k1, k2, k3⟩ | ⟨h, a, h0, n, n6, k1, k2, k3⟩ | ⟨h, a, h0, h3, h12, n1, n0, n2, k1⟩
  · rw [if_pos h] at hx
    injection hx with hx
    subst hx
    rw [inS_0 hd hk a hj] at hP' ⊢
    rw [hP] at hP'
    injection hP' with hP'
    injection hP' with e1 e2
    dsimp only
    omega
  · rw [if_neg h0, if_neg h3, if_pos h] at hx
    obtain ⟨u, hu, hx⟩ := Option.bind_eq_some_iff.mp hx
    obtain ⟨v, hv, rfl⟩ := Option.map_eq_some_iff.mp hx
    have ub := SH_bnd (w := w) hd _ k1 u hu
    have vb := SH_bnd (w := w) hd _ k2 v hv
    have ul : lnS (SH w np kd nu (k + 1)) = u.1 := by rw [hu]; rfl
    have ua : laS (SH w np kd nu (k + 1)) = u.2.1 := by rw [hu]; rfl
    obtain ⟨ub1, -⟩ := ub
    obtain ⟨vb1, -⟩ := vb
    rcases inS_2 hd hk a hj with rfl | hj | hj
    · exact absurd hj0 h0
    · rcases h with h | h
      · have p1 := (PF_1 hd hk h hP).1
        obtain ⟨g1, g2, g3, g4⟩ := h1 (by omega) r c u p1 hu j hj hj0 r' c' hP'
        unfold bth
        rw [if_pos h]
        dsimp only
        refine ⟨g1, by omega, g3, fun e => ?_⟩
        have := g4 (by omega)
        omega
      · have p1 := (PF_2 hd hk h hP).1
        obtain ⟨g1, g2, g3, g4⟩ := h1 (by omega) r c u p1 hu j hj hj0 r' c' hP'
        unfold bth
        rw [if_neg (by omega)]
        dsimp only
        exact ⟨g1, by omega, g3, fun e => by omega⟩
    · rcases h with h | h
      · have p1 := (PF_1 hd hk h hP).2
        rw [ul, ua] at p1
        obtain ⟨g1, g2, g3, g4⟩ := h2 a _ _ v p1 hv j hj hj0 r' c' hP'
        unfold bth
        rw [if_pos h]
        dsimp only
        refine ⟨by omega, by omega, by omega, fun e => ?_⟩
        have := g4 (by omega)
        omega
      · have p1 := (PF_2 hd hk h hP).2
        rw [ul] at p1
        obtain ⟨g1, g2, g3, g4⟩ := h2 a _ _ v p1 hv j hj hj0 r' c' hP'
        unfold bth
        rw [if_neg (by omega)]
        dsimp only
        refine ⟨by omega, by omega, by omega, fun e => ?_⟩
        have := g4 (by omega)
        omega
  · rw [if_neg h0, if_pos h] at hx
    obtain ⟨p1, p2⟩ := PF_3 hd hk h hP
    cases hbt : w.testBit (nu k).toNat with
    | true =>
      rw [hbt, if_pos rfl] at hx p1 p2
      obtain ⟨v, hv, rfl⟩ := Option.map_eq_some_iff.mp hx
      rcases inS_2 hd hk a hj with rfl | hj | hj
      · exact absurd hj0 h0
      · rw [PF_N hd _ k1 p1 j hj] at hP'
        cases hP'
      · exact h2 a r c v p2 hv j hj hj0 r' c' hP'
    | false =>
      rw [hbt, if_neg (by decide)] at hx p1 p2
      rcases inS_2 hd hk a hj with rfl | hj | hj
      · exact absurd hj0 h0
      · exact h1 (by omega) r c x p1 hx j hj hj0 r' c' hP'
      · rw [PF_N hd _ k2 p2 j hj] at hP'
        cases hP'
  · rw [if_neg h0, if_neg h3, if_neg h12] at hx
    obtain ⟨u, hu, hx⟩ := Option.bind_eq_some_iff.mp hx
    by_cases h5 : kd k = 5 ∧ 1 < u.1
    · rw [if_pos h5] at hx; cases hx
    · rw [if_neg h5] at hx
      injection hx with hx
      subst hx
      rcases inS_1 hd hk a hj with rfl | hj
      · exact absurd hj0 h0
      · obtain ⟨g1, g2, g3, g4⟩ := h1 (by omega) _ _ u (PF_4 hd hk h hP) hu j hj hj0 r' c' hP'
        unfold psh
        dsimp only
        refine ⟨g1, g2, by omega, fun e => ?_⟩
        have := g4 e
        omega
/-- no two words are on one another -/
theorem PF_D (hd : DOK np kd nu) : ∀ k, k < np → ∀ r c x, PF w np kd nu k = some (r, c) → SH w np kd nu k = some x → ∀ i j, inS np kd k i → inS np kd k j → i ≠ j → kd i = 0 → kd j = 0 → ∀ r' c1 c2, PF w np kd nu i = some (r', c1) → PF w np kd nu j = some (r', c2) → c1 + (nu i).toNat ≤ c2 ∨ c2 + (nu j).toNat ≤ c1 := by
  refine part_ind hd.2.1 (fun k hk h1 h2 r c x hP hx i j hi hj hij hi0 hj0 r' c1 c2 hPi hPj => ?_)
  rw [SH_eq hd.2.1 hk] at hx
  unfold shF at hx
  rcases PK_of hd hk with ⟨h, a, n1, n2⟩ | ⟨h, a, h0, h3, n, k1, k2, k3⟩ | ⟨h, a, h0, n, n6, k1, k2, k3⟩ | ⟨h, a, h0, h3, h12, n1, n0, n2, k1⟩
  · rw [inS_0 hd hk a hi, inS_0 hd hk a hj] at hij
    exact absurd rfl hij
  · rw [if_neg h0, if_neg h3, if_pos h] at hx
    obtain ⟨u, hu, hx⟩ := Option.bind_eq_some_iff.mp hx
    obtain ⟨v, hv, rfl⟩ := Option.map_eq_some_iff.mp hx
    have ub := (SH_bnd (w := w) hd _ k1 u hu).1
    have ul : lnS (SH w np kd nu (k + 1)) = u.1 := by rw [hu]; rfl
    have ua : laS (SH w np kd nu (k + 1)) = u.2.1 := by rw [hu]; rfl
    obtain ⟨rr, cc, p1, p2, p3⟩ : ∃ rr cc, PF w np kd nu (k + 1) = some (r, c) ∧ PF w np kd nu (scn np kd k) = some (rr, cc) ∧ ((rr + 1 = r + u.1 ∧ cc = c + u.2.1) ∨ rr = r + u.1) := by
      rcases h with h | h
      · obtain ⟨q1, q2⟩ := PF_1 hd hk h hP
        rw [ul, ua] at q2
        exact ⟨_, _, q1, q2, Or.inl ⟨by omega, rfl⟩⟩
      · obtain ⟨q1, q2⟩ := PF_2 hd hk h hP
        rw [ul] at q2
        exact ⟨_, _, q1, q2, Or.inr rfl⟩
    have cross : ∀ i j c1 c2, inS np kd (k + 1) i → inS np kd (scn np kd k) j → kd i = 0 → kd j = 0 → PF w np kd nu i = some (r', c1) → PF w np kd nu j = some (r', c2) → c1 + (nu i).toNat ≤ c2 := by
      intro i j c1 c2 hi hj hi0 hj0 hPi hPj
      obtain ⟨g1, g2, g3, g4⟩ := PF_G hd _ k1 r c u p1 hu i hi hi0 r' c1 hPi
      obtain ⟨e1, e2, e3, e4⟩ := PF_G hd _ k2 rr cc v p2 hv j hj hj0 r' c2 hPj
      rcases p3 with ⟨p3, p4⟩ | p3
      · have := g4 (by omega)
        omega
      · omega
    rcases inS_2 hd hk a hi with rfl | hi | hi
    · exact absurd hi0 h0
    · rcases inS_2 hd hk a hj with rfl | hj | hj
      · exact absurd hj0 h0
      · exact h1 (by omega) r c u p1 hu i j hi hj hij hi0 hj0 r' c1 c2 hPi hPj
      · exact Or.inl (cross i j c1 c2 hi hj hi0 hj0 hPi hPj)
    · rcases inS_2 hd hk a hj with rfl | hj | hj
      · exact absurd hj0 h0
      · exact Or.inr (cross j i c2 c1 hj hi hj0 hi0 hPj hPi)
      · exact h2 a rr cc v p2 hv i j hi hj hij hi0 hj0 r' c1 c2 hPi hPj
  · rw [if_neg h0, if_pos h] at hx
    obtain ⟨p1, p2⟩ := PF_3 hd hk h hP
    cases hbt : w.testBit (nu k).toNat with
    | true =>
      rw [hbt, if_pos rfl] at hx p1 p2
      obtain ⟨v, hv, rfl⟩ := Option.map_eq_some_iff.mp hx
      have sel : ∀ i c1, inS np kd k i → kd i = 0 → PF w np kd nu i = some (r', c1) → inS np kd (scn np kd k) i := by
        intro i c1 hi hi0 hPi
        rcases inS_2 hd hk a hi with rfl | hi | hi
        · exact absurd hi0 h0
        · rw [PF_N hd _ k1 p1 i hi] at hPi; cases hPi
        · exact hi
      exact h2 a r c v p2 hv i j (sel i c1 hi hi0 hPi) (sel j c2 hj hj0 hPj) hij hi0 hj0 r' c1 c2 hPi hPj
    | false =>
      rw [hbt, if_neg (by decide)] at hx p1 p2
      have sel : ∀ i c1, inS np kd k i → kd i = 0 → PF w np kd nu i = some (r', c1) → inS np kd (k + 1) i := by
        intro i c1 hi hi0 hPi
        rcases inS_2 hd hk a hi with rfl | hi | hi
        · exact absurd hi0 h0
        · exact hi
        · rw [PF_N hd _ k2 p2 i hi] at hPi; cases hPi
      exact h1 (by omega) r c x p1 hx i j (sel i c1 hi hi0 hPi) (sel j c2 hj hj0 hPj) hij hi0 hj0 r' c1 c2 hPi hPj
  · rw [if_neg h0, if_neg h3, if_neg h12] at hx
    obtain ⟨u, hu, hx⟩ := Option.bind_eq_some_iff.mp hx
    have sel : ∀ i, inS np kd k i → kd i = 0 → inS np kd (k + 1) i := by
      intro i hi hi0
      rcases inS_1 hd hk a hi with rfl | hi
      · exact absurd hi0 h0
      · exact hi
    exact h1 (by omega) _ _ u (PF_4 hd hk h hP) hu i j (sel i hi hi0) (sel j hj hj0) hij hi0 hj0 r' c1 c2 hPi hPj
theorem wi_all (hd : DOK np kd nu) (h0 : 0 < np) : wi np kd 0 = np := by
  have hw := hd.2.1
  have s1 := (wi_sub hw h0).2.2
  have s2 : Sub kd 0 np := ⟨h0, by rw [hw.2]; rfl, fun j _ h => hw.1 j h⟩
  have := s1.unique s2
  omega
/-- what is set stands, and isn't far out -/
theorem PL_ok (hd : DOK np kd nu) (h0 : 0 < np) {x0 : Sh} (hx : SH w np kd nu 0 = some x0) : ∀ i, i ≤ np → ∀ k, k < np → ∀ r c, PLs w np kd nu i k = some (r, c) → (∃ x, SH w np kd nu k = some x) ∧ r ≤ 512 * i ∧ c ≤ 512 * i := by
  intro i
  induction i with
  | zero =>
    intro _ k hk r c h
    have h' : (if k = 0 then some (0, 0) else none) = some (r, c) := h
    by_cases hk0 : k = 0
    · rw [if_pos hk0] at h'
      injection h' with h'
      injection h' with e1 e2
      subst hk0
      exact ⟨⟨x0, hx⟩, by omega, by omega⟩
    · rw [if_neg hk0] at h'; cases h'
  | succ i ih =>
    intro hi k hk r c h
    have hin : i < np := by omega
    have h' : upP w np kd nu (PLs w np kd nu i) i k = some (r, c) := h
    have old : ∀ {r c : Nat}, PLs w np kd nu i k = some (r, c) → (∃ x, SH w np kd nu k = some x) ∧ r ≤ 512 * (i + 1) ∧ c ≤ 512 * (i + 1) := by
      intro r c h
      obtain ⟨a, b, d⟩ := ih (by omega) k hk r c h
      exact ⟨a, by omega, by omega⟩
    unfold upP at h'
    cases hP : PLs w np kd nu i i with
    | none => rw [hP] at h'; exact old h'
    | some p =>
      rw [hP] at h'
      dsimp only at h'
      obtain ⟨⟨x, hxi⟩, br, bc⟩ := ih (by omega) i hin p.1 p.2 hP
      rw [SH_eq hd.2.1 hin] at hxi
      unfold shF at hxi
      have st : ∀ {P : Ps} {m a b : Nat}, stp P m a b k = some (r, c) → (k = m ∧ r = a ∧ c = b) ∨ P k = some (r, c) := by
        intro P m a b hs
        unfold stp at hs
        by_cases hm : k = m
        · rw [if_pos hm] at hs
          injection hs with hs
          injection hs with e1 e2
          exact Or.inl ⟨hm, e1.symm, e2.symm⟩
        · rw [if_neg hm] at hs
          exact Or.inr hs
      rcases PK_of hd hin with ⟨q, a, n1, n2⟩ | ⟨q, a, h0, h3, n, k1, k2, k3⟩ | ⟨q, a, h0, n, n6, k1, k2, k3⟩ | ⟨q, a, h0, h3, h12, n1, n0, n2, k1⟩
      · rw [if_pos q] at h'
        exact old h'
      · rw [if_neg h0, if_neg h3, if_pos q] at hxi
        obtain ⟨u, hu, hxi⟩ := Option.bind_eq_some_iff.mp hxi
        obtain ⟨v, hv, -⟩ := Option.map_eq_some_iff.mp hxi
        have ul : lnS (SH w np kd nu (i + 1)) = u.1 := by rw [hu]; rfl
        have ua : laS (SH w np kd nu (i + 1)) = u.2.1 := by rw [hu]; rfl
        have uo := bnd_sOK hd k1 (SH_bnd (w := w) hd _ k1 u hu)
        obtain ⟨uo1, uo2, -, -⟩ := uo
        rw [if_neg h0, ul, ua] at h'
        rcases q with q | q
        · rw [if_pos q] at h'
          rcases st h' with ⟨e, e1, e2⟩ | h'
          · exact ⟨⟨v, by rw [e]; exact hv⟩, by omega, by omega⟩
          · rcases st h' with ⟨e, e1, e2⟩ | h'
            · exact ⟨⟨u, by rw [e]; exact hu⟩, by omega, by omega⟩
            · exact old h'
        · rw [if_neg (by omega), if_pos q] at h'
          rcases st h' with ⟨e, e1, e2⟩ | h'
          · exact ⟨⟨v, by rw [e]; exact hv⟩, by omega, by omega⟩
          · rcases st h' with ⟨e, e1, e2⟩ | h'
            · exact ⟨⟨u, by rw [e]; exact hu⟩, by omega, by omega⟩
            · exact old h'
      · rw [if_neg h0, if_pos q] at hxi
        rw [if_neg h0, if_neg (by omega), if_neg (by omega), if_pos q] at h'
        rcases st h' with ⟨e, e1, e2⟩ | h'
        · refine ⟨?_, by omega, by omega⟩
          cases hbt : w.testBit (nu i).toNat with
          | true =>
            rw [hbt, if_pos rfl] at hxi e
            obtain ⟨v, hv, -⟩ := Option.map_eq_some_iff.mp hxi
            exact ⟨v, by rw [e]; exact hv⟩
          | false =>
            rw [hbt, if_neg (by decide)] at hxi e
            exact ⟨x, by rw [e]; exact hxi⟩
        · exact old h'
      · rw [if_neg h0, if_neg h3, if_neg h12] at hxi
        obtain ⟨u, hu, -⟩ := Option.bind_eq_some_iff.mp hxi
        rw [if_neg h0, if_neg (fun z => h12 (Or.inl z)), if_neg (fun z => h12 (Or.inr z)), if_neg h3] at h'
        rcases st h' with ⟨e, e1, e2⟩ | h'
        · refine ⟨⟨u, by rw [e]; exact hu⟩, by omega, ?_⟩
          have : (if kd i = 4 then (nu i).toNat else 0) ≤ 9 := by split <;> omega
          omega
        · exact old h'
end PLC
