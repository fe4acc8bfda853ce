/-! ===== the class finds the frontiers: all parts ===== -/
/-- what finding them leaves as it was -/
def frK (s s' : SS) : Prop := ∀ q k, (q = 10 → k ≠ 2 ∧ k ≠ 3) → (q < 12 ∨ 16 < q) → s' q k = s q k
def MFc (W : Int) (np : Nat) (kd nu : Nat → Int) (c : Nat) (s : SS) : Prop := s 10 2 = trT W np kd nu c ∧ s 10 3 = trG W np kd nu c ∧ ∀ k, c ≤ k → k < np → FLc s k (FR W np kd nu k)
theorem fc_step {W : Int} {np : Nat} {kd nu : Nat → Int} (hd : DOK np kd nu) {c : Nat} (hc : c < np) {k32 : Int → Int → SS → Option SS} {s : SS} (hp : CP np kd nu s) (hM : MFc W np kd nu (c + 1) s) :
    ∃ s1, g_X1_make_32 k32 W (c : Int) s = k32 W ((c : Int) - 1) s1 ∧ MFc W np kd nu c s1 ∧ frK s s1 := by
  obtain ⟨m15, m16, mF⟩ := hM
  have hw := hd.2.1
  have h40 := hd.1
  obtain ⟨r3, r9, r7, r8⟩ := hp c hc
  have hb := FR_bnd (W := W) hd c hc
  have h64 := CD_64 (W := W) hd hc
  have htot := trT_le (W := W) hd (c := c + 1) (by omega)
  generalize hs0 : up s 16 c 0 = s0
  have f0 : ∀ q j, (q = 16 → j ≠ c) → s0 q j = s q j := by
    intro q j h
    rw [← hs0]
    by_cases hq : q = 16
    · subst hq; exact up_k (h rfl)
    · exact up_q hq
  have e0 : ∀ fl, TC s0 s0 W fl c [] := by
    intro fl
    refine ⟨⟨by rw [← hs0, up_s]; rfl, fun j hj => (by simp at hj), fun x hx => (by cases hx), by simp⟩, by simp, by simp, fun _ _ _ _ _ => rfl⟩
  have s3 : s0 3 c = kd c := by rw [f0 3 c (fun q => by cases q)]; exact r3
  have s9 : s0 9 c = nu c := by rw [f0 9 c (fun q => by cases q)]; exact r9
  have s7 : s0 7 c = _ := (f0 7 c (fun q => by cases q)).trans r7
  have s8 : s0 8 c = _ := (f0 8 c (fun q => by cases q)).trans r8
  have s15 : s0 10 2 = trT W np kd nu (c + 1) := by rw [f0 10 2 (fun q => by cases q)]; exact m15
  have s16 : s0 10 3 = trG W np kd nu (c + 1) := by rw [f0 10 3 (fun q => by cases q)]; exact m16
  have sT : 0 ≤ s0 10 2 ∧ s0 10 2 ≤ 50000 := by rw [s15]; omega
  have sG : 0 ≤ s0 10 3 ∧ s0 10 3 ≤ 50000 := by rw [s16]; omega
  have sFL : ∀ k, c + 1 ≤ k → k < np → FLc s0 k (FR W np kd nu k) := by
    intro k h1 h2
    obtain ⟨b1, b2, b3, b4⟩ := mF k h1 h2
    exact ⟨by rw [f0 16 k (fun _ => by omega)]; exact b1, fun j hj => shAt_ext (b2 j hj) (fun z _ _ => f0 z _ (fun q => by omega)), b3, b4⟩
  have fin : ∀ s1, TC s0 s1 W (decide (kd c = 5)) c (CD W np kd nu c) → g_X1_make_32 k32 W (c : Int) s = g_X1_make_159 k32 W c s1 → ∃ s1, g_X1_make_32 k32 W (c : Int) s = k32 W ((c : Int) - 1) s1 ∧ MFc W np kd nu c s1 ∧ frK s s1 := by
    intro s1 h1 h2
    have e := FR_eq (W := W) (nu := nu) hw hc
    obtain ⟨a1, a2, a3, a4⟩ := h1
    have eF : (CD W np kd nu c).foldl (tr W (decide (kd c = 5))) [] = FR W np kd nu c := e.symm
    rw [eF] at a1 a3
    have hle : (FR W np kd nu c).length ≤ (CD W np kd nu c).length := by rw [e]; exact flt_len _ _ _
    refine ⟨s1, ?_, ⟨?_, ?_, fun k hk1 hk2 => ?_⟩, fun q j x0 x9 => ?_⟩
    · rw [h2]
      unfold g_X1_make_159
      rw [sb_t, wr_t (by omega) (by omega)]
      rfl
    · rw [a2, s15]
      unfold trT
      rw [smS_eq hc]
      omega
    · rw [a3, s16]
      unfold trG
      rw [smS_eq hc]
      omega
    · by_cases hkc : k = c
      · subst hkc; exact a1
      · obtain ⟨b1, b2, b3, b4⟩ := sFL k (by omega) hk2
        exact ⟨by rw [a4 16 k (fun q => by cases q) (fun _ => hkc) (fun q => by omega)]; exact b1, fun j hj => shAt_ext (b2 j hj) (fun z _ _ => a4 z _ (fun q => by omega) (fun q => by omega) (fun _ => by omega)), b3, b4⟩
    · rw [a4 q j x0 (fun h => by omega) (fun h => by omega)]
      exact f0 q j (fun h => by omega)
  have unf : g_X1_make_32 k32 W (c : Int) s = (if kd c = 0 then (bn (f_X3_setWord 11 ((64 * c + 0 : Nat) : Int) (nu c) s0) fun s2 => bn (f_X1_tryLast c W s2) fun s3 => g_X1_make_159 k32 W c s3) else if kd c = 1 then g_X1_make_142 k32 W c s0 else if kd c = 2 then g_X1_make_142 k32 W c s0 else if kd c = 3 then (bn (f_X1_tryEach c (s0 7 c) 0 W s0) fun s4 => bn (f_X1_tryEach c (s4 8 c) (i_shl 1 (s4 9 c)) W s4) fun s5 => g_X1_make_159 k32 W c s5) else (bn (f_X1_tryAlone c W s0) fun s6 => g_X1_make_159 k32 W c s6)) := by
    unfold g_X1_make_32
    rw [if_neg (by omega), gx_d (by omega) (by omega), tn_c, hs0, sb_t]
    rw [gx_d (by omega) (by omega), gx_d (by omega) (by omega), gx_d (by omega) (by omega)]
    simp only [tn_c, s3, s9, sb_t]
    rw [wr_t (a := (c : Int) * 64) (by omega) (by omega), show (c : Int) * 64 = ((64 * c + 0 : Nat) : Int) by omega]
    simp only [gx_d (show (0 : Int) ≤ (c : Int) by omega) (show (c : Int) < (40 : Nat) by omega)]
  have eCD : CD W np kd nu c = cand kd nu c (FR W np kd nu (c + 1)) (FR W np kd nu (scn np kd c)) := rfl
  have sOKs : ∀ x ∈ CD W np kd nu c, sOK x := fun x hx => bnd_sOK hd hc (hb.2.1 x hx)
  unfold cand at eCD
  rcases hd.2.2.2 c hc with ⟨h, n1, n2⟩ | ⟨h, n1⟩ | ⟨h, n1, n2⟩ | ⟨h, n1, n2⟩
  · rw [if_pos h] at eCD
    rw [eCD] at fin sOKs
    have hx := sOKs (1, (nu c).toNat, (nu c).toNat, 0) List.mem_cons_self
    obtain ⟨n, n64, np1, s1, a1, a2⟩ := TC_step (x := (1, (nu c).toNat, (nu c).toNat, 0)) (by omega) sT sG (e0 (decide (kd c = 5))) hx (by simp) (fun _ => Nat.le_refl _)
    have n0 : n = 0 := by
      have := X1_place_v (s := s0) (p := c) (n := 0) (by omega) (by rw [← hs0, up_s]; rfl) (by omega)
      rw [this] at np1
      injection np1 with np1
      omega
    subst n0
    refine fin s1 a2 ?_
    rw [unf, if_pos h]
    unfold f_X3_setWord
    have es := X3_set_v (s := s0) (q := 11) (i := 64 * c + 0) (l := 1) (la := (nu c).toNat) (m := (nu c).toNat) (w := 0) (by rw [shl11]; omega)
    rw [show (((nu c).toNat : Nat) : Int) = nu c by omega] at es
    have es' : f_X3_set 11 ((64 * c + 0 : Nat) : Int) 1 (nu c) (nu c) 0 s0 = _ := es
    rw [es', bn_t, bn_t, a1, bn_t]
  · have h0 : kd c ≠ 0 := by rcases h with h | h | h <;> rw [h] <;> decide
    have h3 : kd c ≠ 3 := by rcases h with h | h | h <;> rw [h] <;> decide
    rw [if_neg h0, if_neg h3] at eCD
    by_cases h12 : kd c = 1 ∨ kd c = 2
    · rw [if_pos h12] at eCD
      have har : ar (kd c) = 2 := by rcases h12 with h | h <;> rw [h] <;> decide
      have hc1 := wf_1 hw hc (by omega)
      have hc2 := wf_2 hw hc har
      have hc3 := sc_gt hw hc har
      have b1 := FR_bnd (W := W) hd (c + 1) hc1
      obtain ⟨s1, a1, a2⟩ := e19 (s0 := s0) (W := W) (k := c) (kd := kd c) (flat := decide (kd c = 5)) (c1 := c + 1) (c := scn np kd c) (A1 := FR W np kd nu (c + 1)) (A := FR W np kd nu (scn np kd c)) (by omega) (by omega) (by omega) (by omega) (by omega) h12 s3 sT sG (sFL (c + 1) (by omega) hc1) (fun a ha => (b1.1 a ha).1) (sFL _ (by omega) hc2) (fun a ha b hb2 => sOKs _ (by rw [eCD]; exact List.mem_flatMap.mpr ⟨a, ha, List.mem_map.mpr ⟨b, hb2, rfl⟩⟩)) (by rw [← eCD]; exact h64.1) (by rcases h12 with h | h <;> rw [h] <;> decide) (FR W np kd nu (c + 1)) [] FU s0 rfl (by have := (CD_64 (W := W) hd hc1).2; unfold FU; omega) (by simpa using e0 _)
      rw [← eCD] at a2
      refine fin s1 a2 ?_
      have em : g_X1_make_32 k32 W (c : Int) s = g_X1_make_142 k32 W c s0 := by
        rw [unf, if_neg h0]
        by_cases h1 : kd c = 1
        · rw [if_pos h1]
        · rw [if_neg h1, if_pos (h12.resolve_left h1)]
      rw [em]
      unfold g_X1_make_142 f_X1_tryPairs
      rw [gx_d (by omega) (by omega), sb_t, gx_d (by omega) (by omega), sb_t, tn_c, s7, s8, if_neg (by omega), if_pos har]
      have a1' : f_X1_tryPairs_19 FU (c : Int) W ((c + 1 : Nat) : Int) (scn np kd c : Int) 0 s0 = _ := a1
      rw [a1', bn_t]
    · rw [if_neg h12] at eCD
      have h5 : kd c = 5 := by
        rcases h with h | h | h
        · exact absurd (Or.inl h) h12
        · exact absurd (Or.inr h) h12
        · exact h
      have har : ar (kd c) = 1 := by rw [h5]; decide
      have hc1 := wf_1 hw hc (by omega)
      have b1 := FR_bnd (W := W) hd (c + 1) hc1
      obtain ⟨s1, a1, a2⟩ := e11 (s0 := s0) (W := W) (k := c) (kd := kd c) (flat := decide (kd c = 5)) (c := c + 1) (n := (nu c).toNat) (A := FR W np kd nu (c + 1)) (by omega) (by omega) (by omega) (Or.inr h5) s3 (by rw [s9, h5, if_neg (by decide)]; omega) (by omega) sT sG (sFL (c + 1) (by omega) hc1) (fun a ha => (b1.1 a ha).1) (fun a ha => sOKs _ (by rw [eCD]; exact List.mem_map.mpr ⟨a, ha, rfl⟩)) rfl (FR W np kd nu (c + 1)) [] FU s0 rfl (by have := (CD_64 (W := W) hd hc1).2; unfold FU; omega) (by simpa using e0 _)
      rw [← eCD] at a2
      refine fin s1 a2 ?_
      rw [unf, if_neg h0, if_neg (fun q => h12 (Or.inl q)), if_neg (fun q => h12 (Or.inr q)), if_neg h3]
      unfold f_X1_tryAlone
      rw [gx_d (by omega) (by omega), sb_t, tn_c, s7, if_neg (by omega)]
      have a1' : f_X1_tryAlone_11 FU (c : Int) W ((c + 1 : Nat) : Int) 0 s0 = _ := a1
      rw [a1', bn_t]
  · have h0 : kd c ≠ 0 := by rw [h]; decide
    rw [if_neg h0, if_pos h] at eCD
    have har : ar (kd c) = 2 := by rw [h]; decide
    have hc1 := wf_1 hw hc (by omega)
    have hc2 := wf_2 hw hc har
    have hc3 := sc_gt hw hc har
    have hlen : (FR W np kd nu (c + 1)).length + (FR W np kd nu (scn np kd c)).length ≤ 64 := by
      have := h64.1
      rw [eCD, List.length_append, List.length_map] at this
      exact this
    have hp2 : 2 ^ (nu c).toNat < 2 ^ 6 := Nat.pow_lt_pow_right (by decide) (by omega)
    have eid : ∀ A : List Sh, A.map (fun a => (a.1, a.2.1, a.2.2.1, a.2.2.2 ||| 0)) = A := by
      intro A
      have : (fun a : Sh => (a.1, a.2.1, a.2.2.1, a.2.2.2 ||| 0)) = id := by
        funext a
        exact st4_id
      rw [this, List.map_id]
    obtain ⟨s1, a1, a2⟩ := e3 (s0 := s0) (W := W) (k := c) (flat := decide (kd c = 5)) (c := c + 1) (j := 0) (B0 := []) (A := FR W np kd nu (c + 1)) (by omega) (by omega) (by omega) (by omega) sT sG (sFL (c + 1) (by omega) hc1) (fun a ha => by rw [st4_id]; exact (sFL (c + 1) (by omega) hc1).2.2.1 a ha) (by simp; omega) (by rw [h]; decide) (FR W np kd nu (c + 1)) [] FU s0 rfl (by have := (CD_64 (W := W) hd hc1).2; unfold FU; omega) (by simpa using e0 _)
    rw [eid, List.nil_append] at a2
    obtain ⟨s4, a3, a4⟩ := e3 (s0 := s0) (W := W) (k := c) (flat := decide (kd c = 5)) (c := scn np kd c) (j := 2 ^ (nu c).toNat) (B0 := FR W np kd nu (c + 1)) (A := FR W np kd nu (scn np kd c)) (by omega) (by omega) (by omega) (by omega) sT sG (sFL _ (by omega) hc2) (fun a ha => sOKs _ (by rw [eCD]; exact List.mem_append_right _ (List.mem_map.mpr ⟨a, ha, rfl⟩))) hlen (by rw [h]; decide) (FR W np kd nu (scn np kd c)) [] FU s1 rfl (by have := (CD_64 (W := W) hd hc2).2; unfold FU; omega) (by simpa using a2)
    rw [← eCD] at a4
    refine fin s4 a4 ?_
    rw [unf, if_neg h0, if_neg (by rw [h]; decide), if_neg (by rw [h]; decide), if_pos h]
    unfold f_X1_tryEach
    have hsh : i_shl 1 (nu c) = ((2 ^ (nu c).toNat : Nat) : Int) := by
      have := oN_shl (a := 1) (k := (nu c).toNat) (by omega) (by omega)
      rw [Nat.one_mul, show (((nu c).toNat : Nat) : Int) = nu c by omega] at this
      exact this
    rw [s7, if_neg (by omega)]
    have a1' : f_X1_tryEach_3 FU (c : Int) ((c + 1 : Nat) : Int) 0 W 0 s0 = _ := a1
    have g8 : s1 8 c = (scn np kd c : Int) := by rw [a2.2.2.2 8 c (fun q => by cases q) (fun q => by cases q) (fun q => by omega), s8, if_pos har]
    have g9 : s1 9 c = nu c := by rw [a2.2.2.2 9 c (fun q => by cases q) (fun q => by cases q) (fun q => by omega), s9]
    have a3' : f_X1_tryEach_3 FU (c : Int) (scn np kd c : Int) ((2 ^ (nu c).toNat : Nat) : Int) W 0 s1 = _ := a3
    rw [a1', bn_t, g8, g9, hsh, a3', bn_t]
  · have h0 : kd c ≠ 0 := by rw [h]; decide
    have h3 : kd c ≠ 3 := by rw [h]; decide
    have h12 : ¬ (kd c = 1 ∨ kd c = 2) := by rw [h]; decide
    rw [if_neg h0, if_neg h3, if_neg h12] at eCD
    have har : ar (kd c) = 1 := by rw [h]; decide
    have hc1 := wf_1 hw hc (by omega)
    have b1 := FR_bnd (W := W) hd (c + 1) hc1
    obtain ⟨s1, a1, a2⟩ := e11 (s0 := s0) (W := W) (k := c) (kd := kd c) (flat := decide (kd c = 5)) (c := c + 1) (n := (nu c).toNat) (A := FR W np kd nu (c + 1)) (by omega) (by omega) (by omega) (Or.inl h) s3 (by rw [s9, if_pos h]; omega) (by omega) sT sG (sFL (c + 1) (by omega) hc1) (fun a ha => (b1.1 a ha).1) (fun a ha => sOKs _ (by rw [eCD]; exact List.mem_map.mpr ⟨a, ha, rfl⟩)) rfl (FR W np kd nu (c + 1)) [] FU s0 rfl (by have := (CD_64 (W := W) hd hc1).2; unfold FU; omega) (by simpa using e0 _)
    rw [← eCD] at a2
    refine fin s1 a2 ?_
    rw [unf, if_neg h0, if_neg (fun q => h12 (Or.inl q)), if_neg (fun q => h12 (Or.inr q)), if_neg h3]
    unfold f_X1_tryAlone
    rw [gx_d (by omega) (by omega), sb_t, tn_c, s7, if_neg (by omega)]
    have a1' : f_X1_tryAlone_11 FU (c : Int) W ((c + 1 : Nat) : Int) 0 s0 = _ := a1
    rw [a1', bn_t]
theorem fc_all {W : Int} {np : Nat} {kd nu : Nat → Int} (hd : DOK np kd nu) : ∀ (c f : Nat) (s : SS), c ≤ np → c < f → CP np kd nu s → MFc W np kd nu c s → ∃ s', f_X1_make_32 f W ((c : Int) - 1) s = some s' ∧ MFc W np kd nu 0 s' ∧ frK s s' := by
  intro c
  induction c with
  | zero =>
    intro f s _ hf _ hM
    match f, hf with
    | f + 1, _ =>
      refine ⟨s, ?_, hM, fun _ _ _ _ => rfl⟩
      show g_X1_make_32 (f_X1_make_32 f) _ _ s = _
      unfold g_X1_make_32 g_X1_make_165
      rw [if_pos (by omega)]
  | succ c ih =>
    intro f s hc hf hp hM
    match f, hf with
    | f + 1, hf =>
      rw [show ((c + 1 : Nat) : Int) - 1 = (c : Int) by omega]
      show ∃ s', g_X1_make_32 (f_X1_make_32 f) _ _ s = _ ∧ _
      obtain ⟨s1, a1, a2, a3⟩ := fc_step hd (by omega) (k32 := f_X1_make_32 f) hp hM
      have hp1 : CP np kd nu s1 := fun k hk => by
        rw [a3 3 k (fun q => by cases q) (by omega), a3 9 k (fun q => by cases q) (by omega), a3 7 k (fun q => by cases q) (by omega), a3 8 k (fun q => by cases q) (by omega)]
        exact hp k hk
      obtain ⟨s', b1, b2, b3⟩ := ih f s1 (by omega) (by omega) hp1 a2
      exact ⟨s', by rw [a1, b1], b2, fun q k x0 x9 => by rw [b3 q k x0 x9, a3 q k x0 x9]⟩
/-- the parts that are tried, none too -/
def DOK0 (np : Nat) (kd nu : Nat → Int) : Prop := np = 0 ∨ DOK np kd nu
theorem X1_make_v {W : Int} {np : Nat} {kd nu : Nat → Int} (hd : DOK0 np kd nu) {s : SS} (h9 : s 1 9 = (np : Int)) (hp : CP np kd nu s) : ∃ s', f_X1_make W s = some s' ∧ MFc W np kd nu 0 s' ∧ frK s s' ∧ (np = 0 → s' 16 0 = 0) := by
  have hnp : np ≤ 40 := by
    rcases hd with h | h
    · omega
    · exact h.1
  unfold f_X1_make
  rw [sb_t, sb_t, gx_d (by omega) (by omega), sb_t, sb_t]
  generalize hs : up (up (up s 10 2 0) 10 3 0) 16 (0 : Int).toNat 0 = s3
  have g : ∀ q k, (q = 10 → k ≠ 2 ∧ k ≠ 3) → q ≠ 16 → s3 q k = s q k := by
    intro q k h1 h2
    rw [← hs, up_q h2]
    by_cases hq : q = 10
    · subst hq; rw [up_k (h1 rfl).2, up_k (h1 rfl).1]
    · rw [up_q hq, up_q hq]
  rw [g 1 9 (fun q => by cases q) (by decide), h9, if_neg (by omega), wr_t (by omega) (by omega)]
  have hM : MFc W np kd nu np s3 := by
    refine ⟨?_, ?_, fun k h1 h2 => by omega⟩
    · rw [← hs, up_q (by decide), up_k (by decide), up_s]; unfold trT; rw [smS_0]; rfl
    · rw [← hs, up_q (by decide), up_s]; unfold trG; rw [smS_0]; rfl
  have hp3 : CP np kd nu s3 := fun k hk => by
    rw [g 3 k (fun q => by cases q) (by decide), g 9 k (fun q => by cases q) (by decide), g 7 k (fun q => by cases q) (by decide), g 8 k (fun q => by cases q) (by decide)]
    exact hp k hk
  rcases hd with h | h
  · subst h
    refine ⟨s3, ?_, hM, fun q k x0 x1 => g q k x0 (by omega), fun _ => by rw [← hs]; exact up_s⟩
    show g_X1_make_32 (f_X1_make_32 199) _ _ s3 = _
    unfold g_X1_make_32 g_X1_make_165
    rw [if_pos (by omega)]
  · obtain ⟨s', a1, a2, a3⟩ := fc_all h np FU s3 (Nat.le_refl _) (by unfold FU; omega) hp3 hM
    refine ⟨s', a1, a2, fun q k x0 x1 => by rw [a3 q k x0 x1, g q k x0 (by omega)], fun q => ?_⟩
    subst q
    have := h.2.1.2
    simp [nde] at this
