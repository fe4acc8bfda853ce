/-! ===== the model finds the frontiers: all parts ===== -/
/-- the sum over the parts from c on -/
def smF (g : Nat → Nat) : Nat → Nat → Nat
  | 0, _ => 0
  | d + 1, c => g c + smF g d (c + 1)
def smS (g : Nat → Nat) (np c : Nat) : Nat := smF g (np - c) c
theorem smS_eq {g : Nat → Nat} {np c : Nat} (h : c < np) : smS g np c = g c + smS g np (c + 1) := by
  unfold smS
  rw [show np - c = (np - (c + 1)) + 1 by omega]
  rfl
theorem smS_0 {g : Nat → Nat} {np : Nat} : smS g np np = 0 := by
  unfold smS
  rw [Nat.sub_self]
  rfl
theorem smF_le {g : Nat → Nat} {np : Nat} (h : ∀ k, k < np → g k ≤ 64) : ∀ d c, c + d ≤ np → smF g d c ≤ 64 * d
  | 0, c, _ => by simp [smF]
  | d + 1, c, hc => by
      have h1 := smF_le h d (c + 1) (by omega)
      have h2 := h c (by omega)
      simp only [smF]
      omega
/-- tried and let go, in all the parts from c on -/
def trT (W : Int) (np : Nat) (kd nu : Nat → Int) (c : Nat) : Nat := smS (fun k => (CD W np kd nu k).length) np c
def trG (W : Int) (np : Nat) (kd nu : Nat → Int) (c : Nat) : Nat := smS (fun k => (CD W np kd nu k).length - (FR W np kd nu k).length) np c
theorem trT_le {W : Int} {np : Nat} {kd nu : Nat → Int} (hd : DOK np kd nu) {c : Nat} (hc : c ≤ np) : trT W np kd nu c ≤ 2560 ∧ trG W np kd nu c ≤ 2560 := by
  have h40 := hd.1
  have h1 := smF_le (g := fun k => (CD W np kd nu k).length) (np := np) (fun k hk => (CD_64 hd hk).1) (np - c) c (by omega)
  have h2 := smF_le (g := fun k => (CD W np kd nu k).length - (FR W np kd nu k).length) (np := np) (fun k hk => by have := (CD_64 (W := W) hd hk).1; show _ - _ ≤ _; omega) (np - c) c (by omega)
  unfold trT trG smS
  omega
/-- what finding them leaves as it was -/
def frF2 (s s' : SS) : Prop := ∀ q k, (q = 0 → k ≠ 15 ∧ k ≠ 16 ∧ k ≠ 17) → q ≠ 9 → q ≠ 10 → s' q k = s q k
def MF (W : Int) (np : Nat) (kd nu : Nat → Int) (c : Nat) (s : SS) : Prop := s 0 17 = W ∧ s 0 15 = trT W np kd nu c ∧ s 0 16 = trG W np kd nu c ∧ ∀ k, c ≤ k → k < np → FL s k (FR W np kd nu k)
/-- the parts' rows, as far as they are looked at -/
def MP (np : Nat) (kd nu : Nat → Int) (s : SS) : Prop := ∀ k, k < np → s 2 k = kd k ∧ s 3 k = nu k ∧ (ar (kd k) = 2 → s 7 k = scn np kd k)
theorem ff_step {W : Int} {np : Nat} {kd nu : Nat → Int} (hd : DOK np kd nu) {c : Nat} (hc : c < np) {k22 : Int → SS → Option SS} {s : SS} (hp : MP np kd nu s) (hM : MF W np kd nu (c + 1) s) :
    ∃ s1, g_X7_findsFronts_22 k22 (c : Int) s = k22 ((c : Int) - 1) s1 ∧ MF W np kd nu c s1 ∧ frF2 s s1 := by
  obtain ⟨m17, m15, m16, mF⟩ := hM
  have hw := hd.2.1
  have h40 := hd.1
  obtain ⟨r2, r3, r7⟩ := hp c hc
  have hb := FR_bnd (W := W) hd c hc
  have h64 := CD_64 (W := W) hd hc
  have htot := trT_le (W := W) hd (c := c + 1) (by omega)
  -- the state with an empty row
  generalize hs0 : up s 10 c 0 = s0
  have f0 : ∀ q j, (q = 10 → j ≠ c) → s0 q j = s q j := by
    intro q j h
    rw [← hs0]
    by_cases hq : q = 10
    · subst hq; exact up_k (h rfl)
    · exact up_q hq
  have e0 : TS s0 s0 W (decide (kd c = 5)) c [] := by
    refine ⟨⟨by rw [← hs0, up_s]; rfl, fun j hj => (by simp at hj), fun x hx => (by cases hx), by simp⟩, by simp, by simp, fun _ _ _ _ _ => rfl⟩
  have s17 : s0 0 17 = W := by rw [f0 0 17 (fun q => by cases q)]; exact m17
  have s2 : s0 2 c = kd c := by rw [f0 2 c (fun q => by cases q)]; exact r2
  have s3 : s0 3 c = nu c := by rw [f0 3 c (fun q => by cases q)]; exact r3
  have s15 : s0 0 15 = trT W np kd nu (c + 1) := by rw [f0 0 15 (fun q => by cases q)]; exact m15
  have s16 : s0 0 16 = trG W np kd nu (c + 1) := by rw [f0 0 16 (fun q => by cases q)]; exact m16
  have sT : 0 ≤ s0 0 15 ∧ s0 0 15 ≤ 100000 := by rw [s15]; omega
  have sG : 0 ≤ s0 0 16 ∧ s0 0 16 ≤ 100000 := by rw [s16]; omega
  have sFL : ∀ k, c + 1 ≤ k → k < np → FL s0 k (FR W np kd nu k) := by
    intro k h1 h2
    obtain ⟨b1, b2, b3, b4⟩ := mF k h1 h2
    exact ⟨by rw [f0 10 k (fun _ => by omega)]; exact b1, fun j hj => by rw [f0 9 _ (fun q => by cases q)]; exact b2 j hj, b3, b4⟩
  -- what is left to do once all has been tried
  have fin : ∀ s1, TS s0 s1 W (decide (kd c = 5)) c (CD W np kd nu c) → g_X7_findsFronts_22 k22 (c : Int) s = g_X7_findsFronts_166 k22 c s1 → ∃ s1, g_X7_findsFronts_22 k22 (c : Int) s = k22 ((c : Int) - 1) s1 ∧ MF W np kd nu c s1 ∧ frF2 s s1 := by
    intro s1 h1 h2
    have e := FR_eq (W := W) (nu := nu) hw hc
    obtain ⟨a1, a2, a3, a4⟩ := h1
    have eF : (CD W np kd nu c).foldl (tr W (decide (kd c = 5))) [] = FR W np kd nu c := e.symm
    rw [eF] at a1 a3
    have hle : (FR W np kd nu c).length ≤ (CD W np kd nu c).length := by rw [e]; exact flt_len _ _ _
    refine ⟨s1, ?_, ⟨?_, ?_, ?_, fun k hk1 hk2 => ?_⟩, fun q j x0 x9 x10 => ?_⟩
    · rw [h2]
      unfold g_X7_findsFronts_166
      rw [sb_t, wr_t (by omega) (by omega)]
      rfl
    · rw [a4 0 17 (fun _ => by decide) (fun q => by cases q) (fun q => by cases q)]; exact s17
    · rw [a2, s15]
      unfold trT
      rw [smS_eq hc]
      omega
    · rw [a3, s16]
      unfold trG
      rw [smS_eq hc]
      omega
    · by_cases hkc : k = c
      · subst hkc; exact a1
      · obtain ⟨b1, b2, b3, b4⟩ := sFL k (by omega) hk2
        exact ⟨by rw [a4 10 k (fun q => by cases q) (fun _ => hkc) (fun q => by cases q)]; exact b1, fun j hj => by rw [a4 9 _ (fun q => by cases q) (fun q => by cases q) (fun _ => by omega)]; exact b2 j hj, b3, b4⟩
    · rw [a4 q j (fun h => ⟨(x0 h).1, (x0 h).2.1⟩) (fun h => absurd h x10) (fun h => absurd h x9)]
      exact f0 q j (fun h => absurd h x10)
  have unf : g_X7_findsFronts_22 k22 (c : Int) s = (if kd c = 0 then (bn (f_X7_shape 1 (nu c) (nu c) 0) fun y1 => bn (f_X7_tries c y1 s0) fun s2 => g_X7_findsFronts_166 k22 c s2) else if kd c = 3 then (bn (f_X7_triesChoice c s0) fun s3 => g_X7_findsFronts_166 k22 c s3) else (bn (f_X7_isTwofold (kd c)) fun y2 => if y2 = 0 then f_X7_findsFronts_107 k22 FU c 0 s0 else (bn (f_X7_triesBoth c s0) fun s4 => g_X7_findsFronts_166 k22 c s4))) := by
    unfold g_X7_findsFronts_22
    rw [if_neg (by omega), gx_d (by omega) (by omega), tn_c, hs0, sb_t]
    simp only [tn_c, s2, s3]
    rw [gx_d (by omega) (by omega), gx_d (by omega) (by omega), gx_d (by omega) (by omega), gx_d (by omega) (by omega), gx_d (by omega) (by omega)]
  have eCD : CD W np kd nu c = cand kd nu c (FR W np kd nu (c + 1)) (FR W np kd nu (scn np kd c)) := rfl
  have sOKs : ∀ x ∈ CD W np kd nu c, sOK x := fun x hx => bnd_sOK hd hc (hb.2.1 x hx)
  unfold cand at eCD
  rcases hd.2.2.2 c hc with ⟨h, n1, n2⟩ | ⟨h, n1⟩ | ⟨h, n1, n2⟩ | ⟨h, n1, n2⟩
  · rw [if_pos h] at eCD
    rw [eCD] at fin sOKs
    have hx := sOKs (1, (nu c).toNat, (nu c).toNat, 0) List.mem_cons_self
    obtain ⟨s1, a1, a2⟩ := TS_step (x := (1, (nu c).toNat, (nu c).toNat, 0)) (by omega) s17 s2 sT sG e0 hx (by simp)
    refine fin s1 a2 ?_
    rw [unf, if_pos h]
    have es := X7_shape_pk hx
    rw [show (((nu c).toNat : Nat) : Int) = nu c by omega] at es
    have es' : f_X7_shape 1 (nu c) (nu c) 0 = _ := es
    rw [es', bn_t, a1, bn_t]
  · have h0 : kd c ≠ 0 := by rcases h with h | h | h <;> rw [h] <;> decide
    have h3 : kd c ≠ 3 := by rcases h with h | h | h <;> rw [h] <;> decide
    rw [if_neg h0, if_neg h3] at eCD
    by_cases h12 : kd c = 1 ∨ kd c = 2
    · rw [if_pos h12] at eCD
      have har : ar (kd c) = 2 := by rcases h12 with h | h <;> rw [h] <;> decide
      have hc1 := wf_1 hw hc (by omega)
      have hc2 := wf_2 hw hc har
      have hc3 := sc_gt hw hc har
      have b1 := FR_bnd (W := W) hd (c + 1) hc1
      obtain ⟨s1, a1, a2⟩ := m14 (c := scn np kd c) (A1 := FR W np kd nu (c + 1)) (A := FR W np kd nu (scn np kd c)) (by omega) (by omega) (by omega) s17 s2 sT sG (sFL (c + 1) (by omega) hc1) (fun a ha => (b1.1 a ha).1) (sFL _ (by omega) hc2) (fun a ha b hb2 => sOKs _ (by rw [eCD]; exact List.mem_flatMap.mpr ⟨a, ha, List.mem_map.mpr ⟨b, hb2, rfl⟩⟩)) (by rw [← eCD]; exact h64.1) (FR W np kd nu (c + 1)) [] FU s0 rfl (by have := (CD_64 (W := W) hd hc1).2; unfold FU; omega) (by simpa using e0)
      rw [← eCD] at a2
      refine fin s1 a2 ?_
      rw [unf, if_neg h0, if_neg h3, X7_twofold_v, bn_t, if_neg (by rcases h12 with h | h <;> rw [h] <;> decide)]
      unfold f_X7_triesBoth
      rw [sb_t, wr_t (by omega) (by omega), gx_d (by omega) (by omega), sb_t, tn_c, f0 7 c (fun q => by cases q), r7 har]
      have a1' : f_X7_triesBoth_14 FU c ((c : Int) + 1) (scn np kd c) 0 s0 = _ := a1
      rw [a1', bn_t]
    · rw [if_neg h12] at eCD
      have h5 : kd c = 5 := by
        rcases h with h | h | h
        · exact absurd (Or.inl h) h12
        · exact absurd (Or.inr h) h12
        · exact h
      have har : ar (kd c) = 1 := by rw [h5]; decide
      have hc1 := wf_1 hw hc (by omega)
      obtain ⟨s1, a1, a2⟩ := m107 (k22 := k22) (n := (nu c).toNat) (A := FR W np kd nu (c + 1)) (by omega) s17 s2 (Or.inr h5) (fun q => absurd (q.symm.trans h5) (by decide)) (by omega) sT sG (sFL (c + 1) (by omega) hc1) (fun a ha => sOKs _ (by rw [eCD]; exact List.mem_map.mpr ⟨a, ha, rfl⟩)) (FR W np kd nu (c + 1)) [] FU s0 rfl (by have := (CD_64 (W := W) hd hc1).2; unfold FU; omega) (by simpa using e0)
      rw [← eCD] at a2
      refine fin s1 a2 ?_
      rw [unf, if_neg h0, if_neg h3, X7_twofold_v, bn_t, if_pos (by rw [h5]; decide)]
      exact a1
  · have h0 : kd c ≠ 0 := by rw [h]; decide
    rw [if_neg h0, if_pos h] at eCD
    have har : ar (kd c) = 2 := by rw [h]; decide
    have hc1 := wf_1 hw hc (by omega)
    have hc2 := wf_2 hw hc har
    have hc3 := sc_gt hw hc har
    have hlen : (FR W np kd nu (c + 1)).length + (FR W np kd nu (scn np kd c)).length ≤ 64 := by
      have := h64.1
      rw [eCD, List.length_append, List.length_map] at this
      exact this
    obtain ⟨s1, a1, a2⟩ := m11 (j := 2 ^ (nu c).toNat) (A := FR W np kd nu (c + 1)) (by omega) s17 s2 sT sG (sFL (c + 1) (by omega) hc1) (FR W np kd nu (c + 1)) [] FU s0 rfl (by have := (CD_64 (W := W) hd hc1).2; unfold FU; omega) e0
    obtain ⟨s4, a3, a4⟩ := m49 (j := (nu c).toNat) (c := scn np kd c) (A := FR W np kd nu (scn np kd c)) (B0 := FR W np kd nu (c + 1)) (by omega) (by omega) (by omega) (by omega) s17 s2 (by rw [f0 7 c (fun q => by cases q)]; exact r7 har) sT sG (sFL _ (by omega) hc2) (fun a ha => sOKs _ (by rw [eCD]; exact List.mem_append_right _ (List.mem_map.mpr ⟨a, ha, rfl⟩))) hlen (FR W np kd nu (scn np kd c)) [] FU s1 rfl (by have := (CD_64 (W := W) hd hc2).2; unfold FU; omega) (by simpa using a2)
    rw [← eCD] at a4
    refine fin s4 a4 ?_
    rw [unf, if_neg h0, if_pos h]
    unfold f_X7_triesChoice
    have hsh : i_shl 1 (nu c) = ((2 ^ (nu c).toNat : Nat) : Int) := by
      have hp2 : 2 ^ (nu c).toNat < 2 ^ 6 := Nat.pow_lt_pow_right (by decide) (by omega)
      have := oN_shl (a := 1) (k := (nu c).toNat) (by omega) (by omega)
      rw [Nat.one_mul, show (((nu c).toNat : Nat) : Int) = nu c by omega] at this
      exact this
    rw [gx_d (by omega) (by omega), sb_t, tn_c, s3, hsh]
    have a1' : f_X7_triesChoice_11 FU c ((2 ^ (nu c).toNat : Nat) : Int) 0 s0 = _ := a1
    rw [a1']
    unfold g_X7_triesChoice_47
    have a3' : f_X7_triesChoice_49 FU c ((2 ^ (nu c).toNat : Nat) : Int) 0 s1 = _ := a3
    rw [a3', bn_t]
  · have h0 : kd c ≠ 0 := by rw [h]; decide
    have h3 : kd c ≠ 3 := by rw [h]; decide
    have h12 : ¬ (kd c = 1 ∨ kd c = 2) := by rw [h]; decide
    rw [if_neg h0, if_neg h3, if_neg h12] at eCD
    have har : ar (kd c) = 1 := by rw [h]; decide
    have hc1 := wf_1 hw hc (by omega)
    obtain ⟨s1, a1, a2⟩ := m107 (k22 := k22) (n := (nu c).toNat) (A := FR W np kd nu (c + 1)) (by omega) s17 s2 (Or.inl h) (fun _ => by rw [s3]; omega) (by omega) sT sG (sFL (c + 1) (by omega) hc1) (fun a ha => sOKs _ (by rw [eCD]; exact List.mem_map.mpr ⟨a, ha, rfl⟩)) (FR W np kd nu (c + 1)) [] FU s0 rfl (by have := (CD_64 (W := W) hd hc1).2; unfold FU; omega) (by simpa using e0)
    rw [← eCD] at a2
    refine fin s1 a2 ?_
    rw [unf, if_neg h0, if_neg h3, X7_twofold_v, bn_t, if_pos (by rw [h]; decide)]
    exact a1
theorem ff_all {W : Int} {np : Nat} {kd nu : Nat → Int} (hd : DOK np kd nu) : ∀ (c f : Nat) (s : SS), c ≤ np → c < f → MP np kd nu s → MF W np kd nu c s → ∃ s', f_X7_findsFronts_22 f ((c : Int) - 1) s = some s' ∧ MF W np kd nu 0 s' ∧ frF2 s s' := by
  intro c
  induction c with
  | zero =>
    intro f s _ hf _ hM
    match f, hf with
    | f + 1, _ =>
      refine ⟨s, ?_, hM, fun _ _ _ _ _ => rfl⟩
      show g_X7_findsFronts_22 (f_X7_findsFronts_22 f) _ s = _
      unfold g_X7_findsFronts_22 g_X7_findsFronts_172
      rw [if_pos (by omega)]
  | succ c ih =>
    intro f s hc hf hp hM
    match f, hf with
    | f + 1, hf =>
      rw [show ((c + 1 : Nat) : Int) - 1 = (c : Int) by omega]
      show ∃ s', g_X7_findsFronts_22 (f_X7_findsFronts_22 f) _ s = _ ∧ _
      obtain ⟨s1, a1, a2, a3⟩ := ff_step hd (by omega) (k22 := f_X7_findsFronts_22 f) hp hM
      have hp1 : MP np kd nu s1 := fun k hk => by
        rw [a3 2 k (fun q => by cases q) (by decide) (by decide), a3 3 k (fun q => by cases q) (by decide) (by decide), a3 7 k (fun q => by cases q) (by decide) (by decide)]
        exact hp k hk
      obtain ⟨s', b1, b2, b3⟩ := ih f s1 (by omega) (by omega) hp1 a2
      exact ⟨s', by rw [a1, b1], b2, fun q k x0 x9 x10 => by rw [b3 q k x0 x9 x10, a3 q k x0 x9 x10]⟩
