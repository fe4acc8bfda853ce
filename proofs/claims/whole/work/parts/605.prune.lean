/-! ===== a frontier has, for each layout, one that is no greater ===== -/
theorem ng_iff {a b : Sh} : ng a b = true ↔ a.1 ≤ b.1 ∧ a.2.1 ≤ b.2.1 ∧ a.2.2.1 ≤ b.2.2.1 := by
  simp [ng, and_assoc]
theorem ng_refl (a : Sh) : ng a a = true := ng_iff.mpr ⟨Nat.le_refl _, Nat.le_refl _, Nat.le_refl _⟩
theorem ng_trans {a b c : Sh} (h1 : ng a b = true) (h2 : ng b c = true) : ng a c = true := by
  rw [ng_iff] at h1 h2 ⊢
  omega
theorem tr_ng {W : Int} {fl : Bool} {L : List Sh} {x y : Sh} (h : y ∈ L) : ∃ z ∈ tr W fl L x, ng z y = true := by
  unfold tr
  split
  · exact ⟨y, h, ng_refl y⟩
  · by_cases q : ng x y = true
    · exact ⟨x, List.mem_append_right _ List.mem_cons_self, q⟩
    · exact ⟨y, List.mem_append_left _ (List.mem_filter.mpr ⟨h, by simp [q]⟩), ng_refl y⟩
theorem fold_keep {W : Int} {fl : Bool} {x : Sh} : ∀ (C L : List Sh), (∃ y ∈ L, ng y x = true) → ∃ y ∈ C.foldl (tr W fl) L, ng y x = true
  | [], L, h => h
  | c :: C, L, ⟨y, hy, hn⟩ => by
      obtain ⟨z, hz, hzn⟩ := tr_ng (W := W) (fl := fl) (x := c) hy
      exact fold_keep C _ ⟨z, hz, ng_trans hzn hn⟩
theorem fold_has {W : Int} {fl : Bool} {x : Sh} (hW : (x.2.2.1 : Int) ≤ W) (hf : fl = true → x.1 ≤ 1) : ∀ (C L : List Sh), x ∈ C → ∃ y ∈ C.foldl (tr W fl) L, ng y x = true
  | c :: C, L, h => by
      rcases List.mem_cons.mp h with rfl | h
      · refine fold_keep C _ ?_
        unfold tr
        by_cases ha : L.any (fun a => ng a x) = true
        · rw [if_pos (Or.inr (Or.inr ha))]
          obtain ⟨y, hy, hn⟩ := List.any_eq_true.mp ha
          exact ⟨y, hy, hn⟩
        · rw [if_neg]
          · exact ⟨x, List.mem_append_right _ List.mem_cons_self, ng_refl x⟩
          · rintro (q | ⟨q1, q2⟩ | q)
            · omega
            · have := hf q1
              omega
            · exact ha q
      · exact fold_has hW hf C _ h
theorem tr_ok {W : Int} {fl : Bool} {L : List Sh} {x y : Sh} (h : y ∈ tr W fl L x) : y ∈ L ∨ (y = x ∧ (x.2.2.1 : Int) ≤ W ∧ (fl = true → x.1 ≤ 1)) := by
  unfold tr at h
  split at h
  · exact Or.inl h
  · rename_i q
    rcases List.mem_append.mp h with h | h
    · exact Or.inl (List.mem_filter.mp h).1
    · refine Or.inr ⟨List.mem_singleton.mp h, ?_, fun f => ?_⟩
      · have : ¬ W < (x.2.2.1 : Int) := fun z => q (Or.inl z)
        omega
      · have : ¬ 1 < x.1 := fun z => q (Or.inr (Or.inl ⟨f, z⟩))
        omega
theorem fold_ok {W : Int} {fl : Bool} : ∀ (C L : List Sh) (y : Sh), y ∈ C.foldl (tr W fl) L → y ∈ L ∨ (y ∈ C ∧ (y.2.2.1 : Int) ≤ W ∧ (fl = true → y.1 ≤ 1))
  | [], L, y, h => Or.inl h
  | c :: C, L, y, h => by
      rcases fold_ok C _ y h with h | ⟨h1, h2, h3⟩
      · rcases tr_ok h with h | ⟨rfl, h2, h3⟩
        · exact Or.inl h
        · exact Or.inr ⟨List.mem_cons_self, h2, h3⟩
      · exact Or.inr ⟨List.mem_cons_of_mem _ h1, h2, h3⟩
theorem flt_ok {W : Int} {fl : Bool} {C : List Sh} {y : Sh} (h : y ∈ flt W fl C) : y ∈ C ∧ (y.2.2.1 : Int) ≤ W ∧ (fl = true → y.1 ≤ 1) := by
  rcases fold_ok C [] y h with h | h
  · cases h
  · exact h
section PR
variable {np : Nat} {kd nu : Nat → Int}
theorem bth_ng {z : Int} {a b a' b' : Sh} (h1 : ng a a' = true) (h2 : ng b b' = true) : ng (bth z a b) (bth z a' b') = true := by
  rw [ng_iff] at h1 h2 ⊢
  unfold bth
  split <;> (dsimp only; omega)
theorem prune (hd : DOK np kd nu) {W : Int} {w : Nat} : ∀ k, k < np → ∀ x, SH w np kd nu k = some x → (x.2.2.1 : Int) ≤ W → ∃ y ∈ FR W np kd nu k, ng y x = true := by
  have hw := hd.2.1
  refine part_ind hw (fun k hk h1 h2 x hx hW => ?_)
  rw [FR_eq hw hk]
  have key : ∀ c ∈ CD W np kd nu k, ng c x = true → (kd k = 5 → c.1 ≤ 1) → ∃ y ∈ flt W (decide (kd k = 5)) (CD W np kd nu k), ng y x = true := by
    intro c hc hn h5
    have hn' := ng_iff.mp hn
    obtain ⟨y, hy, hyn⟩ := fold_has (W := W) (fl := decide (kd k = 5)) (x := c) (by omega) (fun q => h5 (by simpa using q)) (CD W np kd nu k) [] hc
    exact ⟨y, hy, ng_trans hyn hn⟩
  have eCD : CD W np kd nu k = cand kd nu k (FR W np kd nu (k + 1)) (FR W np kd nu (scn np kd k)) := rfl
  unfold cand at eCD
  rw [SH_eq hw hk] at hx
  unfold shF at hx
  rcases PK_of hd hk with ⟨h, a, n1, n2⟩ | ⟨h, a, h0, h3, n, k1, k2, k3⟩ | ⟨h, a, h0, n, n6, k1, k2, k3⟩ | ⟨h, a, h0, h3, h12, n1, n0, n2, k1⟩
  · rw [if_pos h] at hx eCD
    injection hx with hx
    exact key x (by rw [eCD, ← hx]; exact List.mem_cons_self) (ng_refl x) (fun q => by omega)
  · rw [if_neg h0, if_neg h3, if_pos h] at hx eCD
    obtain ⟨u, hu, hx⟩ := Option.bind_eq_some_iff.mp hx
    obtain ⟨v, hv, rfl⟩ := Option.map_eq_some_iff.mp hx
    have m1 : u.2.2.1 ≤ (bth (kd k) u v).2.2.1 ∧ v.2.2.1 ≤ (bth (kd k) u v).2.2.1 := by
      unfold bth
      split <;> (dsimp only; omega)
    obtain ⟨y, hy, hyn⟩ := h1 (by omega) u hu (by omega)
    obtain ⟨z, hz, hzn⟩ := h2 a v hv (by omega)
    exact key (bth (kd k) y z) (by rw [eCD]; exact List.mem_flatMap.mpr ⟨y, hy, List.mem_map.mpr ⟨z, hz, rfl⟩⟩) (bth_ng hyn hzn) (fun q => by omega)
  · rw [if_neg h0, if_pos h] at hx eCD
    by_cases hb : w.testBit (nu k).toNat = true
    · rw [if_pos hb] at hx
      obtain ⟨v, hv, rfl⟩ := Option.map_eq_some_iff.mp hx
      obtain ⟨z, hz, hzn⟩ := h2 a v hv hW
      exact key (z.1, z.2.1, z.2.2.1, z.2.2.2 ||| 2 ^ (nu k).toNat) (by rw [eCD]; exact List.mem_append_right _ (List.mem_map.mpr ⟨z, hz, rfl⟩)) (by rw [ng_iff] at hzn ⊢; exact hzn) (fun q => by omega)
    · rw [if_neg hb] at hx
      obtain ⟨y, hy, hyn⟩ := h1 (by omega) x hx hW
      exact key y (by rw [eCD]; exact List.mem_append_left _ hy) hyn (fun q => by omega)
  · rw [if_neg h0, if_neg h3, if_neg h12] at hx eCD
    obtain ⟨u, hu, hx⟩ := Option.bind_eq_some_iff.mp hx
    by_cases h5 : kd k = 5 ∧ 1 < u.1
    · rw [if_pos h5] at hx; cases hx
    · rw [if_neg h5] at hx
      injection hx with hx
      subst hx
      have hW' : ((u.2.2.1 + (if kd k = 4 then (nu k).toNat else 0) : Nat) : Int) ≤ W := hW
      obtain ⟨y, hy, hyn⟩ := h1 (by omega) u hu (by omega)
      have hyn' := ng_iff.mp hyn
      refine key (psh (if kd k = 4 then (nu k).toNat else 0) y) (by rw [eCD]; exact List.mem_map.mpr ⟨y, hy, rfl⟩) (by rw [ng_iff]; unfold psh; dsimp only; omega) (fun q => ?_)
      have : ¬ 1 < u.1 := fun z => h5 ⟨q, z⟩
      show y.1 ≤ 1
      omega
theorem FR_SH (hd : DOK np kd nu) {W : Int} : ∀ k, k < np → ∀ y ∈ FR W np kd nu k, (y.2.2.1 : Int) ≤ W ∧ SH y.2.2.2 np kd nu k = some y := by
  have hw := hd.2.1
  refine part_ind hw (fun k hk h1 h2 y hy => ?_)
  have e1 := lo_s kd k
  have e2 := lo_sc np kd k
  rw [FR_eq hw hk] at hy
  obtain ⟨hy, hyW, hy5⟩ := flt_ok hy
  refine ⟨hyW, ?_⟩
  have eCD : CD W np kd nu k = cand kd nu k (FR W np kd nu (k + 1)) (FR W np kd nu (scn np kd k)) := rfl
  unfold cand at eCD
  rw [eCD] at hy
  rw [SH_eq hw hk]
  unfold shF
  rcases PK_of hd hk with ⟨h, a, n1, n2⟩ | ⟨h, a, h0, h3, n, k1, k2, k3⟩ | ⟨h, a, h0, n, n6, k1, k2, k3⟩ | ⟨h, a, h0, h3, h12, n1, n0, n2, k1⟩
  · rw [if_pos h] at hy ⊢
    rw [List.mem_singleton.mp hy]
  · rw [if_neg h0, if_neg h3, if_pos h] at hy ⊢
    rw [if_neg h3] at e1
    obtain ⟨u, hu, hy⟩ := List.mem_flatMap.mp hy
    obtain ⟨v, hv, rfl⟩ := List.mem_map.mp hy
    have su := (h1 (by omega) u hu).2
    have sv := (h2 a v hv).2
    rw [bth_way]
    rw [SH_nm hd (k + 1) k1 u su (u.2.2.2 ||| v.2.2.2) (fun i hi => by
      rw [Nat.testBit_or]
      cases hq : v.2.2.2.testBit i with
      | false => simp
      | true =>
        have := (SH_way hd _ k2 v sv i hq).1
        unfold inR at this hi
        omega), SH_nm hd _ k2 v sv (u.2.2.2 ||| v.2.2.2) (fun i hi => by
      rw [Nat.testBit_or]
      cases hq : u.2.2.2.testBit i with
      | false => simp
      | true =>
        have := (SH_way hd _ k1 u su i hq).1
        unfold inR at this hi
        omega)]
    rfl
  · rw [if_neg h0, if_pos h] at hy ⊢
    rw [if_pos h] at e1
    rcases List.mem_append.mp hy with hy | hy
    · have sy := (h1 (by omega) y hy).2
      rw [if_neg, sy]
      intro q
      have := (SH_way hd _ k1 y sy _ q).1
      unfold inR lo at *
      omega
    · obtain ⟨v, hv, rfl⟩ := List.mem_map.mp hy
      have sv := (h2 a v hv).2
      dsimp only
      rw [if_pos (by rw [Nat.testBit_or, Nat.testBit_two_pow_self, Bool.or_true]), SH_nm hd _ k2 v sv (v.2.2.2 ||| 2 ^ (nu k).toNat) (fun i hi => by
        rw [Nat.testBit_or, Nat.testBit_two_pow]
        have : ¬ (nu k).toNat = i := by unfold inR lo at *; omega
        simp [this])]
      rfl
  · rw [if_neg h0, if_neg h3, if_neg h12] at hy ⊢
    obtain ⟨u, hu, rfl⟩ := List.mem_map.mp hy
    have su := (h1 (by omega) u hu).2
    show (SH u.2.2.2 np kd nu (k + 1)).bind _ = _
    rw [su]
    show (if kd k = 5 ∧ 1 < u.1 then none else _) = _
    rw [if_neg]
    rintro ⟨q1, q2⟩
    have h7 : u.1 ≤ 1 := hy5 (by simp [q1])
    omega
theorem FR_big (hd : DOK np kd nu) {W W' : Int} (hW : 360 ≤ W) (hW' : 360 ≤ W') : ∀ k, k < np → FR W np kd nu k = FR W' np kd nu k := by
  have hw := hd.2.1
  have h40 := hd.1
  refine part_ind hw (fun k hk h1 h2 => ?_)
  have e : CD W np kd nu k = CD W' np kd nu k := cand_ok kd nu k _ _ _ _ h1 h2
  rw [FR_eq hw hk, FR_eq hw hk, e]
  have hb := (FR_bnd (W := W') hd k hk).2.1
  have h3 := (wi_sub hw hk).2.1
  have hf : ∀ (C L : List Sh), (∀ x ∈ C, x.2.2.1 ≤ 360) → C.foldl (tr W (decide (kd k = 5))) L = C.foldl (tr W' (decide (kd k = 5))) L := by
    intro C
    induction C with
    | nil => intro L _; rfl
    | cons c C ih =>
      intro L hC
      have hc := hC c List.mem_cons_self
      have et : tr W (decide (kd k = 5)) L c = tr W' (decide (kd k = 5)) L c := by
        unfold tr
        have q1 : ¬ W < (c.2.2.1 : Int) := by omega
        have q2 : ¬ W' < (c.2.2.1 : Int) := by omega
        simp only [q1, q2, false_or]
      rw [List.foldl_cons, List.foldl_cons, et]
      exact ih _ (fun x hx => hC x (List.mem_cons_of_mem _ hx))
  refine hf _ _ (fun x hx => ?_)
  obtain ⟨-, -, -, -, q, -⟩ := hb x hx
  omega
end PR
