/-! ===== documents: parts one behind another ===== -/
def ar (k : Int) : Nat := if k = 0 then 0 else if k = 4 ∨ k = 5 then 1 else 2
/-- how many are wanted ahead of part k -/
def nde (kd : Nat → Int) : Nat → Int
  | 0 => 1
  | k + 1 => nde kd k + ar (kd k) - 1
def wfd (np : Nat) (kd : Nat → Int) : Prop := (∀ k, k < np → 1 ≤ nde kd k) ∧ nde kd np = 0
/-- how many parts part k has, itself too -/
def wiF (kd : Nat → Int) : Nat → Nat → Nat
  | 0, _ => 0
  | f + 1, k => if ar (kd k) = 0 then 1 else if ar (kd k) = 1 then 1 + wiF kd f (k + 1) else 1 + wiF kd f (k + 1) + wiF kd f (k + 1 + wiF kd f (k + 1))
theorem ar_3 (k : Int) : ar k = 0 ∨ ar k = 1 ∨ ar k = 2 := by
  unfold ar
  split
  · exact Or.inl rfl
  · split
    · exact Or.inr (Or.inl rfl)
    · exact Or.inr (Or.inr rfl)
/-- the part from k on ends ahead of e -/
def Sub (kd : Nat → Int) (k e : Nat) : Prop := k < e ∧ nde kd e = nde kd k - 1 ∧ ∀ j, k ≤ j → j < e → nde kd k ≤ nde kd j
theorem Sub.unique {kd : Nat → Int} {k a b : Nat} (h1 : Sub kd k a) (h2 : Sub kd k b) : a = b := by
  rcases Nat.lt_trichotomy a b with h | h | h
  · have := h2.2.2 a (by have := h1.1; omega) h
    have := h1.2.1
    omega
  · exact h
  · have := h1.2.2 b (by have := h2.1; omega) h
    have := h2.2.1
    omega
theorem wiF_sub {np : Nat} {kd : Nat → Int} (hw : wfd np kd) : ∀ (d k : Nat), np - k ≤ d → k < np → ∀ f, np - k ≤ f → 1 ≤ wiF kd f k ∧ k + wiF kd f k ≤ np ∧ Sub kd k (k + wiF kd f k) := by
  intro d
  induction d with
  | zero => intro k h1 h2; omega
  | succ d ih =>
    intro k hd hk f hf
    match f, hf with
    | 0, hf => omega
    | f + 1, hf =>
      have hstep : nde kd (k + 1) = nde kd k + ar (kd k) - 1 := rfl
      rcases ar_3 (kd k) with h0 | h0 | h0
      · have e : wiF kd (f + 1) k = 1 := by simp [wiF, h0]
        rw [e]
        refine ⟨by omega, by omega, by omega, by rw [hstep, h0]; simp, fun j h1 h2 => ?_⟩
        obtain rfl : j = k := by omega
        omega
      · have e : wiF kd (f + 1) k = 1 + wiF kd f (k + 1) := by simp [wiF, h0]
        have hk1 : k + 1 < np := by
          have h5 := hw.1 k hk
          rcases Nat.lt_or_ge (k + 1) np with h | h
          · exact h
          · obtain rfl : k + 1 = np := by omega
            have := hw.2
            rw [hstep, h0] at this
            omega
        obtain ⟨a1, a2, a3⟩ := ih (k + 1) (by omega) hk1 f (by omega)
        rw [e, show k + (1 + wiF kd f (k + 1)) = k + 1 + wiF kd f (k + 1) by omega]
        have e2 : nde kd (k + 1) = nde kd k := by rw [hstep, h0]; simp
        refine ⟨by omega, a2, by omega, by rw [a3.2.1, e2], fun j h1 h2 => ?_⟩
        rcases Nat.eq_or_lt_of_le h1 with h | h
        · subst h; omega
        · have := a3.2.2 j h h2
          omega
      · have e : wiF kd (f + 1) k = 1 + wiF kd f (k + 1) + wiF kd f (k + 1 + wiF kd f (k + 1)) := by simp [wiF, h0]
        have e2 : nde kd (k + 1) = nde kd k + 1 := by rw [hstep, h0]; simp; omega
        have h5 := hw.1 k hk
        have hk1 : k + 1 < np := by
          rcases Nat.lt_or_ge (k + 1) np with h | h
          · exact h
          · obtain rfl : k + 1 = np := by omega
            have := hw.2
            omega
        obtain ⟨a1, a2, a3⟩ := ih (k + 1) (by omega) hk1 f (by omega)
        generalize hm : k + 1 + wiF kd f (k + 1) = m at *
        have hm1 : m < np := by
          rcases Nat.lt_or_ge m np with h | h
          · exact h
          · obtain rfl : m = np := by omega
            have := hw.2
            have := a3.2.1
            omega
        obtain ⟨b1, b2, b3⟩ := ih m (by omega) hm1 f (by omega)
        rw [e, show k + (1 + wiF kd f (k + 1) + wiF kd f m) = m + wiF kd f m by omega]
        refine ⟨by omega, b2, by omega, by rw [b3.2.1, a3.2.1, e2]; omega, fun j h1 h2 => ?_⟩
        rcases Nat.eq_or_lt_of_le h1 with h | h
        · subst h; omega
        · rcases Nat.lt_or_ge j m with h3 | h3
          · have := a3.2.2 j h h3
            omega
          · have := b3.2.2 j h3 h2
            have := a3.2.1
            omega
theorem wiF_st {np : Nat} {kd : Nat → Int} (hw : wfd np kd) {k f g : Nat} (hk : k < np) (hf : np - k ≤ f) (hg : np - k ≤ g) : wiF kd f k = wiF kd g k := by
  have h1 := (wiF_sub hw (np - k) k (Nat.le_refl _) hk f hf).2.2
  have h2 := (wiF_sub hw (np - k) k (Nat.le_refl _) hk g hg).2.2
  have := h1.unique h2
  omega
def wi (np : Nat) (kd : Nat → Int) (k : Nat) : Nat := wiF kd np k
def scn (np : Nat) (kd : Nat → Int) (k : Nat) : Nat := k + 1 + wi np kd (k + 1)
section Docs
variable {np : Nat} {kd : Nat → Int} {k : Nat}
theorem wi_sub (hw : wfd np kd) (hk : k < np) : 1 ≤ wi np kd k ∧ k + wi np kd k ≤ np ∧ Sub kd k (k + wi np kd k) := wiF_sub hw (np - k) k (Nat.le_refl _) hk np (by omega)
theorem wf_1 (hw : wfd np kd) (hk : k < np) (h : ar (kd k) ≠ 0) : k + 1 < np := by
  have h5 := hw.1 k hk
  have hstep : nde kd (k + 1) = nde kd k + ar (kd k) - 1 := rfl
  rcases Nat.lt_or_ge (k + 1) np with h1 | h1
  · exact h1
  · obtain rfl : k + 1 = np := by omega
    have := hw.2
    have := ar_3 (kd k)
    omega
theorem wi_0 (hw : wfd np kd) (hk : k < np) (h : ar (kd k) = 0) : wi np kd k = 1 := by
  match np, hk with
  | n + 1, _ => simp [wi, wiF, h]
theorem wi_1 (hw : wfd np kd) (hk : k < np) (h : ar (kd k) = 1) : wi np kd k = 1 + wi np kd (k + 1) := by
  have h1 := wf_1 hw hk (by omega)
  have e : wiF kd (np + 1) k = 1 + wiF kd np (k + 1) := by simp [wiF, h]
  show wiF kd np k = _
  rw [wiF_st hw hk (g := np + 1) (by omega) (by omega), e]
  rfl
theorem wf_2 (hw : wfd np kd) (hk : k < np) (h : ar (kd k) = 2) : scn np kd k < np := by
  have h1 := wf_1 hw hk (by omega)
  obtain ⟨a1, a2, a3⟩ := wi_sub hw h1
  have h5 := hw.1 k hk
  have hstep : nde kd (k + 1) = nde kd k + ar (kd k) - 1 := rfl
  have h6 := a3.2.1
  unfold scn
  rcases Nat.lt_or_ge (k + 1 + wi np kd (k + 1)) np with h2 | h2
  · exact h2
  · have e : k + 1 + wi np kd (k + 1) = np := by omega
    rw [e, hw.2] at h6
    omega
theorem wi_2 (hw : wfd np kd) (hk : k < np) (h : ar (kd k) = 2) : wi np kd k = 1 + wi np kd (k + 1) + wi np kd (scn np kd k) := by
  have h1 := wf_1 hw hk (by omega)
  have e : wiF kd (np + 1) k = 1 + wiF kd np (k + 1) + wiF kd np (k + 1 + wiF kd np (k + 1)) := by simp [wiF, h]
  show wiF kd np k = _
  rw [wiF_st hw hk (g := np + 1) (by omega) (by omega), e]
  rfl
theorem sc_lt : k + 1 ≤ scn np kd k := by unfold scn; omega
theorem sc_gt (hw : wfd np kd) (hk : k < np) (h : ar (kd k) = 2) : k + 1 < scn np kd k := by
  have := (wi_sub hw (wf_1 hw hk (by omega))).1
  unfold scn
  omega
end Docs
/-- a table over the parts, each out of those of the parts below it -/
def ev {α : Type} (z : α) (F : Nat → α → α → α) (sc : Nat → Nat) : Nat → Nat → α
  | 0, _ => z
  | f + 1, k => F k (ev z F sc f (k + 1)) (ev z F sc f (sc k))
/-- what a part doesn't have doesn't count -/
def evOK {α : Type} (kd : Nat → Int) (F : Nat → α → α → α) : Prop := ∀ k a b a' b', (ar (kd k) ≠ 0 → a = a') → (ar (kd k) = 2 → b = b') → F k a b = F k a' b'
theorem ev_st {α : Type} {z : α} {F : Nat → α → α → α} {np : Nat} {kd : Nat → Int} (hw : wfd np kd) (hF : evOK kd F) : ∀ (d k f g : Nat), np - k ≤ d → k < np → np - k ≤ f → np - k ≤ g → ev z F (scn np kd) f k = ev z F (scn np kd) g k := by
  intro d
  induction d with
  | zero => intro k f g h1 h2; omega
  | succ d ih =>
    intro k f g hd hk hf hg
    match f, g, hf, hg with
    | 0, _, hf, _ => omega
    | _ + 1, 0, _, hg => omega
    | f + 1, g + 1, hf, hg =>
      refine hF k _ _ _ _ (fun h => ?_) (fun h => ?_)
      · exact ih (k + 1) f g (by omega) (wf_1 hw hk h) (by omega) (by omega)
      · have h2 := sc_gt hw hk h
        exact ih _ f g (by omega) (wf_2 hw hk h) (by omega) (by omega)
def EV {α : Type} (z : α) (F : Nat → α → α → α) (np : Nat) (kd : Nat → Int) (k : Nat) : α := ev z F (scn np kd) np k
theorem EV_eq {α : Type} {z : α} {F : Nat → α → α → α} {np : Nat} {kd : Nat → Int} (hw : wfd np kd) (hF : evOK kd F) {k : Nat} (hk : k < np) : EV z F np kd k = F k (EV z F np kd (k + 1)) (EV z F np kd (scn np kd k)) := by
  show ev z F (scn np kd) np k = _
  rw [ev_st hw hF (np - k) k np (np + 1) (Nat.le_refl _) hk (by omega) (by omega)]
  rfl
/-- from the last part to the first -/
theorem part_ind {np : Nat} {kd : Nat → Int} (hw : wfd np kd) {Q : Nat → Prop} (h : ∀ k, k < np → (ar (kd k) ≠ 0 → Q (k + 1)) → (ar (kd k) = 2 → Q (scn np kd k)) → Q k) : ∀ k, k < np → Q k := by
  have h2 : ∀ d k, np - k ≤ d → k < np → Q k := by
    intro d
    induction d with
    | zero => intro k h1 h2; omega
    | succ d ih =>
      intro k hd hk
      refine h k hk (fun ha => ih (k + 1) (by omega) (wf_1 hw hk ha)) (fun ha => ?_)
      have h3 := sc_gt hw hk ha
      exact ih _ (by omega) (wf_2 hw hk ha)
  exact fun k hk => h2 _ k (Nat.le_refl _) hk
