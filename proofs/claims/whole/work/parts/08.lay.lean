/-! ===== the two layouts ===== -/
def LCk : List Nat := [9, 3, 0, 0, 0, 0, 0, 0, 0, 0, 4, 6, 0, 0, 0, 0, 0, 6, 0, 0, 0, 0, 8, 6, 0, 0, 0, 0, 6, 0, 0, 0, 0, 0, 0, 5, 1, 0, 0, 0, 0, 2, 7, 0, 7, 0, 7, 0, 7, 0]
def LCl : List Nat := [10, 13, 40, 40, 40, 40, 40, 40, 40, 40, 4, 4, 2560, 2560, 2560, 2560, 40, 4, 1, 1, 1, 1, 7, 4, 40, 40, 40, 40, 4, 64, 64, 64, 64, 100, 40, 6, 40, 40, 40, 40, 40, 4, 3, 60, 3, 60, 3, 60, 3, 60]
def LCr : List (List (Option Nat)) := [[some 1, some 10, some 17, some 22, some 35, some 41], [some 2, some 3, some 4, some 5, some 6, some 7, some 8, some 9], [], [], [], [], [], [], [], [], [some 11, some 16], [some 12, some 13, some 14, some 15], [], [], [], [], [], [some 18, some 19, some 20, some 21], [], [], [], [], [some 23, some 28, some 33, some 34], [some 24, some 25, some 26, some 27], [], [], [], [], [some 29, some 30, some 31, some 32], [], [], [], [], [], [], [some 36, some 37, some 38, some 39, some 40], [], [], [], [], [], [some 42, some 44, some 46, some 48], [some 43], [], [some 45], [], [some 47], [], [some 49], []]
def LC : Lay := (50, fun q => LCk.getD q 0, fun q => LCl.getD q 0, fun q k => (LCr.getD q []).getD k none)
theorem pC_0 : PL LC 0 6 := ⟨by decide, rfl, fun C T N h => by cases h; rfl⟩
theorem pC_1 : PL LC 1 0 := ⟨by decide, rfl, fun C T N h => by cases h; rfl⟩
theorem aC_2 : AR LC 2 0 40 := ⟨by decide, rfl, rfl⟩
theorem aC_3 : AR LC 3 0 40 := ⟨by decide, rfl, rfl⟩
theorem aC_4 : AR LC 4 0 40 := ⟨by decide, rfl, rfl⟩
theorem aC_5 : AR LC 5 0 40 := ⟨by decide, rfl, rfl⟩
theorem aC_6 : AR LC 6 0 40 := ⟨by decide, rfl, rfl⟩
theorem aC_7 : AR LC 7 0 40 := ⟨by decide, rfl, rfl⟩
theorem aC_8 : AR LC 8 0 40 := ⟨by decide, rfl, rfl⟩
theorem aC_9 : AR LC 9 0 40 := ⟨by decide, rfl, rfl⟩
theorem pC_10 : PL LC 10 1 := ⟨by decide, rfl, fun C T N h => by cases h; rfl⟩
theorem pC_11 : PL LC 11 3 := ⟨by decide, rfl, fun C T N h => by cases h; rfl⟩
theorem aC_12 : AR LC 12 0 2560 := ⟨by decide, rfl, rfl⟩
theorem aC_13 : AR LC 13 0 2560 := ⟨by decide, rfl, rfl⟩
theorem aC_14 : AR LC 14 0 2560 := ⟨by decide, rfl, rfl⟩
theorem aC_15 : AR LC 15 0 2560 := ⟨by decide, rfl, rfl⟩
theorem aC_16 : AR LC 16 0 40 := ⟨by decide, rfl, rfl⟩
theorem pC_17 : PL LC 17 3 := ⟨by decide, rfl, fun C T N h => by cases h; rfl⟩
theorem aC_18 : AR LC 18 0 1 := ⟨by decide, rfl, rfl⟩
theorem aC_19 : AR LC 19 0 1 := ⟨by decide, rfl, rfl⟩
theorem aC_20 : AR LC 20 0 1 := ⟨by decide, rfl, rfl⟩
theorem aC_21 : AR LC 21 0 1 := ⟨by decide, rfl, rfl⟩
theorem pC_22 : PL LC 22 5 := ⟨by decide, rfl, fun C T N h => by cases h; rfl⟩
theorem pC_23 : PL LC 23 3 := ⟨by decide, rfl, fun C T N h => by cases h; rfl⟩
theorem aC_24 : AR LC 24 0 40 := ⟨by decide, rfl, rfl⟩
theorem aC_25 : AR LC 25 0 40 := ⟨by decide, rfl, rfl⟩
theorem aC_26 : AR LC 26 0 40 := ⟨by decide, rfl, rfl⟩
theorem aC_27 : AR LC 27 0 40 := ⟨by decide, rfl, rfl⟩
theorem pC_28 : PL LC 28 3 := ⟨by decide, rfl, fun C T N h => by cases h; rfl⟩
theorem aC_29 : AR LC 29 0 64 := ⟨by decide, rfl, rfl⟩
theorem aC_30 : AR LC 30 0 64 := ⟨by decide, rfl, rfl⟩
theorem aC_31 : AR LC 31 0 64 := ⟨by decide, rfl, rfl⟩
theorem aC_32 : AR LC 32 0 64 := ⟨by decide, rfl, rfl⟩
theorem aC_33 : AR LC 33 0 100 := ⟨by decide, rfl, rfl⟩
theorem aC_34 : AR LC 34 0 40 := ⟨by decide, rfl, rfl⟩
theorem pC_35 : PL LC 35 2 := ⟨by decide, rfl, fun C T N h => by cases h; rfl⟩
theorem aC_36 : AR LC 36 1 40 := ⟨by decide, rfl, rfl⟩
theorem aC_37 : AR LC 37 0 40 := ⟨by decide, rfl, rfl⟩
theorem aC_38 : AR LC 38 0 40 := ⟨by decide, rfl, rfl⟩
theorem aC_39 : AR LC 39 0 40 := ⟨by decide, rfl, rfl⟩
theorem aC_40 : AR LC 40 0 40 := ⟨by decide, rfl, rfl⟩
theorem aC_41 : AR LC 41 2 4 := ⟨by decide, rfl, rfl⟩
theorem pC_42 : PL LC 42 4 := ⟨by decide, rfl, fun C T N h => by cases h; rfl⟩
theorem aC_43 : AR LC 43 0 60 := ⟨by decide, rfl, rfl⟩
theorem pC_44 : PL LC 44 4 := ⟨by decide, rfl, fun C T N h => by cases h; rfl⟩
theorem aC_45 : AR LC 45 0 60 := ⟨by decide, rfl, rfl⟩
theorem pC_46 : PL LC 46 4 := ⟨by decide, rfl, fun C T N h => by cases h; rfl⟩
theorem aC_47 : AR LC 47 0 60 := ⟨by decide, rfl, rfl⟩
theorem pC_48 : PL LC 48 4 := ⟨by decide, rfl, fun C T N h => by cases h; rfl⟩
theorem aC_49 : AR LC 49 0 60 := ⟨by decide, rfl, rfl⟩
def LMk : List Nat := [10, 0, 0, 0, 0, 0, 0, 0, 0, 0, 0, 0, 0, 0, 0, 0, 1, 0, 0, 0, 0]
def LMl : List Nat := [31, 40, 40, 40, 40, 40, 40, 40, 40, 2560, 40, 40, 64, 40, 40, 40, 4, 4, 4, 240, 60]
def LMr : List (List (Option Nat)) := [[none, some 1, none, none, none, none, some 2, some 3, some 4, some 5, some 6, some 7, some 8, some 9, some 10, none, none, none, none, none, some 11, some 12, some 13, some 14, some 15, some 16, some 17, some 18, some 19, some 20], [], [], [], [], [], [], [], [], [], [], [], [], [], [], [], [], [], [], [], []]
def LM : Lay := (21, fun q => LMk.getD q 0, fun q => LMl.getD q 0, fun q k => (LMr.getD q []).getD k none)
theorem pM_0 : PL LM 0 7 := ⟨by decide, rfl, fun C T N h => by cases h; rfl⟩
theorem aM_1 : AR LM 1 0 40 := ⟨by decide, rfl, rfl⟩
theorem aM_2 : AR LM 2 0 40 := ⟨by decide, rfl, rfl⟩
theorem aM_3 : AR LM 3 0 40 := ⟨by decide, rfl, rfl⟩
theorem aM_4 : AR LM 4 0 40 := ⟨by decide, rfl, rfl⟩
theorem aM_5 : AR LM 5 0 40 := ⟨by decide, rfl, rfl⟩
theorem aM_6 : AR LM 6 0 40 := ⟨by decide, rfl, rfl⟩
theorem aM_7 : AR LM 7 0 40 := ⟨by decide, rfl, rfl⟩
theorem aM_8 : AR LM 8 0 40 := ⟨by decide, rfl, rfl⟩
theorem aM_9 : AR LM 9 0 2560 := ⟨by decide, rfl, rfl⟩
theorem aM_10 : AR LM 10 0 40 := ⟨by decide, rfl, rfl⟩
theorem aM_11 : AR LM 11 0 40 := ⟨by decide, rfl, rfl⟩
theorem aM_12 : AR LM 12 0 64 := ⟨by decide, rfl, rfl⟩
theorem aM_13 : AR LM 13 0 40 := ⟨by decide, rfl, rfl⟩
theorem aM_14 : AR LM 14 0 40 := ⟨by decide, rfl, rfl⟩
theorem aM_15 : AR LM 15 0 40 := ⟨by decide, rfl, rfl⟩
theorem aM_16 : AR LM 16 1 4 := ⟨by decide, rfl, rfl⟩
theorem aM_17 : AR LM 17 0 4 := ⟨by decide, rfl, rfl⟩
theorem aM_18 : AR LM 18 0 4 := ⟨by decide, rfl, rfl⟩
theorem aM_19 : AR LM 19 0 240 := ⟨by decide, rfl, rfl⟩
theorem aM_20 : AR LM 20 0 60 := ⟨by decide, rfl, rfl⟩
def shl (q : Nat) : Nat := LC.2.2.1 (q + 1)
theorem sh_q {q : Nat} (h : PL LC q 3) : q = 11 ∨ q = 17 ∨ q = 23 ∨ q = 28 := by
  have h2 : ∀ q, q < 50 → LC.2.1 q = 6 → q = 11 ∨ q = 17 ∨ q = 23 ∨ q = 28 := by decide
  exact h2 q h.1 h.2.1
theorem st_q {q : Nat} (h : PL LC q 4) : q = 42 ∨ q = 44 ∨ q = 46 ∨ q = 48 := by
  have h2 : ∀ q, q < 50 → LC.2.1 q = 7 → q = 42 ∨ q = 44 ∨ q = 46 ∨ q = 48 := by decide
  exact h2 q h.1 h.2.1
theorem sh_r {q k : Nat} (h : PL LC q 3) (hk : k < 4) : LC.2.2.2 q k = some (q + 1 + k) := by
  rcases sh_q h with rfl | rfl | rfl | rfl <;> (match k, hk with | 0, _ => rfl | 1, _ => rfl | 2, _ => rfl | 3, _ => rfl)
theorem sh_a {q k : Nat} (h : PL LC q 3) (hk : k < 4) : AR LC (q + 1 + k) 0 (shl q) := by
  rcases sh_q h with rfl | rfl | rfl | rfl <;> (match k, hk with | 0, _ => exact ⟨by decide, rfl, rfl⟩ | 1, _ => exact ⟨by decide, rfl, rfl⟩ | 2, _ => exact ⟨by decide, rfl, rfl⟩ | 3, _ => exact ⟨by decide, rfl, rfl⟩)
theorem sh_l {q : Nat} (h : PL LC q 3) : IR (shl q) := by
  rcases sh_q h with rfl | rfl | rfl | rfl <;> exact ⟨by decide, by decide⟩
theorem st_r {q : Nat} (h : PL LC q 4) : LC.2.2.2 q 0 = some (q + 1) := by
  rcases st_q h with rfl | rfl | rfl | rfl <;> rfl
theorem st_n {q k : Nat} (h : PL LC q 4) (hk : k = 1 ∨ k = 2) : LC.2.2.2 q k = none := by
  rcases st_q h with rfl | rfl | rfl | rfl <;> rcases hk with rfl | rfl <;> rfl
theorem st_a {q : Nat} (h : PL LC q 4) : AR LC (q + 1) 0 60 := by
  rcases st_q h with rfl | rfl | rfl | rfl <;> exact ⟨by decide, rfl, rfl⟩
def gp {β : Type} (q : Nat) (x : Option β) : Option β := if q = 42 ∨ q = 44 ∨ q = 46 ∨ q = 48 then x else none
theorem gp_e {β : Type} {q : Nat} {x : Option β} {r : β} (h : gp q x = some r) : PL LC q 4 ∧ x = some r := by
  unfold gp at h
  split at h
  · rename_i h1
    refine ⟨?_, h⟩
    rcases h1 with rfl | rfl | rfl | rfl
    · exact pC_42
    · exact pC_44
    · exact pC_46
    · exact pC_48
  · cases h
