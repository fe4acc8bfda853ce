/-! ===== the start, all calls ===== -/
def t0 : Nat → Int := fun _ => 0
theorem pts_0 : pts 0 t0 = [] := List.length_eq_zero_iff.mp (Nat.le_zero.mp (pts_ok 0 t0).2)
theorem pN_0 : pN 0 t0 = 0 := by
  show (pts 0 t0).length = 0
  rw [pts_0]
  rfl
theorem fau_0 : fau 0 t0 = -1 := rfl
theorem LY_0 {v : Int} {m : Nat} {x : Sh} : ¬ LY 0 t0 v m x := by
  intro h
  have := (U_bnd (by decide) h.1).2.2.1
  rw [pN_0] at this
  omega
theorem best_0 : bestS 0 t0 20 = none := by
  unfold bestS
  rw [if_pos pN_0]
theorem CR_0 : CR 0 t0 s0C := by
  unfold CR
  rw [pts_0, fau_0]
  exact ⟨rfl, rfl, rfl, fun j hj => absurd hj (Nat.not_lt_zero _), fun j hj => absurd hj (Nat.not_lt_zero _), fun h => absurd h (Nat.lt_irrefl _), fun j _ h => absurd h (Nat.not_lt_zero _)⟩
theorem CW_0 : CW 0 t0 s0C := by
  obtain ⟨s', -, hW, -⟩ := X5_make_v (n := 0) (t := t0) (by decide) CR_0
  obtain ⟨-, -, -, -, hL, hF⟩ := hW
  have hv : Lv 0 t0 99 = -1 := fewV_eq (Or.inl ⟨rfl, fun x => LY_0⟩)
  have hs : SL (Lv 0 t0) 100 = [] := (SL_le hL 99 (by decide)).1 hv
  have he : enA 0 t0 = -1 := fewV_eq (Or.inl ⟨rfl, fun x => LY_0⟩)
  have hm : mny 0 t0 = 0 := by unfold mny; rw [if_pos pN_0]
  refine ⟨⟨by rw [hm]; rfl, fun w hw => by rw [hm] at hw; omega⟩, by rw [he]; rfl, by rw [hs]; rfl, fun j hj => ?_, hL, hF⟩
  rw [hs] at hj
  exact absurd hj (Nat.not_lt_zero _)
theorem CB_0 : CB 0 t0 20 s0C := by
  refine ⟨⟨by decide, rfl, fun j hj => absurd hj (Nat.not_lt_zero _), fun j hj => absurd hj (Nat.not_lt_zero _)⟩, ⟨by decide, fun j hj => absurd hj (Nat.not_lt_zero _), CR_0, ?_, fun _ => rfl⟩, CW_0, rfl, by decide, ?_, ?_, fun x hx => (by rw [best_0] at hx; cases hx), Or.inl ⟨best_0, rfl⟩⟩
  · refine ⟨?_, ?_, fun k _ hk => ?_⟩
    · rw [pN_0]
      have : trT 20 0 (pK 0 t0) (pU 0 t0) 0 = 0 := smS_0
      rw [this]
      rfl
    · rw [pN_0]
      have : trG 20 0 (pK 0 t0) (pU 0 t0) 0 = 0 := smS_0
      rw [this]
      rfl
    · rw [pN_0] at hk
      omega
  · rw [best_0]
    rfl
  · have : ovr 0 t0 20 = false := by
      unfold ovr
      rw [pN_0]
      rfl
    rw [this]
    rfl
theorem INV_0 : INV s0C s0M := by
  refine ⟨0, t0, 20, CB_0, ⟨⟨by decide, rfl, fun j hj => absurd hj (Nat.not_lt_zero _), fun j hj => absurd hj (Nat.not_lt_zero _)⟩, rfl, by decide, by decide⟩, rfl, fun j hj => Or.inl ?_⟩
  match j, hj with
  | 0, _ => exact ⟨rfl, rfl⟩
  | 1, _ => exact ⟨rfl, rfl⟩
  | 2, _ => exact ⟨rfl, rfl⟩
  | 3, _ => exact ⟨rfl, rfl⟩
theorem all_ok : ALLOK INV := ⟨ok_type, ok_wipe, ok_undo, ok_fault, ok_width, ok_read, ok_part, ok_frontier, ok_tried, ok_best, ok_line, ok_way, ok_haste, ok_enough, ok_shrinks, ok_spare, ok_sheet, ok_lose, ok_put, ok_get, ok_copy, ok_write, ok_count, ok_digest⟩
theorem whole_start {p : Program} {e : Env} {s : State} {m : MethodId} {below : List Frame} {meth : Method} {c : Code} (l : Launch) (hflags : l.flags = flags0) {b L : Nat} {xs : Nat → Int32} (hL : L ≤ 3072) (C0 : lw_At p s m meth c b L xs) : W p l e room_1 s m #[Value.ref b] below meth c s.heap [] 0 0 (lw_Z below #[Value.ref b] s) (entryFrame m ([Value.ref b] : List Value).toArray 4) := start_of all_ok INV_0 l hL C0
