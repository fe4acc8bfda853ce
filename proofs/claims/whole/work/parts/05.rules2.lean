/-! ===== the rules: branches, fields, rows, calls, ends ===== -/
section Rules2
variable {L : Lay} {M : MI} {r : Option AV × SS} {pc : Nat} {ls : List (Option AV)} {st : List AV} {σ : SS}
theorem aw_icmp_eq {a b off : Int} {tgt : Nat} (hd : decode M.2.1 pc = .ok (.if_icmp .eq off, 3)) (ht : (pc : Int) + off = (tgt : Int)) (kt : a = b → AW L M r tgt ls st σ) (kf : ¬ a = b → AW L M r (pc + 3) ls st σ) : AW L M r pc ls (vI b :: vI a :: st) σ := by
  intro p l e s m args below meth c G H locs lsA hX hW hO hv
  have ha : IR a := at_1 hO
  have hb : IR b := at_0 hO
  have kt' := fun h => kt h p l e s m args below meth c G H locs lsA hX hW (ok_drop hO in_2) hv
  have kf' := fun h => kf h p l e s m args below meth c G H locs lsA hX hW (ok_drop hO in_2) hv
  exact lv_icmp_eq hX.1 hX.2.1 hd ht (fun h => kt' ((oi_eq ha hb).mp h)) (fun h => kf' (fun q => h ((oi_eq ha hb).mpr q)))
theorem aw_if_eq {a off : Int} {tgt : Nat} (hd : decode M.2.1 pc = .ok (.ifCond .eq off, 3)) (ht : (pc : Int) + off = (tgt : Int)) (kt : a = 0 → AW L M r tgt ls st σ) (kf : ¬ a = 0 → AW L M r (pc + 3) ls st σ) : AW L M r pc ls (vI a :: st) σ := by
  intro p l e s m args below meth c G H locs lsA hX hW hO hv
  have ha : IR a := at_0 hO
  have hb : IR 0 := IR_0
  have kt' := fun h => kt h p l e s m args below meth c G H locs lsA hX hW (ok_drop hO in_1) hv
  have kf' := fun h => kf h p l e s m args below meth c G H locs lsA hX hW (ok_drop hO in_1) hv
  exact lv_if_eq hX.1 hX.2.1 hd ht (fun h => kt' ((oi_eq ha hb).mp h)) (fun h => kf' (fun q => h ((oi_eq ha hb).mpr q)))
theorem aw_icmp_ne {a b off : Int} {tgt : Nat} (hd : decode M.2.1 pc = .ok (.if_icmp .ne off, 3)) (ht : (pc : Int) + off = (tgt : Int)) (kt : ¬ a = b → AW L M r tgt ls st σ) (kf : a = b → AW L M r (pc + 3) ls st σ) : AW L M r pc ls (vI b :: vI a :: st) σ := by
  intro p l e s m args below meth c G H locs lsA hX hW hO hv
  have ha : IR a := at_1 hO
  have hb : IR b := at_0 hO
  have kt' := fun h => kt h p l e s m args below meth c G H locs lsA hX hW (ok_drop hO in_2) hv
  have kf' := fun h => kf h p l e s m args below meth c G H locs lsA hX hW (ok_drop hO in_2) hv
  exact lv_icmp_ne hX.1 hX.2.1 hd ht (fun h => kt' (fun q => h ((oi_eq ha hb).mpr q))) (fun h => kf' ((oi_eq ha hb).mp h))
theorem aw_if_ne {a off : Int} {tgt : Nat} (hd : decode M.2.1 pc = .ok (.ifCond .ne off, 3)) (ht : (pc : Int) + off = (tgt : Int)) (kt : ¬ a = 0 → AW L M r tgt ls st σ) (kf : a = 0 → AW L M r (pc + 3) ls st σ) : AW L M r pc ls (vI a :: st) σ := by
  intro p l e s m args below meth c G H locs lsA hX hW hO hv
  have ha : IR a := at_0 hO
  have hb : IR 0 := IR_0
  have kt' := fun h => kt h p l e s m args below meth c G H locs lsA hX hW (ok_drop hO in_1) hv
  have kf' := fun h => kf h p l e s m args below meth c G H locs lsA hX hW (ok_drop hO in_1) hv
  exact lv_if_ne hX.1 hX.2.1 hd ht (fun h => kt' (fun q => h ((oi_eq ha hb).mpr q))) (fun h => kf' ((oi_eq ha hb).mp h))
theorem aw_icmp_lt {a b off : Int} {tgt : Nat} (hd : decode M.2.1 pc = .ok (.if_icmp .lt off, 3)) (ht : (pc : Int) + off = (tgt : Int)) (kt : a < b → AW L M r tgt ls st σ) (kf : ¬ a < b → AW L M r (pc + 3) ls st σ) : AW L M r pc ls (vI b :: vI a :: st) σ := by
  intro p l e s m args below meth c G H locs lsA hX hW hO hv
  have ha : IR a := at_1 hO
  have hb : IR b := at_0 hO
  have kt' := fun h => kt h p l e s m args below meth c G H locs lsA hX hW (ok_drop hO in_2) hv
  have kf' := fun h => kf h p l e s m args below meth c G H locs lsA hX hW (ok_drop hO in_2) hv
  exact lv_icmp_lt hX.1 hX.2.1 hd ht (fun h => kt' ((oi_lt ha hb).mp h)) (fun h => kf' (fun q => h ((oi_lt ha hb).mpr q)))
theorem aw_if_lt {a off : Int} {tgt : Nat} (hd : decode M.2.1 pc = .ok (.ifCond .lt off, 3)) (ht : (pc : Int) + off = (tgt : Int)) (kt : a < 0 → AW L M r tgt ls st σ) (kf : ¬ a < 0 → AW L M r (pc + 3) ls st σ) : AW L M r pc ls (vI a :: st) σ := by
  intro p l e s m args below meth c G H locs lsA hX hW hO hv
  have ha : IR a := at_0 hO
  have hb : IR 0 := IR_0
  have kt' := fun h => kt h p l e s m args below meth c G H locs lsA hX hW (ok_drop hO in_1) hv
  have kf' := fun h => kf h p l e s m args below meth c G H locs lsA hX hW (ok_drop hO in_1) hv
  exact lv_if_lt hX.1 hX.2.1 hd ht (fun h => kt' ((oi_lt ha hb).mp h)) (fun h => kf' (fun q => h ((oi_lt ha hb).mpr q)))
theorem aw_icmp_ge {a b off : Int} {tgt : Nat} (hd : decode M.2.1 pc = .ok (.if_icmp .ge off, 3)) (ht : (pc : Int) + off = (tgt : Int)) (kt : b ≤ a → AW L M r tgt ls st σ) (kf : ¬ b ≤ a → AW L M r (pc + 3) ls st σ) : AW L M r pc ls (vI b :: vI a :: st) σ := by
  intro p l e s m args below meth c G H locs lsA hX hW hO hv
  have ha : IR a := at_1 hO
  have hb : IR b := at_0 hO
  have kt' := fun h => kt h p l e s m args below meth c G H locs lsA hX hW (ok_drop hO in_2) hv
  have kf' := fun h => kf h p l e s m args below meth c G H locs lsA hX hW (ok_drop hO in_2) hv
  exact lv_icmp_ge hX.1 hX.2.1 hd ht (fun h => kt' ((oi_le hb ha).mp h)) (fun h => kf' (fun q => h ((oi_le hb ha).mpr q)))
theorem aw_if_ge {a off : Int} {tgt : Nat} (hd : decode M.2.1 pc = .ok (.ifCond .ge off, 3)) (ht : (pc : Int) + off = (tgt : Int)) (kt : 0 ≤ a → AW L M r tgt ls st σ) (kf : ¬ 0 ≤ a → AW L M r (pc + 3) ls st σ) : AW L M r pc ls (vI a :: st) σ := by
  intro p l e s m args below meth c G H locs lsA hX hW hO hv
  have ha : IR a := at_0 hO
  have hb : IR 0 := IR_0
  have kt' := fun h => kt h p l e s m args below meth c G H locs lsA hX hW (ok_drop hO in_1) hv
  have kf' := fun h => kf h p l e s m args below meth c G H locs lsA hX hW (ok_drop hO in_1) hv
  exact lv_if_ge hX.1 hX.2.1 hd ht (fun h => kt' ((oi_le hb ha).mp h)) (fun h => kf' (fun q => h ((oi_le hb ha).mpr q)))
theorem aw_icmp_gt {a b off : Int} {tgt : Nat} (hd : decode M.2.1 pc = .ok (.if_icmp .gt off, 3)) (ht : (pc : Int) + off = (tgt : Int)) (kt : b < a → AW L M r tgt ls st σ) (kf : ¬ b < a → AW L M r (pc + 3) ls st σ) : AW L M r pc ls (vI b :: vI a :: st) σ := by
  intro p l e s m args below meth c G H locs lsA hX hW hO hv
  have ha : IR a := at_1 hO
  have hb : IR b := at_0 hO
  have kt' := fun h => kt h p l e s m args below meth c G H locs lsA hX hW (ok_drop hO in_2) hv
  have kf' := fun h => kf h p l e s m args below meth c G H locs lsA hX hW (ok_drop hO in_2) hv
  exact lv_icmp_gt hX.1 hX.2.1 hd ht (fun h => kt' ((oi_lt hb ha).mp h)) (fun h => kf' (fun q => h ((oi_lt hb ha).mpr q)))
theorem aw_if_gt {a off : Int} {tgt : Nat} (hd : decode M.2.1 pc = .ok (.ifCond .gt off, 3)) (ht : (pc : Int) + off = (tgt : Int)) (kt : 0 < a → AW L M r tgt ls st σ) (kf : ¬ 0 < a → AW L M r (pc + 3) ls st σ) : AW L M r pc ls (vI a :: st) σ := by
  intro p l e s m args below meth c G H locs lsA hX hW hO hv
  have ha : IR a := at_0 hO
  have hb : IR 0 := IR_0
  have kt' := fun h => kt h p l e s m args below meth c G H locs lsA hX hW (ok_drop hO in_1) hv
  have kf' := fun h => kf h p l e s m args below meth c G H locs lsA hX hW (ok_drop hO in_1) hv
  exact lv_if_gt hX.1 hX.2.1 hd ht (fun h => kt' ((oi_lt hb ha).mp h)) (fun h => kf' (fun q => h ((oi_lt hb ha).mpr q)))
theorem aw_icmp_le {a b off : Int} {tgt : Nat} (hd : decode M.2.1 pc = .ok (.if_icmp .le off, 3)) (ht : (pc : Int) + off = (tgt : Int)) (kt : a ≤ b → AW L M r tgt ls st σ) (kf : ¬ a ≤ b → AW L M r (pc + 3) ls st σ) : AW L M r pc ls (vI b :: vI a :: st) σ := by
  intro p l e s m args below meth c G H locs lsA hX hW hO hv
  have ha : IR a := at_1 hO
  have hb : IR b := at_0 hO
  have kt' := fun h => kt h p l e s m args below meth c G H locs lsA hX hW (ok_drop hO in_2) hv
  have kf' := fun h => kf h p l e s m args below meth c G H locs lsA hX hW (ok_drop hO in_2) hv
  exact lv_icmp_le hX.1 hX.2.1 hd ht (fun h => kt' ((oi_le ha hb).mp h)) (fun h => kf' (fun q => h ((oi_le ha hb).mpr q)))
theorem aw_if_le {a off : Int} {tgt : Nat} (hd : decode M.2.1 pc = .ok (.ifCond .le off, 3)) (ht : (pc : Int) + off = (tgt : Int)) (kt : a ≤ 0 → AW L M r tgt ls st σ) (kf : ¬ a ≤ 0 → AW L M r (pc + 3) ls st σ) : AW L M r pc ls (vI a :: st) σ := by
  intro p l e s m args below meth c G H locs lsA hX hW hO hv
  have ha : IR a := at_0 hO
  have hb : IR 0 := IR_0
  have kt' := fun h => kt h p l e s m args below meth c G H locs lsA hX hW (ok_drop hO in_1) hv
  have kf' := fun h => kf h p l e s m args below meth c G H locs lsA hX hW (ok_drop hO in_1) hv
  exact lv_if_le hX.1 hX.2.1 hd ht (fun h => kt' ((oi_le ha hb).mp h)) (fun h => kf' (fun q => h ((oi_le ha hb).mpr q)))
theorem aw_goto {off : Int} {tgt : Nat} (hd : decode M.2.1 pc = .ok (.goto off, 3)) (ht : (pc : Int) + off = (tgt : Int)) (k : AW L M r tgt ls st σ) : AW L M r pc ls st σ := by
  intro p l e s m args below meth c G H locs lsA hX hW hO hv
  exact lv_goto hX.1 hX.2.1 hd ht (k p l e s m args below meth c G H locs lsA hX hW hO hv)
theorem aw_ifnull {off : Int} {tgt : Nat} {o : Option Nat} (hd : decode M.2.1 pc = .ok (.ifnull off, 3)) (ht : (pc : Int) + off = (tgt : Int)) (kt : o = none → AW L M r tgt ls st σ) (kf : ∀ q, o = some q → AW L M r (pc + 3) ls st σ) : AW L M r pc ls (vR o :: st) σ := by
  intro p l e s m args below meth c G H locs lsA hX hW hO hv
  cases o with
  | none => exact lv_ifnullN hX.1 hX.2.1 hd ht (kt rfl p l e s m args below meth c G H locs lsA hX hW (ok_drop hO in_1) hv)
  | some q => exact lv_ifnull hX.1 hX.2.1 hd (kf q rfl p l e s m args below meth c G H locs lsA hX hW (ok_drop hO in_1) hv)
theorem aw_ifnonnull {off : Int} {tgt : Nat} {o : Option Nat} (hd : decode M.2.1 pc = .ok (.ifnonnull off, 3)) (ht : (pc : Int) + off = (tgt : Int)) (kt : ∀ q, o = some q → AW L M r tgt ls st σ) (kf : o = none → AW L M r (pc + 3) ls st σ) : AW L M r pc ls (vR o :: st) σ := by
  intro p l e s m args below meth c G H locs lsA hX hW hO hv
  cases o with
  | none => exact lv_ifnonnullN hX.1 hX.2.1 hd (kf rfl p l e s m args below meth c G H locs lsA hX hW (ok_drop hO in_1) hv)
  | some q => exact lv_ifnonnull hX.1 hX.2.1 hd ht (kt q rfl p l e s m args below meth c G H locs lsA hX hW (ok_drop hO in_1) hv)
theorem aw_tableOut {a dflt lo hi : Int} {offs : Array Int} {len tgt : Nat} (hd : decode M.2.1 pc = .ok (.tableswitch dflt lo hi offs, len)) (h : a < lo ∨ hi < a) (ht : (pc : Int) + dflt = (tgt : Int)) (k : AW L M r tgt ls st σ) : AW L M r pc ls (vI a :: st) σ := by
  intro p l e s m args below meth c G H locs lsA hX hW hO hv
  exact lv_tableOut hX.1 hX.2.1 hd (by rw [ti_of (at_0 hO)]; exact h) ht (k p l e s m args below meth c G H locs lsA hX hW (ok_drop hO in_1) hv)
theorem aw_tableIn {a dflt lo hi off : Int} {offs : Array Int} {len tgt : Nat} (hd : decode M.2.1 pc = .ok (.tableswitch dflt lo hi offs, len)) (h1 : ¬ a < lo) (h2 : ¬ hi < a) (ho : offs[(a - lo).toNat]? = some off) (ht : (pc : Int) + off = (tgt : Int)) (k : AW L M r tgt ls st σ) : AW L M r pc ls (vI a :: st) σ := by
  intro p l e s m args below meth c G H locs lsA hX hW hO hv
  have e1 : (Int32.ofInt a).toInt = a := ti_of (at_0 hO)
  exact lv_tableIn hX.1 hX.2.1 hd (by rw [e1]; exact h1) (by rw [e1]; exact h2) (by rw [e1]; exact ho) ht (k p l e s m args below meth c G H locs lsA hX hW (ok_drop hO in_1) hv)
theorem aw_lookup {a dflt off : Int} {ps : Array (Int × Int)} {len tgt : Nat} (hd : decode M.2.1 pc = .ok (.lookupswitch dflt ps, len)) (hp : (ps.toList.zip (ps.toList.drop 1)).all (fun (a, next) => a.1 < next.1) = true) (ho : Op.lookupswitch.offset ps.toList dflt a = off) (ht : (pc : Int) + off = (tgt : Int)) (k : AW L M r tgt ls st σ) : AW L M r pc ls (vI a :: st) σ := by
  intro p l e s m args below meth c G H locs lsA hX hW hO hv
  exact lv_lookup hX.1 hX.2.1 hd hp (by rw [ti_of (at_0 hO)]; exact ho) ht (k p l e s m args below meth c G H locs lsA hX hW (ok_drop hO in_1) hv)
-- fields
theorem ce_obj {G : Gd} {q ci : Nat} (h : L.2.1 q = 3 + ci) : ce L G σ q = .inr (ci, (List.range (L.2.2.1 q)).map (fdv L G σ q)) := by
  unfold ce
  rw [if_neg (by omega), if_neg (by omega), if_neg (by omega), h]
  congr 2
  omega
theorem fd_at {G : Gd} {q k n : Nat} (h : k < n) : ((List.range n).map (fdv L G σ q))[k]? = some (fdv L G σ q k) := by
  simp [List.getElem?_map, List.getElem?_range h]
theorem aw_getI {idx q ci kf : Nat} (hd : decode M.2.1 pc = .ok (.getfield idx, 3)) (hf : FK M.1.cls idx ci kf) (hq : PL L q ci) (hr : L.2.2.2 q kf = none) (k : AW L M r (pc + 3) ls (vI (σ q kf) :: st) σ) : AW L M r pc ls (vR (some q) :: st) σ := by
  intro p l e s m args below meth c G H locs lsA hX hW hO hv
  obtain ⟨C, T, N, ty, hc, hk, hlink, hin, hC, -, -⟩ := hf
  obtain ⟨hq1, hq2, hq3⟩ := hq
  have hN := hq3 C T N hc
  have K := k p l e s m args below meth c G H locs lsA hX hW (ok_push hO in_1 (hO.2.2 q kf)) hv
  exact va_get hX.1 hX.2.1 hX.2.2.2.2.2.2.1 hin hX.2.2.2.2.2.1 hX.2.2.2.2.2.2.2 hW.1 q (wo_at' hq1 (ce_obj hq2)) hc kf hk (hX.2.2.2.2.2.2.1 _ hlink) (fun _ h => by rw [hC] at h; exact h) (v := cv G (vI (σ q kf))) (by rw [hN, fd_at hk]; simp only [fdv, hr]; rfl) hd K
theorem aw_getR {idx q ci kf t : Nat} (hd : decode M.2.1 pc = .ok (.getfield idx, 3)) (hf : FK M.1.cls idx ci kf) (hq : PL L q ci) (hr : L.2.2.2 q kf = some t) (k : AW L M r (pc + 3) ls (vR (some t) :: st) σ) : AW L M r pc ls (vR (some q) :: st) σ := by
  intro p l e s m args below meth c G H locs lsA hX hW hO hv
  obtain ⟨C, T, N, ty, hc, hk, hlink, hin, hC, -, -⟩ := hf
  obtain ⟨hq1, hq2, hq3⟩ := hq
  have hN := hq3 C T N hc
  have K := k p l e s m args below meth c G H locs lsA hX hW (ok_push (v := vR (some t)) hO in_1 trivial) hv
  exact va_get hX.1 hX.2.1 hX.2.2.2.2.2.2.1 hin hX.2.2.2.2.2.1 hX.2.2.2.2.2.2.2 hW.1 q (wo_at' hq1 (ce_obj hq2)) hc kf hk (hX.2.2.2.2.2.2.1 _ hlink) (fun _ h => by rw [hC] at h; exact h) (v := cv G (vR (some t))) (by rw [hN, fd_at hk]; simp only [fdv, hr]; rfl) hd K
theorem fd_up {G : Gd} {q kf n : Nat} {v : Int} (hr : L.2.2.2 q kf = none) : ((List.range n).map (fdv L G σ q)).set kf (.int (Int32.ofInt v)) = (List.range n).map (fdv L G (up σ q kf v) q) := by
  apply List.ext_getElem?
  intro i
  by_cases hi : i < n
  · by_cases hk : i = kf
    · subst hk
      rw [List.getElem?_set_self (by simp [hi]), fd_at hi]
      simp [fdv, hr, up]
    · rw [List.getElem?_set_ne (Ne.symm hk), fd_at hi, fd_at hi]
      simp [fdv, up, hk]
  · rw [List.getElem?_eq_none (by simp; omega), List.getElem?_eq_none (by simp; omega)]
theorem aw_put {idx q ci kf : Nat} {v : Int} {t : FieldType} (hd : decode M.2.1 pc = .ok (.putfield idx, 3)) (hf : FK M.1.cls idx ci kf) (hq : PL L q ci) (hr : L.2.2.2 q kf = none) (hft : FT ci kf t) (hnar : narrow t (.int (Int32.ofInt v)) = .int (Int32.ofInt v) ∧ fits t (.int (Int32.ofInt v)) = true) (k : ∀ σ1, σ1 = up σ q kf v → AW L M r (pc + 3) ls st σ1) : AW L M r pc ls (vI v :: vR (some q) :: st) σ := by
  intro p l e s m args below meth c G H locs lsA hX hW hO hv
  obtain ⟨C, T, N, ty, hc, hk, hlink, hin, hC, hty, hnm⟩ := hf
  obtain ⟨hq1, hq2, hq3⟩ := hq
  have hN := hq3 C T N hc
  obtain ⟨hfin, hpd⟩ := hft C T N hc
  refine va_put (v := .int (Int32.ofInt v)) hX.1 hX.2.1 hX.2.2.2.2.2.2.1 hin ty hty hnm hX.2.2.2.2.2.1 hX.2.2.2.2.2.2.2 hW.1 hW.2.1 hW.2.2 q (wo_at' hq1 (ce_obj hq2)) hc kf hk (hX.2.2.2.2.2.2.1 _ hlink) (fun _ h => by rw [hC] at h; exact h) hfin hpd hnar.1 hnar.2 (by simp [hN]; exact hk) hd (fun H1 locs1 hP1 hD1 hS1 => ?_)
  rw [fd_up hr, wo_set (σ' := up σ q kf v) hq1 (ce_obj hq2) up_off] at hP1 hD1
  exact k _ rfl p l e s m args below meth c G H1 locs1 lsA hX ⟨hP1, hD1, hS1⟩ (ok_up hO in_2 (at_0 hO)) hv
theorem nar_int (v : Int) : narrow .int (.int (Int32.ofInt v)) = .int (Int32.ofInt v) ∧ fits .int (.int (Int32.ofInt v)) = true := ⟨rfl, rfl⟩
theorem nar_bool {v : Int} (h : v = 0 ∨ v = 1) : narrow .boolean (.int (Int32.ofInt v)) = .int (Int32.ofInt v) ∧ fits .boolean (.int (Int32.ofInt v)) = true := by
  rcases h with rfl | rfl <;> exact ⟨by decide, by decide⟩
-- rows
theorem aw_iald {q n : Nat} {i : Int} (hd : decode M.2.1 pc = .ok (.iaload, 1)) (hq : AR L q 0 n) (hi : 0 ≤ i ∧ i < n) (k : AW L M r (pc + 1) ls (vI (σ q i.toNat) :: st) σ) : AW L M r pc ls (vI i :: vR (some q) :: st) σ := by
  intro p l e s m args below meth c G H locs lsA hX hW hO hv
  obtain ⟨hq1, hq2, hq3⟩ := hq
  have hR : IR i := at_0 hO
  have K := k p l e s m args below meth c G H locs lsA hX hW (ok_push hO in_2 (hO.2.2 q i.toNat)) hv
  refine va_iald hX.1 hX.2.1 hX.2.2.2.2.2.2.2 hW.1 q 0 (wo_at' hq1 (by unfold ce; rw [if_pos hq2])) rfl (oi_in hR (by rw [hq3]; exact hi)) hd ?_
  rw [oi_nat hR]
  exact K
theorem aw_zald {q n : Nat} {i : Int} (hd : decode M.2.1 pc = .ok (.baload, 1)) (hq : AR L q 1 n) (hi : 0 ≤ i ∧ i < n) (k : AW L M r (pc + 1) ls (vI (σ q i.toNat) :: st) σ) : AW L M r pc ls (vI i :: vR (some q) :: st) σ := by
  intro p l e s m args below meth c G H locs lsA hX hW hO hv
  obtain ⟨hq1, hq2, hq3⟩ := hq
  have hR : IR i := at_0 hO
  have K := k p l e s m args below meth c G H locs lsA hX hW (ok_push hO in_2 (hO.2.2 q i.toNat)) hv
  refine va_zald hX.1 hX.2.1 hX.2.2.2.2.2.2.2 hW.1 q 1 (wo_at' hq1 (by unfold ce; rw [if_neg (by omega), if_pos hq2])) rfl (oi_in hR (by rw [hq3]; exact hi)) hd ?_
  rw [oi_nat hR]
  exact K
theorem row_up {G : Gd} {q j : Nat} {v : Int} : (fun i => Int32.ofInt (up σ q j v q i)) = upd (fun i => Int32.ofInt (σ q i)) j (Int32.ofInt v) := by
  funext i
  simp only [up_row, upd]
  split <;> rfl
theorem aw_iast {q n : Nat} {i v : Int} (hd : decode M.2.1 pc = .ok (.iastore, 1)) (hq : AR L q 0 n) (hi : 0 ≤ i ∧ i < n) (k : ∀ σ1, σ1 = up σ q i.toNat v → AW L M r (pc + 1) ls st σ1) : AW L M r pc ls (vI v :: vI i :: vR (some q) :: st) σ := by
  intro p l e s m args below meth c G H locs lsA hX hW hO hv
  obtain ⟨hq1, hq2, hq3⟩ := hq
  have hR : IR i := at_1 hO
  refine va_iast hX.1 hX.2.1 hX.2.2.2.2.2.2.2 hW.1 hW.2.1 hW.2.2 q 0 (wo_at' hq1 (by unfold ce; rw [if_pos hq2])) rfl (oi_in hR (by rw [hq3]; exact hi)) hd (fun H1 locs1 hP1 hD1 hS1 => ?_)
  rw [oi_nat hR, ← row_up (G := G), wo_set (σ' := up σ q i.toNat v) hq1 (by unfold ce; rw [if_pos hq2]) up_off] at hP1 hD1
  exact k _ rfl p l e s m args below meth c G H1 locs1 lsA hX ⟨hP1, hD1, hS1⟩ (ok_up hO in_3 (at_0 hO)) hv
theorem nar_z {v : Int} (h : v = 0 ∨ v = 1) : vp_nar .boolean (Int32.ofInt v) = Int32.ofInt v := by
  rcases h with rfl | rfl <;> decide
theorem aw_zast {q n : Nat} {i v : Int} (hd : decode M.2.1 pc = .ok (.bastore, 1)) (hq : AR L q 1 n) (hi : 0 ≤ i ∧ i < n) (hb : v = 0 ∨ v = 1) (k : ∀ σ1, σ1 = up σ q i.toNat v → AW L M r (pc + 1) ls st σ1) : AW L M r pc ls (vI v :: vI i :: vR (some q) :: st) σ := by
  intro p l e s m args below meth c G H locs lsA hX hW hO hv
  obtain ⟨hq1, hq2, hq3⟩ := hq
  have hR : IR i := at_1 hO
  refine va_zast hX.1 hX.2.1 hX.2.2.2.2.2.2.2 hW.1 hW.2.1 hW.2.2 q 1 (wo_at' hq1 (by unfold ce; rw [if_neg (by omega), if_pos hq2])) rfl (oi_in hR (by rw [hq3]; exact hi)) hd (fun H1 locs1 hP1 hD1 hS1 => ?_)
  rw [oi_nat hR, nar_z hb, ← row_up (G := G), wo_set (σ' := up σ q i.toNat v) hq1 (by unfold ce; rw [if_neg (by omega), if_pos hq2]) up_off] at hP1 hD1
  exact k _ rfl p l e s m args below meth c G H1 locs1 lsA hX ⟨hP1, hD1, hS1⟩ (ok_up hO in_3 (at_0 hO)) hv
theorem aw_aald {q n : Nat} {i : Int} (hd : decode M.2.1 pc = .ok (.aaload, 1)) (hq : AR L q 2 n) (hi : 0 ≤ i ∧ i < n) (k : AW L M r (pc + 1) ls (vR (L.2.2.2 q i.toNat) :: st) σ) : AW L M r pc ls (vI i :: vR (some q) :: st) σ := by
  intro p l e s m args below meth c G H locs lsA hX hW hO hv
  obtain ⟨hq1, hq2, hq3⟩ := hq
  have hR : IR i := at_0 hO
  have K := k p l e s m args below meth c G H locs lsA hX hW (ok_push (v := vR (L.2.2.2 q i.toNat)) hO in_2 trivial) hv
  refine va_aldq hX.1 hX.2.1 hX.2.2.2.2.2.2.2 hW.1 q 2 (wo_at' hq1 (by unfold ce; rw [if_neg (by omega), if_neg (by omega), if_pos hq2])) rfl (oi_in hR (by rw [hq3]; exact hi)) hd ?_
  rw [oi_nat hR]
  cases hx : L.2.2.2 q i.toNat with
  | none => rw [hx] at K; exact K
  | some x => rw [hx] at K; exact K
theorem aw_alen {q n t : Nat} (hd : decode M.2.1 pc = .ok (.arraylength, 1)) (hq : AR L q t n) (ht : t < 3) (hn : IR n) (k : AW L M r (pc + 1) ls (vI n :: st) σ) : AW L M r pc ls (vR (some q) :: st) σ := by
  intro p l e s m args below meth c G H locs lsA hX hW hO hv
  obtain ⟨hq1, hq2, hq3⟩ := hq
  have K := k p l e s m args below meth c G H locs lsA hX hW (ok_push hO in_1 hn) hv
  match t, ht with
  | 0, _ => exact va_alen hX.1 hX.2.1 hX.2.2.2.2.2.2.2 hW.1 q 0 (wo_at' hq1 (by unfold ce; rw [if_pos hq2])) rfl (by show Int32.ofNat (L.2.2.1 q) = Int32.ofInt n; rw [hq3, Int32.ofInt_eq_ofNat]) hd K
  | 1, _ => exact va_alen hX.1 hX.2.1 hX.2.2.2.2.2.2.2 hW.1 q 1 (wo_at' hq1 (by unfold ce; rw [if_neg (by omega), if_pos hq2])) rfl (by show Int32.ofNat (L.2.2.1 q) = Int32.ofInt n; rw [hq3, Int32.ofInt_eq_ofNat]) hd K
  | 2, _ => exact va_alen hX.1 hX.2.1 hX.2.2.2.2.2.2.2 hW.1 q 2 (wo_at' hq1 (by unfold ce; rw [if_neg (by omega), if_neg (by omega), if_pos hq2])) rfl (by show Int32.ofNat (L.2.2.1 q) = Int32.ofInt n; rw [hq3, Int32.ofInt_eq_ofNat]) hd K
-- ends
theorem pq_of {G : Gd} {s t : State} {H : Heap} {locs : List Loc} {v : Option AV} {a : Array Value} {oc : Outcome} (hK : va_K G.1 vwCl (tys G) s) (hW : WD L G s σ H locs) (ho : okr (v, σ)) (he : oc = .returned (v.map (cv G))) (ht : t.heap = H) (hw : s.WarmedH t.vm) : PQ L G (v, σ) s.heap.size a s oc t :=
  ⟨⟨he, ho, by rw [ht]; exact hW.1, va_K.moved hw.alike hK⟩, hW.2.2.F ht⟩
theorem aw_iret {x : Int} (hd : decode M.2.1 pc = .ok (.ireturn, 1)) (hr : M.2.2.2.1 = some .int) : AW L M (some (vI x), σ) pc ls [vI x] σ := by
  intro p l e s m args below meth c G H locs lsA hX hW hO hv
  have hlocks : meth.locks = false := hX.2.2.2.2.1
  have ho : okr (some (vI x), σ) := ⟨fun v h => by obtain rfl := Option.some.inj h; exact at_0 hO, hO.2.2⟩
  exact W.iret hX.1 hX.2.1 (hX.2.2.2.1.trans hr) (fun t ht hw => pq_of hX.2.2.2.2.2.2.2 hW ho rfl ht hw) hW.2.2.2.2 hd
theorem aw_zret {x : Int} (hd : decode M.2.1 pc = .ok (.ireturn, 1)) (hr : M.2.2.2.1 = some .boolean) (hx : x = 0 ∨ x = 1) : AW L M (some (vI x), σ) pc ls [vI x] σ := by
  intro p l e s m args below meth c G H locs lsA hX hW hO hv
  have hlocks : meth.locks = false := hX.2.2.2.2.1
  have ho : okr (some (vI x), σ) := ⟨fun v h => by obtain rfl := Option.some.inj h; exact at_0 hO, hO.2.2⟩
  exact W.zret hX.1 hX.2.1 (hX.2.2.2.1.trans hr) (nar_bool hx).1 (fun t ht hw => pq_of hX.2.2.2.2.2.2.2 hW ho rfl ht hw) hW.2.2.2.2 hd
theorem aw_lret {x : Int} (hd : decode M.2.1 pc = .ok (.lreturn, 1)) (hr : M.2.2.2.1 = some .long) : AW L M (some (vL x), σ) pc ls [vL x] σ := by
  intro p l e s m args below meth c G H locs lsA hX hW hO hv
  have hlocks : meth.locks = false := hX.2.2.2.2.1
  have ho : okr (some (vL x), σ) := ⟨fun v h => by obtain rfl := Option.some.inj h; exact at_0 hO, hO.2.2⟩
  exact W.lret hX.1 hX.2.1 (hX.2.2.2.1.trans hr) (fun t ht hw => pq_of hX.2.2.2.2.2.2.2 hW ho rfl ht hw) hW.2.2.2.2 hd
theorem aw_aret {x : Option Nat} {C : String} (hd : decode M.2.1 pc = .ok (.areturn, 1)) (hr : M.2.2.2.1 = some (.object C)) : AW L M (some (vR x), σ) pc ls [vR x] σ := by
  intro p l e s m args below meth c G H locs lsA hX hW hO hv
  have hlocks : meth.locks = false := hX.2.2.2.2.1
  have ho : okr (some (vR x), σ) := ⟨fun v h => by obtain rfl := Option.some.inj h; exact at_0 hO, hO.2.2⟩
  refine W.aret (v := cv G (vR x)) hX.1 hX.2.1 (hX.2.2.2.1.trans hr) (Or.inl ⟨C, rfl⟩) ?_ (fun t ht hw => pq_of hX.2.2.2.2.2.2.2 hW ho rfl ht hw) hW.2.2.2.2 hd
  cases x with
  | none => exact Or.inl rfl
  | some q => exact Or.inr ⟨_, rfl⟩
theorem aw_vret (hd : decode M.2.1 pc = .ok (.return_, 1)) (hr : M.2.2.2.1 = none) : AW L M (none, σ) pc ls [] σ := by
  intro p l e s m args below meth c G H locs lsA hX hW hO hv
  have hlocks : meth.locks = false := hX.2.2.2.2.1
  have ho : okr (none, σ) := ⟨fun v h => (by cases h), hO.2.2⟩
  exact W.vret hX.1 hX.2.1 (hX.2.2.2.1.trans hr) (fun t ht hw => pq_of hX.2.2.2.2.2.2.2 hW ho rfl ht hw) hW.2.2.2.2 hd
end Rules2
