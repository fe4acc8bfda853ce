/-! ===== the law's start ===== -/
theorem lc_L_7 : Cond.classLink RL 7 RX6 ∈ gtb := gtb_in 86 (by decide +kernel) (by decide +kernel)
theorem lc_L_10 : Cond.classLink RL 10 RX7 ∈ gtb := gtb_in 726 (by decide +kernel) (by decide +kernel)
theorem ml_L_9 : Cond.methodLink RL 9 yX6_init ∈ gtb := gtb_in 88 (by decide +kernel) (by decide +kernel)
theorem ml_L_12 : Cond.methodLink RL 12 yX7_init ∈ gtb := gtb_in 728 (by decide +kernel) (by decide +kernel)
theorem inL_X6 : Cond.instantiable RX6 10 ∈ gtb := gtb_in 87 (by decide +kernel) (by decide +kernel)
theorem iiL_X6 : Cond.initialized RX6 ∈ gtb := gtb_in 76 (by decide +kernel) (by decide +kernel)
theorem imL_X6 : Cond.instanceMethod yX6_init ∈ gtb := gtb_in 89 (by decide +kernel) (by decide +kernel)
theorem cdL_X6 : Cond.code yX6_init cX6_init 2 none ∈ gtb := gtb_in 90 (by decide +kernel) (by decide +kernel)
theorem inL_X7 : Cond.instantiable RX7 31 ∈ gtb := gtb_in 727 (by decide +kernel) (by decide +kernel)
theorem iiL_X7 : Cond.initialized RX7 ∈ gtb := gtb_in 84 (by decide +kernel) (by decide +kernel)
theorem imL_X7 : Cond.instanceMethod yX7_init ∈ gtb := gtb_in 729 (by decide +kernel) (by decide +kernel)
theorem cdL_X7 : Cond.code yX7_init cX7_init 1 none ∈ gtb := gtb_in 730 (by decide +kernel) (by decide +kernel)
theorem nl_9 : Cond.methodLinkNest RX6 9 yX0_init RX6 ∈ lw_tbl := List.mem_of_getElem? (i := 96) (by decide +kernel)
theorem nl_18 : Cond.methodLinkNest RX6 18 yX1_init RX6 ∈ lw_tbl := List.mem_of_getElem? (i := 166) (by decide +kernel)
theorem nl_34 : Cond.methodLinkNest RX6 34 yX5_init RX6 ∈ lw_tbl := List.mem_of_getElem? (i := 217) (by decide +kernel)
theorem nl_41 : Cond.methodLinkNest RX6 41 yX2_init RX6 ∈ lw_tbl := List.mem_of_getElem? (i := 250) (by decide +kernel)
theorem nl_52 : Cond.methodLinkNest RX6 52 yX4_init RX6 ∈ lw_tbl := List.mem_of_getElem? (i := 277) (by decide +kernel)
theorem nl_ao : Cond.arrayOver (.object RX4) ∈ lw_tbl := List.mem_of_getElem? (i := 275) (by decide +kernel)
theorem insw_X0 : Cond.instantiable RX0 13 ∈ lw_tbl := List.mem_of_getElem? (i := 95) (by decide +kernel)
theorem insw_X1 : Cond.instantiable RX1 4 ∈ lw_tbl := List.mem_of_getElem? (i := 165) (by decide +kernel)
theorem insw_X2 : Cond.instantiable RX2 6 ∈ lw_tbl := List.mem_of_getElem? (i := 249) (by decide +kernel)
theorem insw_X3 : Cond.instantiable RX3 4 ∈ lw_tbl := List.mem_of_getElem? (i := 171) (by decide +kernel)
theorem insw_X4 : Cond.instantiable RX4 3 ∈ lw_tbl := List.mem_of_getElem? (i := 276) (by decide +kernel)
theorem insw_X5 : Cond.instantiable RX5 7 ∈ lw_tbl := List.mem_of_getElem? (i := 216) (by decide +kernel)
theorem insw_X6 : Cond.instantiable RX6 10 ∈ lw_tbl := List.mem_of_getElem? (i := 87) (by decide +kernel)
theorem insw_X7 : Cond.instantiable RX7 31 ∈ lw_tbl := List.mem_of_getElem? (i := 727) (by decide +kernel)
def s0C : SS := fun q k => if q = 0 ∧ k = 6 then 20 else if q = 1 ∧ (k = 11 ∨ k = 12) then -1 else if q = 22 ∧ k = 5 then -1 else if (q = 42 ∨ q = 44 ∨ q = 46 ∨ q = 48) ∧ k = 1 then -1 else 0
def s0M : SS := fun q k => if q = 0 ∧ k = 2 then 20 else 0
theorem s0C_R : ∀ q k, IR (s0C q k) := by
  intro q k
  unfold s0C
  split
  · exact ⟨by decide, by decide⟩
  · split
    · exact ⟨by decide, by decide⟩
    · split
      · exact ⟨by decide, by decide⟩
      · split <;> exact ⟨by decide, by decide⟩
theorem s0M_R : ∀ q k, IR (s0M q k) := by
  intro q k
  unfold s0M
  split <;> exact ⟨by decide, by decide⟩
theorem arr_of {s : State} {args : Array Value} {ty : FieldType} (h : (Cond.arrayClass ty).before args s = true) : ∃ cA, s.vm.findClass ("[" ++ ty.toString) = some cA ∧ ArrOfT s cA ty := by
  simp only [Cond.before, Cond.holds, Cond.value] at h
  cases hf : s.vm.findClass ("[" ++ ty.toString) with
  | none => simp [hf] at h
  | some cA =>
    cases hk : s.vm.classes[cA]? with
    | none => simp [hf, hk] at h
    | some kA =>
      refine ⟨cA, rfl, fun n z => ⟨fun k hh => (by cases hh), kA, hk, ?_⟩⟩
      simp only [hf, hk, Option.bind_some, Option.map_some] at h
      cases hkk : kA.kind with
      | array comp t =>
        simp [hkk] at h
        exact ⟨comp, by rw [h]⟩
      | _ => simp [hkk] at h
def adr (a : Nat) (u : Nat → Nat) : Nat → Nat := fun q => match q with
  | 0 => a
  | q + 1 => u q
set_option maxRecDepth 100000 in
set_option maxHeartbeats 4000000 in
theorem wo_C (G : Gd) (a : Nat) (u : Nat → Nat) : wo LC (G.1, G.2.1, adr a u) s0C = wN_X6 G a u := by
  have hf : va_up (va_up (va_up (va_up (fun _ => none) 0 (some (u 41))) 1 (some (u 43))) 2 (some (u 45))) 3 (some (u 47)) = (fun i => (LC.2.2.2 41 i).map (adr a u)) := by
    funext i
    match i with
    | 0 => rfl
    | 1 => rfl
    | 2 => rfl
    | 3 => rfl
    | i + 4 => simp [va_up, LC, LCr]
  unfold wN_X6
  rw [hf]
  unfold wo
  rfl
set_option maxRecDepth 100000 in
set_option maxHeartbeats 4000000 in
theorem wo_M (G : Gd) (a : Nat) (u : Nat → Nat) : wo LM (G.1, G.2.1, adr a u) s0M = wN_X7 G a u := by
  unfold wo
  rfl
set_option maxHeartbeats 4000000 in
set_option maxRecDepth 100000 in
theorem start_of {I : SS → SS → Prop} (hAll : ALLOK I) (hI0 : I s0C s0M) {p : Program} {e : Env} {s : State} {m : MethodId} {below : List Frame} {meth : Method} {c : Code} (l : Launch) {b L : Nat} {xs : Nat → Int32} (hL : L ≤ 3072) (C0 : lw_At p s m meth c b L xs) : W p l e room_1 s m #[Value.ref b] below meth c s.heap [] 0 0 (lw_Z below #[Value.ref b] s) (entryFrame m ([Value.ref b] : List Value).toArray 4) := by
  obtain ⟨hx, hb, hr, hml, hown, hts0, hX, hbl, hlocks, hgv⟩ := id C0
  have hts : ∀ w ∈ gtb, w.before #[Value.ref b] s = true := fun w hw => hts0 w (List.mem_filter.mp hw).1
  have hA : ∀ q : Nat, s.heap.size ≤ q → (fun q : Nat => s.heap.size ≤ q) q := fun _ h => h
  obtain ⟨c0, iS0, hKn0⟩ := u_known (C := RX0) (T := TX0) (N := 13) (n := 13) hts in_X0 (hts0 _ insw_X0)
  obtain ⟨c1, iS1, hKn1⟩ := u_known (C := RX1) (T := TX1) (N := 4) (n := 4) hts in_X1 (hts0 _ insw_X1)
  obtain ⟨c2, iS2, hKn2⟩ := u_known (C := RX2) (T := TX2) (N := 6) (n := 6) hts in_X2 (hts0 _ insw_X2)
  obtain ⟨c3, iS3, hKn3⟩ := u_known (C := RX3) (T := TX3) (N := 4) (n := 4) hts in_X3 (hts0 _ insw_X3)
  obtain ⟨c4, iS4, hKn4⟩ := u_known (C := RX4) (T := TX4) (N := 3) (n := 3) hts in_X4 (hts0 _ insw_X4)
  obtain ⟨c5, iS5, hKn5⟩ := u_known (C := RX5) (T := TX5) (N := 7) (n := 7) hts in_X5 (hts0 _ insw_X5)
  obtain ⟨c6, iS6, hKn6⟩ := u_known (C := RX6) (T := TX6) (N := 10) (n := 10) hts in_X6 (hts0 _ insw_X6)
  obtain ⟨c7, iS7, hKn7⟩ := u_known (C := RX7) (T := TX7) (N := 31) (n := 31) hts in_X7 (hts0 _ insw_X7)
  obtain ⟨dC, dI, hKc⟩ : ∃ (dC : Nat → ClassId) (dI : Nat → Nat → Nat), ∀ (k : Nat) (q : vw_C), vwCl[k]? = some q → u_Kn s q.1 q.2.1 q.2.2 (dC k) (dI k) := by
    refine ⟨fun k => if k = 0 then c0 else if k = 1 then c1 else if k = 2 then c2 else if k = 3 then c3 else if k = 4 then c4 else if k = 5 then c5 else if k = 6 then c6 else c7, fun k => if k = 0 then iS0 else if k = 1 then iS1 else if k = 2 then iS2 else if k = 3 then iS3 else if k = 4 then iS4 else if k = 5 then iS5 else if k = 6 then iS6 else iS7, ?_⟩
    intro k q hq
    match k, hq with
    | 0, hq => cases hq; exact hKn0
    | 1, hq => cases hq; exact hKn1
    | 2, hq => cases hq; exact hKn2
    | 3, hq => cases hq; exact hKn3
    | 4, hq => cases hq; exact hKn4
    | 5, hq => cases hq; exact hKn5
    | 6, hq => cases hq; exact hKn6
    | 7, hq => cases hq; exact hKn7
    | k + 8, hq => simp [vwCl] at hq
  obtain ⟨cI, hI1, hI2⟩ := arr_of (hts _ ac_int)
  obtain ⟨cZ, hZ1, hZ2⟩ := arr_of (hts _ ac_boolean)
  obtain ⟨comp, cR, kR, hR1, hR2, hR3, hR4, hR5⟩ := Cond.arrayOver_spec (hts0 _ nl_ao)
  obtain ⟨G, hG⟩ : ∃ G : Gd, G = ((dC, dI), (cI, cZ, cR), fun _ => 0) := ⟨_, rfl⟩
  have hK : va_K G.1 vwCl (tys G) s := by
    subst hG
    refine ⟨hKc, fun k q h => ?_⟩
    match k, h with
    | 0, h => cases h; exact ⟨hI2, hI1⟩
    | 1, h => cases h; exact ⟨hZ2, hZ1⟩
    | 2, h => cases h; exact ⟨fun n z => ⟨fun k hh => (by cases hh), kR, hR3, comp, hR4⟩, kR, comp, hR3, hR4, hR1, hR5⟩
    | k + 3, h => simp [tys] at h
  clear hG
  have hS : va_S (fun q : Nat => s.heap.size ≤ q) s.heap s.heap [] := va_S.rf
  have hP : va_P G.1 vwCl [] s.heap := fun k q h => by simp at h
  have hD : va_D (fun q : Nat => s.heap.size ≤ q) [] := ⟨fun i j p q h => by simp at h, fun k q h => by simp at h⟩
  have hN : NX s := ⟨va_Nw.of rfl (hts0 _ nl_9), va_Nw.of rfl (hts0 _ nl_18), va_Nw.of rfl (hts0 _ nl_34), va_Nw.of rfl (hts0 _ nl_41), va_Nw.of rfl (hts0 _ nl_52), va_AO.of (hts0 _ nl_ao)⟩
  have hl := lv_entry ([.ref b]) (n := 4) (Nat.le_of_ble_eq_true rfl)
  rw [lg_entry_eq]
  generalize (lg_sl ([.ref b]) ++ List.replicate (4 - (lg_sl ([.ref b])).length) Slot.unset).toArray = ls at hl ⊢
  have hl : lv_has ls 4 [(0, .ref b)] := hl
  refine va_new (ci := 6) (fs := [.null, .null, .null, .null, .null, .null, .int 0, .int 0, .int 0, .int 0]) (C := RX6) (T := TX6) (N := 10) hx hb hts in_X6 tyX6 tyX6_ok hown (hts _ lc_L_7) (hts _ inL_X6) (hts _ iiL_X6) hK hP hD hS hA rfl df_X6 (Nat.le_of_ble_eq_true rfl) (Nat.le_of_ble_eq_true rfl) dL_law_0 (fun q0 H hP hD hS => ?_)
  have hP : va_P G.1 vwCl [(q0, .inr (6, [.null, .null, .null, .null, .null, .null, .int 0, .int 0, .int 0, .int 0]))] H := hP
  have hD : va_D (fun q : Nat => s.heap.size ≤ q) [(q0, .inr (6, [.null, .null, .null, .null, .null, .null, .int 0, .int 0, .int 0, .int 0]))] := hD
  refine lv_dup hx hb dL_law_3 rfl ?_
  have hFc := va_free (wc := [(q0, .inr (6, [.null, .null, .null, .null, .null, .null, .int 0, .int 0, .int 0, .int 0]))]) hD hS hA [0] rfl
  refine va_callv (va_runI (bytes := cX6_init) (maxL := 2) (As := []) (rest := [.ref q0]) ⟨hx, hb, hml, hown, hts⟩ (n_X6 l G q0 H.size) (cwI 0 hts (good_W cdL_X6) rfl rfl rfl (hts _ iiL_X6) (hts _ ml_L_9) (hts _ imL_X6) rfl (by decide +kernel) ⟨Nat.le_of_ble_eq_true rfl, Nat.le_of_ble_eq_true rfl⟩) ⟨fun a U g mk q => by
      obtain ⟨z0, z1, zP, zK, zD, z2, z3, z4, z5, z6, z7⟩ := q
      exact ⟨z0, z1, zP, va_K.moved (u := U) (U := U.calling g mk a) (Vm.Alike.refl U.vm) zK, zD, z2.same rfl rfl, z3.same rfl rfl, z4.same rfl rfl, z5.same rfl rfl, z6.same rfl rfl, va_AO.moved (Vm.Alike.refl U.vm) z7⟩, fun U hU hW => ⟨rfl, by rw [hU], by rw [hU]; exact hP, va_K.moved hW.alike hK, hD.weaken (fun _ _ _ _ => trivial), hN.1.warmM hW, hN.2.1.warmM hW, hN.2.2.1.warmM hW, hN.2.2.2.1.warmM hW, hN.2.2.2.2.1.warmM hW, va_AO.moved hW.alike hN.2.2.2.2.2⟩⟩ rfl rfl hl.1 rfl (lv_room (Nat.le_of_ble_eq_true rfl)) dL_law_4 ⟨Nat.le_of_ble_eq_true rfl, Nat.le_of_ble_eq_true rfl⟩) hS (fun q _ h => hFc q h) hFc (fun u t H1 locs ht hvm hw hB hz1 hk1 hS => ?_)
  obtain ⟨hP1, hD1⟩ := hB
  rw [ht] at hP1
  have hD1 : va_D (fun q : Nat => s.heap.size ≤ q) (wN_X6 G q0 u) := hD1.weaken (fun _ q _ h => hFc _ h)
  clear hP hD hFc hk1
  generalize H1 = H at hP1 hS ⊢
  refine lv_astore_n (lv' := [(1, .ref q0), (0, .ref b)]) hx hb dL_law_7 rfl hl (by decide) rfl (fun ls hl => ?_)
  refine va_new (ci := 7) (fs := [.int 0, .null, .int 0, .int 0, .int 0, .int 0, .null, .null, .null, .null, .null, .null, .null, .null, .null, .int 0, .int 0, .int 0, .int 0, .int 0, .null, .null, .null, .null, .null, .null, .null, .null, .null, .null, .int 0]) (C := RX7) (T := TX7) (N := 31) hx hb hts in_X7 tyX7 tyX7_ok hown (hts _ lc_L_10) (hts _ inL_X7) (hts _ iiL_X7) hK hP1 hD1 hS hA rfl df_X7 (Nat.le_of_ble_eq_true rfl) (Nat.le_of_ble_eq_true rfl) dL_law_8 (fun q1 H hP hD hS => ?_)
  refine lv_dup hx hb dL_law_11 rfl ?_
  have hPc : va_P G.1 vwCl [(q1, .inr (7, [.int 0, .null, .int 0, .int 0, .int 0, .int 0, .null, .null, .null, .null, .null, .null, .null, .null, .null, .int 0, .int 0, .int 0, .int 0, .int 0, .null, .null, .null, .null, .null, .null, .null, .null, .null, .null, .int 0]))] H := hP.sub [50] rfl
  have hDc : va_D (fun q : Nat => s.heap.size ≤ q) [(q1, .inr (7, [.int 0, .null, .int 0, .int 0, .int 0, .int 0, .null, .null, .null, .null, .null, .null, .null, .null, .null, .int 0, .int 0, .int 0, .int 0, .int 0, .null, .null, .null, .null, .null, .null, .null, .null, .null, .null, .int 0]))] := hD.sub [50] (by decide) rfl
  have hFc := va_free (wc := [(q1, .inr (7, [.int 0, .null, .int 0, .int 0, .int 0, .int 0, .null, .null, .null, .null, .null, .null, .null, .null, .null, .int 0, .int 0, .int 0, .int 0, .int 0, .null, .null, .null, .null, .null, .null, .null, .null, .null, .null, .int 0]))]) hD hS hA [50] rfl
  refine va_callv (va_runI (bytes := cX7_init) (maxL := 1) (As := []) (rest := [.ref q1]) ⟨hx, hb, hml, hown, hts⟩ (n_X7 l G q1 H.size) (cwI 0 hts (good_W cdL_X7) rfl rfl rfl (hts _ iiL_X7) (hts _ ml_L_12) (hts _ imL_X7) rfl (by decide +kernel) ⟨Nat.le_of_ble_eq_true rfl, Nat.le_of_ble_eq_true rfl⟩) ⟨pc_blind2, fun U hU hW => ⟨rfl, by rw [hU], by rw [hU]; exact hPc, va_K.moved hW.alike hK, hDc.weaken (fun _ _ _ _ => trivial)⟩⟩ rfl rfl hl.1 rfl (lv_room (Nat.le_of_ble_eq_true rfl)) dL_law_12 ⟨Nat.le_of_ble_eq_true rfl, Nat.le_of_ble_eq_true rfl⟩) hS (fun q _ h => hFc q h) hFc (fun v t H1 locs ht hvm hw hB hz1 hk1 hS => ?_)
  obtain ⟨hP2, hD2⟩ := hB
  rw [ht] at hP2
  obtain ⟨hP, hD⟩ := va_join (wr := wN_X6 G q0 u) (w1 := wN_X7 G q1 v) hP hD [50] (List.range 50) rfl rfl (by decide) (by decide) hk1 hFc hP2 hD2
  clear hP1 hD1 hP2 hD2 hPc hDc hFc hk1
  generalize H1 = H at hP hS ⊢
  refine lv_astore_n (lv' := [(2, .ref q1), (1, .ref q0), (0, .ref b)]) hx hb dL_law_15 rfl hl (by decide) rfl (fun ls hl => ?_)
  refine lv_iconst (v := Int32.ofInt ((0 : Nat) : Int)) hx hb dL_law_16 (by decide) ?_
  refine lv_istore_n (lv' := [(3, .int (Int32.ofInt ((0 : Nat) : Int))), (2, .ref q1), (1, .ref q0), (0, .ref b)]) hx hb dL_law_17 rfl hl (by decide) rfl (fun ls hl => ?_)
  have hPa : va_P G.1 vwCl (wN_X6 G q0 u) H := hP.sub (List.range 50) rfl
  have hPb : va_P G.1 vwCl (wN_X7 G q1 v) H := hP.sub ((List.range 21).map (· + 50)) rfl
  have hDa : va_D (fun q : Nat => s.heap.size ≤ q) (wN_X6 G q0 u) := hD.sub (List.range 50) (by decide) rfl
  have hDb : va_D (fun q : Nat => s.heap.size ≤ q) (wN_X7 G q1 v) := hD.sub ((List.range 21).map (· + 50)) (by decide) rfl
  rw [← wo_C] at hPa hDa
  rw [← wo_M] at hPb hDb
  refine law_loop (G := (G.1, G.2.1, adr q0 u)) (am := adr q1 v) (I := I) hx hb hr hlocks hml hown hts hK hX hbl hL (Nat.le_of_ble_eq_true rfl) (Nat.le_of_ble_eq_true rfl) hAll (L + 7) 0 s0C s0M H locs ls (by omega) (by omega) (lv_sub hl [3, 2, 1, 0] rfl) ⟨hPa, hPb, hDa, hDb, ?_, hS, s0C_R, s0M_R⟩ hI0
  intro i hi j hj hij
  have e1 : (wN_X6 G q0 u ++ wN_X7 G q1 v)[i]? = some (adr q0 u i, ce LC (G.1, G.2.1, adr q0 u) s0C i) := by
    rw [← wo_C, ← wo_M, List.getElem?_append_left (by simp [wo]; exact hi)]
    exact wo_at hi
  have e2 : (wN_X6 G q0 u ++ wN_X7 G q1 v)[50 + j]? = some (adr q1 v j, ce LM (G.1, G.2.1, adr q1 v) s0M j) := by
    rw [← wo_C, ← wo_M, List.getElem?_append_right (by simp [wo, LC])]
    have e3 : 50 + j - (wo LC (G.1, G.2.1, adr q0 u) s0C).length = j := by simp [wo, LC]
    rw [e3]
    exact wo_at hj
  have e4 := hD.1 i (50 + j) _ _ e1 e2 hij
  have hi2 : i < 50 := hi
  omega
