/-! ===== the rules: an instruction each ===== -/
def i_and (a b : Int) : Int := (Int32.ofInt a &&& Int32.ofInt b).toInt
def i_or (a b : Int) : Int := (Int32.ofInt a ||| Int32.ofInt b).toInt
def i_shl (a b : Int) : Int := (Int32.ofInt a <<< (Int32.ofInt b &&& 31)).toInt
def i_shr (a b : Int) : Int := (Int32.ofInt a >>> (Int32.ofInt b &&& 31)).toInt
def i_b (a : Int) : Int := (Int32.ofInt a).toInt8.toInt32.toInt
def i_s (a : Int) : Int := (Int32.ofInt a).toInt16.toInt32.toInt
def l_cmp (a b : Int) : Int := if b < a then 1 else if a = b then 0 else -1
/-- a field of an object: the link of class 'own', the c-th class, its k-th field -/
def FK (own : String) (idx ci k : Nat) : Prop := ∃ (C : String) (T : u_T) (N : Nat) (ty : Nat → FieldType), vwCl[ci]? = some (C, T, N) ∧ k < N ∧ Cond.fieldLink own idx C (T k).2.1 (T k).2.2.1 ∈ gtb ∧ (∀ w ∈ u_ws C T N, w ∈ gtb) ∧ (T k).1 = C ∧ (∀ k, k < N → parseFieldDescriptor (T k).2.2.1 = some (ty k)) ∧ (∀ a, a < N → ∀ b, b < N → a ≠ b → (T a).2.1 ≠ (T b).2.1)
/-- it isn't final, and its type -/
def FT (ci k : Nat) (t : FieldType) : Prop := ∀ (C : String) (T : u_T) (N : Nat), vwCl[ci]? = some (C, T, N) → (T k).2.2.2 = false ∧ parseFieldDescriptor (T k).2.2.1 = some t
/-- an object of the c-th class at a place -/
def PL (L : Lay) (q ci : Nat) : Prop := q < L.1 ∧ L.2.1 q = 3 + ci ∧ ∀ (C : String) (T : u_T) (N : Nat), vwCl[ci]? = some (C, T, N) → L.2.2.1 q = N
def AR (L : Lay) (q t n : Nat) : Prop := q < L.1 ∧ L.2.1 q = t ∧ L.2.2.1 q = n
/-- what the tables say of a method -/
def MK (M : MI) (n : Nat) : Prop := Cond.code M.1 M.2.1 M.2.2.1 M.2.2.2.1 ∈ gtb ∧ Cond.initialized M.1.cls ∈ gtb ∧ (M.1.cls ≠ "java/lang/invoke/MethodHandle" ∧ M.1.cls ≠ "java/lang/invoke/VarHandle" ∧ (parseMethodDescriptor M.1.desc).map (fun d => d.parameters.length) = some n) ∧ M.2.2.2.2.cells = 0 ∧ M.2.2.2.2.slots = 0
def MV (M : MI) : Prop := Cond.instanceMethod M.1 ∈ gtb ∧ Cond.selects M.1.cls M.1 M.1 ∈ gtb
def RF (M2 M : MI) : Prop := M2.2.2.2.2.frames + 1 ≤ M.2.2.2.2.frames ∧ 8 + (M2.2.2.1 + 11) + M2.2.2.2.2.locals ≤ M.2.2.2.2.locals
theorem lw_good : ∀ w ∈ gtb, (w.onTables && w.keeps) = true ∨ ∃ ty, w = .arrayClass ty := fun w hw => good_of_word (List.mem_filter.mp hw).2
theorem gtb_in {w : Cond} (i : Nat) (h : lw_tbl[i]? = some w) (hg : goodWord w = true) : w ∈ gtb := List.mem_filter.mpr ⟨List.mem_of_getElem? h, hg⟩
theorem good_M {M : MI} {n : Nat} (h : MK M n) : GoodIn gtb (wsM M) := by
  intro w hw
  rcases List.mem_cons.mp hw with rfl | hw
  · exact ⟨h.1, lw_good _ h.1⟩
  · exact ⟨hw, lw_good _ hw⟩
section Rules
variable {L : Lay} {M : MI} {r : Option AV × SS} {pc : Nat} {ls : List (Option AV)} {st : List AV} {σ : SS}
theorem ok_push {v : AV} {st0 : List AV} (h : OKS ls st0 σ) (hs : ∀ w ∈ st, w ∈ st0) (hv : okv v) : OKS ls (v :: st) σ := ⟨h.1, fun w hw => by
  rcases List.mem_cons.mp hw with rfl | hw
  · exact hv
  · exact h.2.1 w (hs w hw), h.2.2⟩
theorem ok_drop {st0 : List AV} (h : OKS ls st0 σ) (hs : ∀ w ∈ st, w ∈ st0) : OKS ls st σ := ⟨h.1, fun w hw => h.2.1 w (hs w hw), h.2.2⟩
theorem ok_up {st0 : List AV} {q k : Nat} {v : Int} (h : OKS ls st0 σ) (hs : ∀ w ∈ st, w ∈ st0) (hv : IR v) : OKS ls st (up σ q k v) := ⟨h.1, fun w hw => h.2.1 w (hs w hw), IR_up h.2.2 hv⟩
theorem in_1 {x : AV} : ∀ w ∈ st, w ∈ x :: st := fun _ h => List.mem_cons_of_mem _ h
theorem in_2 {x y : AV} : ∀ w ∈ st, w ∈ x :: y :: st := fun _ h => List.mem_cons_of_mem _ (List.mem_cons_of_mem _ h)
theorem in_3 {x y z : AV} : ∀ w ∈ st, w ∈ x :: y :: z :: st := fun _ h => List.mem_cons_of_mem _ (List.mem_cons_of_mem _ (List.mem_cons_of_mem _ h))
theorem at_0 {x : AV} (h : OKS ls (x :: st) σ) : okv x := h.2.1 _ List.mem_cons_self
theorem at_1 {x y : AV} (h : OKS ls (x :: y :: st) σ) : okv y := h.2.1 _ (List.mem_cons_of_mem _ List.mem_cons_self)
theorem at_2 {x y z : AV} (h : OKS ls (x :: y :: z :: st) σ) : okv z := h.2.1 _ (List.mem_cons_of_mem _ (List.mem_cons_of_mem _ List.mem_cons_self))
-- constants
theorem aw_iconst {n : Int} (hd : decode M.2.1 pc = .ok (.iconst n, 1)) (hn : IR n) (k : AW L M r (pc + 1) ls (vI n :: st) σ) : AW L M r pc ls st σ := by
  intro p l e s m args below meth c G H locs lsA hX hW hO hl
  exact lv_iconst hX.1 hX.2.1 hd rfl (k p l e s m args below meth c G H locs lsA hX hW (ok_push hO (fun _ h => h) hn) hl)
theorem aw_bipush {n : Int} (hd : decode M.2.1 pc = .ok (.bipush n, 2)) (hn : IR n) (hv : (Int8.ofInt n).toInt32 = Int32.ofInt n) (k : AW L M r (pc + 2) ls (vI n :: st) σ) : AW L M r pc ls st σ := by
  intro p l e s m args below meth c G H locs lsA hX hW hO hl
  exact lv_bipush hX.1 hX.2.1 hd hv (k p l e s m args below meth c G H locs lsA hX hW (ok_push hO (fun _ h => h) hn) hl)
theorem aw_sipush {n : Int} (hd : decode M.2.1 pc = .ok (.sipush n, 3)) (hn : IR n) (hv : (Int16.ofInt n).toInt32 = Int32.ofInt n) (k : AW L M r (pc + 3) ls (vI n :: st) σ) : AW L M r pc ls st σ := by
  intro p l e s m args below meth c G H locs lsA hX hW hO hl
  exact lv_sipush hX.1 hX.2.1 hd hv (k p l e s m args below meth c G H locs lsA hX hW (ok_push hO (fun _ h => h) hn) hl)
theorem aw_ldc {n : Int} {v : Int32} {idx : Nat} (hd : decode M.2.1 pc = .ok (.ldc idx, 2)) (hw : Cond.constant M.1.cls idx v ∈ gtb) (hn : IR n) (hv : v = Int32.ofInt n) (k : AW L M r (pc + 2) ls (vI n :: st) σ) : AW L M r pc ls st σ := by
  intro p l e s m args below meth c G H locs lsA hX hW hO hl
  subst hv
  exact lv_ldc hX.1 hX.2.1 hX.2.2.2.2.2.1 (hX.2.2.2.2.2.2.1 _ hw) hd (k p l e s m args below meth c G H locs lsA hX hW (ok_push hO (fun _ h => h) hn) hl)
theorem aw_ldcw {n : Int} {v : Int32} {idx : Nat} (hd : decode M.2.1 pc = .ok (.ldc_w idx, 3)) (hw : Cond.constant M.1.cls idx v ∈ gtb) (hn : IR n) (hv : v = Int32.ofInt n) (k : AW L M r (pc + 3) ls (vI n :: st) σ) : AW L M r pc ls st σ := by
  intro p l e s m args below meth c G H locs lsA hX hW hO hl
  subst hv
  exact lv_ldcw hX.1 hX.2.1 hX.2.2.2.2.2.1 (hX.2.2.2.2.2.2.1 _ hw) hd (k p l e s m args below meth c G H locs lsA hX hW (ok_push hO (fun _ h => h) hn) hl)
theorem aw_ldc2 {n : Int} {v : Int64} {idx : Nat} (hd : decode M.2.1 pc = .ok (.ldc2_w idx, 3)) (hw : Cond.constantLong M.1.cls idx v ∈ gtb) (hn : LR n) (hv : v = Int64.ofInt n) (k : AW L M r (pc + 3) ls (vL n :: st) σ) : AW L M r pc ls st σ := by
  intro p l e s m args below meth c G H locs lsA hX hW hO hl
  subst hv
  exact lv_ldc2 hX.1 hX.2.1 hX.2.2.2.2.2.1 (hX.2.2.2.2.2.2.1 _ hw) hd (k p l e s m args below meth c G H locs lsA hX hW (ok_push (v := vL n) hO (fun _ h => h) hn) hl)
theorem aw_null (hd : decode M.2.1 pc = .ok (.aconst_null, 1)) (k : AW L M r (pc + 1) ls (vR none :: st) σ) : AW L M r pc ls st σ := by
  intro p l e s m args below meth c G H locs lsA hX hW hO hl
  exact lv_null hX.1 hX.2.1 hd (k p l e s m args below meth c G H locs lsA hX hW (ok_push (v := vR none) hO (fun _ h => h) trivial) hl)
-- locals
theorem ok_ls {i : Nat} {v : AV} (h : OKS ls st σ) (hl : ls[i]? = some (some v)) : okv v := h.1 v (List.mem_of_getElem? hl)
theorem aw_iload_n {j : Fin 4} {i : Nat} {a : Int} (hd : decode M.2.1 pc = .ok (.iload_n j, 1)) (hi : (j : Nat) = i) (hl : ls[i]? = some (some (vI a))) (k : AW L M r (pc + 1) ls (vI a :: st) σ) : AW L M r pc ls st σ := by
  intro p l e s m args below meth c G H locs lsA hX hW hO hv
  exact lv_iload_n hX.1 hX.2.1 hd hi (lv_load hv hl) (k p l e s m args below meth c G H locs lsA hX hW (ok_push hO (fun _ h => h) (ok_ls hO hl)) hv)
theorem aw_iload {i : Nat} {a : Int} (hd : decode M.2.1 pc = .ok (.iload i, 2)) (hl : ls[i]? = some (some (vI a))) (k : AW L M r (pc + 2) ls (vI a :: st) σ) : AW L M r pc ls st σ := by
  intro p l e s m args below meth c G H locs lsA hX hW hO hv
  exact lv_iload hX.1 hX.2.1 hd (lv_load hv hl) (k p l e s m args below meth c G H locs lsA hX hW (ok_push hO (fun _ h => h) (ok_ls hO hl)) hv)
theorem aw_lload_n {j : Fin 4} {i : Nat} {a : Int} (hd : decode M.2.1 pc = .ok (.lload_n j, 1)) (hi : (j : Nat) = i) (hl : ls[i]? = some (some (vL a))) (k : AW L M r (pc + 1) ls (vL a :: st) σ) : AW L M r pc ls st σ := by
  intro p l e s m args below meth c G H locs lsA hX hW hO hv
  exact lv_lload_n hX.1 hX.2.1 hd hi (lv_load hv hl) (k p l e s m args below meth c G H locs lsA hX hW (ok_push hO (fun _ h => h) (ok_ls hO hl)) hv)
theorem aw_lload {i : Nat} {a : Int} (hd : decode M.2.1 pc = .ok (.lload i, 2)) (hl : ls[i]? = some (some (vL a))) (k : AW L M r (pc + 2) ls (vL a :: st) σ) : AW L M r pc ls st σ := by
  intro p l e s m args below meth c G H locs lsA hX hW hO hv
  exact lv_lload hX.1 hX.2.1 hd (lv_load hv hl) (k p l e s m args below meth c G H locs lsA hX hW (ok_push hO (fun _ h => h) (ok_ls hO hl)) hv)
theorem aw_aload_n {j : Fin 4} {i : Nat} {a : Option Nat} (hd : decode M.2.1 pc = .ok (.aload_n j, 1)) (hi : (j : Nat) = i) (hl : ls[i]? = some (some (vR a))) (k : AW L M r (pc + 1) ls (vR a :: st) σ) : AW L M r pc ls st σ := by
  intro p l e s m args below meth c G H locs lsA hX hW hO hv
  have K := k p l e s m args below meth c G H locs lsA hX hW (ok_push hO (fun _ h => h) (ok_ls hO hl)) hv
  cases a with
  | none => exact lv_aload_nN hX.1 hX.2.1 hd hi (lv_load hv hl) K
  | some q => exact lv_aload_n hX.1 hX.2.1 hd hi (lv_load hv hl) K
theorem aw_aload {i : Nat} {a : Option Nat} (hd : decode M.2.1 pc = .ok (.aload i, 2)) (hl : ls[i]? = some (some (vR a))) (k : AW L M r (pc + 2) ls (vR a :: st) σ) : AW L M r pc ls st σ := by
  intro p l e s m args below meth c G H locs lsA hX hW hO hv
  have K := k p l e s m args below meth c G H locs lsA hX hW (ok_push hO (fun _ h => h) (ok_ls hO hl)) hv
  cases a with
  | none => exact lv_aloadN hX.1 hX.2.1 hd (lv_load hv hl) K
  | some q => exact lv_aload hX.1 hX.2.1 hd (lv_load hv hl) K
theorem aw_istore_n {j : Fin 4} {i : Nat} {a : Int} (hd : decode M.2.1 pc = .ok (.istore_n j, 1)) (hi : (j : Nat) = i) (hn : i < M.2.2.1) (hb : nlo ls i = true) (k : ∀ x, x = a → AW L M r (pc + 1) (ls.set i (some (vI x))) st σ) : AW L M r pc ls (vI a :: st) σ := by
  intro p l e s m args below meth c G H locs lsA hX hW hO hv
  exact lv_istore_n hX.1 hX.2.1 hd hi hv hn rfl (fun ls' hl' => k a rfl p l e s m args below meth c G H locs ls' hX hW (OKS_set hO (at_0 hO) (fun w hw => hO.2.1 w (in_1 w hw))) (lv_less hl' (LVs_store1 (v := vI a) hb)))
theorem aw_istore {i : Nat} {a : Int} (hd : decode M.2.1 pc = .ok (.istore i, 2)) (hn : i < M.2.2.1) (hb : nlo ls i = true) (k : ∀ x, x = a → AW L M r (pc + 2) (ls.set i (some (vI x))) st σ) : AW L M r pc ls (vI a :: st) σ := by
  intro p l e s m args below meth c G H locs lsA hX hW hO hv
  exact lv_istore hX.1 hX.2.1 hd hv hn rfl (fun ls' hl' => k a rfl p l e s m args below meth c G H locs ls' hX hW (OKS_set hO (at_0 hO) (fun w hw => hO.2.1 w (in_1 w hw))) (lv_less hl' (LVs_store1 (v := vI a) hb)))
theorem OKS_set2 {st' : List AV} {i : Nat} {v : AV} (h : OKS ls st σ) (hv : okv v) (hs : ∀ w ∈ st', okv w) : OKS ((ls.set i (some v)).set (i + 1) none) st' σ := by
  refine ⟨fun w hw => ?_, hs, h.2.2⟩
  rcases List.mem_or_eq_of_mem_set hw with h1 | h1
  · rcases List.mem_or_eq_of_mem_set h1 with h1 | h1
    · exact h.1 w h1
    · obtain rfl := Option.some.inj h1
      exact hv
  · cases h1
theorem aw_lstore_n {j : Fin 4} {i : Nat} {a : Int} (hd : decode M.2.1 pc = .ok (.lstore_n j, 1)) (hi : (j : Nat) = i) (hn : i + 1 < M.2.2.1) (hb : nlo ls i = true) (k : ∀ x, x = a → AW L M r (pc + 1) ((ls.set i (some (vL x))).set (i + 1) none) st σ) : AW L M r pc ls (vL a :: st) σ := by
  intro p l e s m args below meth c G H locs lsA hX hW hO hv
  exact lv_lstore_n hX.1 hX.2.1 hd hi hv hn rfl (fun ls' hl' => k a rfl p l e s m args below meth c G H locs ls' hX hW (OKS_set2 hO (at_0 hO) (fun w hw => hO.2.1 w (in_1 w hw))) (lv_less hl' (LVs_store2 (v := vL a) hb)))
theorem aw_lstore {i : Nat} {a : Int} (hd : decode M.2.1 pc = .ok (.lstore i, 2)) (hn : i + 1 < M.2.2.1) (hb : nlo ls i = true) (k : ∀ x, x = a → AW L M r (pc + 2) ((ls.set i (some (vL x))).set (i + 1) none) st σ) : AW L M r pc ls (vL a :: st) σ := by
  intro p l e s m args below meth c G H locs lsA hX hW hO hv
  exact lv_lstore hX.1 hX.2.1 hd hv hn rfl (fun ls' hl' => k a rfl p l e s m args below meth c G H locs ls' hX hW (OKS_set2 hO (at_0 hO) (fun w hw => hO.2.1 w (in_1 w hw))) (lv_less hl' (LVs_store2 (v := vL a) hb)))
theorem aw_astore_n {j : Fin 4} {i : Nat} {a : Option Nat} (hd : decode M.2.1 pc = .ok (.astore_n j, 1)) (hi : (j : Nat) = i) (hn : i < M.2.2.1) (hb : nlo ls i = true) (k : AW L M r (pc + 1) (ls.set i (some (vR a))) st σ) : AW L M r pc ls (vR a :: st) σ := by
  intro p l e s m args below meth c G H locs lsA hX hW hO hv
  cases a with
  | none => exact lv_astore_nN hX.1 hX.2.1 hd hi hv hn rfl (fun ls' hl' => k p l e s m args below meth c G H locs ls' hX hW (OKS_set hO (at_0 hO) (fun w hw => hO.2.1 w (in_1 w hw))) (lv_less hl' (LVs_store1 (v := vR none) hb)))
  | some q => exact lv_astore_n hX.1 hX.2.1 hd hi hv hn rfl (fun ls' hl' => k p l e s m args below meth c G H locs ls' hX hW (OKS_set hO (at_0 hO) (fun w hw => hO.2.1 w (in_1 w hw))) (lv_less hl' (LVs_store1 (v := vR (some q)) hb)))
theorem aw_astore {i : Nat} {a : Option Nat} (hd : decode M.2.1 pc = .ok (.astore i, 2)) (hn : i < M.2.2.1) (hb : nlo ls i = true) (k : AW L M r (pc + 2) (ls.set i (some (vR a))) st σ) : AW L M r pc ls (vR a :: st) σ := by
  intro p l e s m args below meth c G H locs lsA hX hW hO hv
  cases a with
  | none => exact lv_astoreN hX.1 hX.2.1 hd hv hn rfl (fun ls' hl' => k p l e s m args below meth c G H locs ls' hX hW (OKS_set hO (at_0 hO) (fun w hw => hO.2.1 w (in_1 w hw))) (lv_less hl' (LVs_store1 (v := vR none) hb)))
  | some q => exact lv_astore hX.1 hX.2.1 hd hv hn rfl (fun ls' hl' => k p l e s m args below meth c G H locs ls' hX hW (OKS_set hO (at_0 hO) (fun w hw => hO.2.1 w (in_1 w hw))) (lv_less hl' (LVs_store1 (v := vR (some q)) hb)))
theorem aw_iinc {i : Nat} {n a : Int} (hd : decode M.2.1 pc = .ok (.iinc i n, 3)) (hl : ls[i]? = some (some (vI a))) (hn : i < M.2.2.1) (hb : nlo ls i = true) (k : ∀ x, x = wr (a + n) → AW L M r (pc + 3) (ls.set i (some (vI x))) st σ) : AW L M r pc ls st σ := by
  intro p l e s m args below meth c G H locs lsA hX hW hO hv
  obtain ⟨j, hj⟩ := List.getElem?_of_mem (LVs_mem (G := G) (x := (i, cv G (vI a))).mpr ⟨vI a, hl, rfl⟩)
  refine lv_iinc (v := Int32.ofInt (wr (a + n))) hX.1 hX.2.1 hd hv hj ?_ hn rfl (fun ls' hl' => k _ rfl p l e s m args below meth c G H locs ls' hX hW (OKS_set hO (IR_wr _) hO.2.1) (lv_less hl' (LVs_store1 (v := vI (wr (a + n))) hb)))
  rw [of_wr, oi_add]
/-- what is no longer wanted of the locals -/
def lsle : List (Option AV) → List (Option AV) → Prop
  | [], _ => True
  | none :: a, _ :: b => lsle a b
  | some v :: a, w :: b => w = some v ∧ lsle a b
  | none :: a, [] => lsle a []
  | some _ :: _, [] => False
theorem lsle_sp : ∀ {a b : List (Option AV)}, lsle a b → ∀ (i : Nat) (v : AV), a[i]? = some (some v) → b[i]? = some (some v)
  | [], _, _, i, v, h => by simp at h
  | none :: a, [], hl, 0, v, h => by simp at h
  | none :: a, [], hl, i + 1, v, h => by
      have := lsle_sp (a := a) (b := []) hl i v (by simpa using h)
      simp at this
  | none :: a, w :: b, hl, 0, v, h => by simp at h
  | none :: a, w :: b, hl, i + 1, v, h => by
      have := lsle_sp (a := a) (b := b) hl i v (by simpa using h)
      simpa using this
  | some u :: a, [], hl, i, v, h => by cases hl
  | some u :: a, w :: b, hl, 0, v, h => by
      obtain ⟨rfl, _⟩ := hl
      simpa using h
  | some u :: a, w :: b, hl, i + 1, v, h => by
      have := lsle_sp (a := a) (b := b) hl.2 i v (by simpa using h)
      simpa using this
theorem aw_less {ls' : List (Option AV)} (h : lsle ls' ls) (k : AW L M r pc ls' st σ) : AW L M r pc ls st σ := by
  intro p l e s m args below meth c G H locs lsA hX hW hO hv
  refine k p l e s m args below meth c G H locs lsA hX hW ⟨fun v hv' => ?_, hO.2.1, hO.2.2⟩ (lv_less hv (fun x hx => ?_))
  · obtain ⟨i, hi⟩ := List.getElem?_of_mem hv'
    exact hO.1 v (List.mem_of_getElem? (lsle_sp h i v hi))
  · obtain ⟨w, h1, h2⟩ := LVs_mem.mp hx
    exact LVs_mem.mpr ⟨w, lsle_sp h x.1 w h1, h2⟩
-- arithmetic
theorem aw_iadd {a b : Int} (hd : decode M.2.1 pc = .ok (.iadd, 1)) (k : AW L M r (pc + 1) ls (vI (wr (a + b)) :: st) σ) : AW L M r pc ls (vI b :: vI a :: st) σ := by
  intro p l e s m args below meth c G H locs lsA hX hW hO hv
  have K := k p l e s m args below meth c G H locs lsA hX hW (ok_push hO in_2 (IR_wr _)) hv
  simp only [List.map_cons, cv, of_wr, ← oi_add] at K
  exact lv_iadd hX.1 hX.2.1 hd K
theorem aw_isub {a b : Int} (hd : decode M.2.1 pc = .ok (.isub, 1)) (k : AW L M r (pc + 1) ls (vI (wr (a - b)) :: st) σ) : AW L M r pc ls (vI b :: vI a :: st) σ := by
  intro p l e s m args below meth c G H locs lsA hX hW hO hv
  have K := k p l e s m args below meth c G H locs lsA hX hW (ok_push hO in_2 (IR_wr _)) hv
  simp only [List.map_cons, cv, of_wr, ← oi_sub] at K
  exact lv_isub hX.1 hX.2.1 hd K
theorem aw_imul {a b : Int} (hd : decode M.2.1 pc = .ok (.imul, 1)) (k : AW L M r (pc + 1) ls (vI (wr (a * b)) :: st) σ) : AW L M r pc ls (vI b :: vI a :: st) σ := by
  intro p l e s m args below meth c G H locs lsA hX hW hO hv
  have K := k p l e s m args below meth c G H locs lsA hX hW (ok_push hO in_2 (IR_wr _)) hv
  simp only [List.map_cons, cv, of_wr, ← oi_mul] at K
  exact lv_imul hX.1 hX.2.1 hd K
theorem aw_iand {a b : Int} (hd : decode M.2.1 pc = .ok (.iand, 1)) (k : AW L M r (pc + 1) ls (vI (i_and a b) :: st) σ) : AW L M r pc ls (vI b :: vI a :: st) σ := by
  intro p l e s m args below meth c G H locs lsA hX hW hO hv
  have K := k p l e s m args below meth c G H locs lsA hX hW (ok_push hO in_2 (IR_32 _)) hv
  simp only [List.map_cons, cv, i_and, Int32.ofInt_toInt] at K
  exact lv_iand hX.1 hX.2.1 hd K
theorem aw_ior {a b : Int} (hd : decode M.2.1 pc = .ok (.ior, 1)) (k : AW L M r (pc + 1) ls (vI (i_or a b) :: st) σ) : AW L M r pc ls (vI b :: vI a :: st) σ := by
  intro p l e s m args below meth c G H locs lsA hX hW hO hv
  have K := k p l e s m args below meth c G H locs lsA hX hW (ok_push hO in_2 (IR_32 _)) hv
  simp only [List.map_cons, cv, i_or, Int32.ofInt_toInt] at K
  exact lv_ior hX.1 hX.2.1 hd K
theorem aw_ishl {a b : Int} (hd : decode M.2.1 pc = .ok (.ishl, 1)) (k : AW L M r (pc + 1) ls (vI (i_shl a b) :: st) σ) : AW L M r pc ls (vI b :: vI a :: st) σ := by
  intro p l e s m args below meth c G H locs lsA hX hW hO hv
  have K := k p l e s m args below meth c G H locs lsA hX hW (ok_push hO in_2 (IR_32 _)) hv
  simp only [List.map_cons, cv, i_shl, Int32.ofInt_toInt] at K
  exact lv_ishl hX.1 hX.2.1 hd K
theorem aw_ishr {a b : Int} (hd : decode M.2.1 pc = .ok (.ishr, 1)) (k : AW L M r (pc + 1) ls (vI (i_shr a b) :: st) σ) : AW L M r pc ls (vI b :: vI a :: st) σ := by
  intro p l e s m args below meth c G H locs lsA hX hW hO hv
  have K := k p l e s m args below meth c G H locs lsA hX hW (ok_push hO in_2 (IR_32 _)) hv
  simp only [List.map_cons, cv, i_shr, Int32.ofInt_toInt] at K
  exact lv_ishr hX.1 hX.2.1 hd K
theorem aw_i2b {a : Int} (hd : decode M.2.1 pc = .ok (.i2b, 1)) (k : AW L M r (pc + 1) ls (vI (i_b a) :: st) σ) : AW L M r pc ls (vI a :: st) σ := by
  intro p l e s m args below meth c G H locs lsA hX hW hO hv
  have K := k p l e s m args below meth c G H locs lsA hX hW (ok_push hO in_1 (IR_32 _)) hv
  simp only [List.map_cons, cv, i_b, Int32.ofInt_toInt] at K
  exact lv_i2b hX.1 hX.2.1 hd rfl K
theorem aw_i2s {a : Int} (hd : decode M.2.1 pc = .ok (.i2s, 1)) (k : AW L M r (pc + 1) ls (vI (i_s a) :: st) σ) : AW L M r pc ls (vI a :: st) σ := by
  intro p l e s m args below meth c G H locs lsA hX hW hO hv
  have K := k p l e s m args below meth c G H locs lsA hX hW (ok_push hO in_1 (IR_32 _)) hv
  simp only [List.map_cons, cv, i_s, Int32.ofInt_toInt] at K
  exact lv_i2s hX.1 hX.2.1 hd rfl K
theorem aw_i2l {a : Int} (hd : decode M.2.1 pc = .ok (.i2l, 1)) (k : AW L M r (pc + 1) ls (vL a :: st) σ) : AW L M r pc ls (vI a :: st) σ := by
  intro p l e s m args below meth c G H locs lsA hX hW hO hv
  have ha : IR a := at_0 hO
  have ha2 : LR a := ⟨by have := ha.1; omega, by have := ha.2; omega⟩
  have K := k p l e s m args below meth c G H locs lsA hX hW (ok_push (v := vL a) hO in_1 ha2) hv
  refine lv_i2l hX.1 hX.2.1 hd ?_ K
  apply Int64.toInt_inj.mp
  rw [Int32.toInt_toInt64, ti_of ha, tl_of ha2]
theorem aw_ladd {a b : Int} (hd : decode M.2.1 pc = .ok (.ladd, 1)) (k : AW L M r (pc + 1) ls (vL (wl (a + b)) :: st) σ) : AW L M r pc ls (vL b :: vL a :: st) σ := by
  intro p l e s m args below meth c G H locs lsA hX hW hO hv
  have K := k p l e s m args below meth c G H locs lsA hX hW (ok_push (v := vL (wl (a + b))) hO in_2 (LR_wl _)) hv
  simp only [List.map_cons, cv, of_wl, ← ol_add] at K
  exact lv_ladd hX.1 hX.2.1 hd K
theorem aw_lmul {a b : Int} (hd : decode M.2.1 pc = .ok (.lmul, 1)) (k : AW L M r (pc + 1) ls (vL (wl (a * b)) :: st) σ) : AW L M r pc ls (vL b :: vL a :: st) σ := by
  intro p l e s m args below meth c G H locs lsA hX hW hO hv
  have K := k p l e s m args below meth c G H locs lsA hX hW (ok_push (v := vL (wl (a * b))) hO in_2 (LR_wl _)) hv
  simp only [List.map_cons, cv, of_wl, ← ol_mul] at K
  exact lv_lmul hX.1 hX.2.1 hd K
theorem aw_lcmp {a b : Int} (hd : decode M.2.1 pc = .ok (.lcmp, 1)) (k : AW L M r (pc + 1) ls (vI (l_cmp a b) :: st) σ) : AW L M r pc ls (vL b :: vL a :: st) σ := by
  intro p l e s m args below meth c G H locs lsA hX hW hO hv
  have ha : LR a := at_1 hO
  have hb : LR b := at_0 hO
  have K := k p l e s m args below meth c G H locs lsA hX hW (ok_push hO in_2 (by show IR (l_cmp a b); unfold l_cmp IR; split <;> (try split) <;> decide)) hv
  have e1 : Int32.ofInt (l_cmp a b) = lg_cmp (Int64.ofInt a) (Int64.ofInt b) := by
    unfold l_cmp lg_cmp
    have h1 : Int64.ofInt b < Int64.ofInt a ↔ b < a := by rw [Int64.lt_iff_toInt_lt, tl_of ha, tl_of hb]
    have h2 : Int64.ofInt a = Int64.ofInt b ↔ a = b := by rw [← Int64.toInt_inj, tl_of ha, tl_of hb]
    simp only [h1, h2]
    split
    · rfl
    · split <;> rfl
  simp only [List.map_cons, cv, e1] at K
  exact W.lcmp hX.1 hX.2.1 hd K
-- the stack
theorem aw_dup {v : AV} (hd : decode M.2.1 pc = .ok (.dup, 1)) (hv : isL v = false) (k : AW L M r (pc + 1) ls (v :: v :: st) σ) : AW L M r pc ls (v :: st) σ := by
  intro p l e s m args below meth c G H locs lsA hX hW hO hl
  exact lv_dup hX.1 hX.2.1 hd (by rw [cat_cv, hv]; rfl) (k p l e s m args below meth c G H locs lsA hX hW (ok_push hO (fun _ h => h) (at_0 hO)) hl)
theorem aw_pop {v : AV} (hd : decode M.2.1 pc = .ok (.pop, 1)) (hv : isL v = false) (k : AW L M r (pc + 1) ls st σ) : AW L M r pc ls (v :: st) σ := by
  intro p l e s m args below meth c G H locs lsA hX hW hO hl
  exact lv_pop hX.1 hX.2.1 hd (by rw [cat_cv, hv]; rfl) (k p l e s m args below meth c G H locs lsA hX hW (ok_drop hO in_1) hl)
theorem aw_dup2 {v w : AV} (hd : decode M.2.1 pc = .ok (.dup2, 1)) (hv : isL v = false) (hw : isL w = false) (k : AW L M r (pc + 1) ls (v :: w :: v :: w :: st) σ) : AW L M r pc ls (v :: w :: st) σ := by
  intro p l e s m args below meth c G H locs lsA hX hW hO hl
  exact lv_dup2_11 hX.1 hX.2.1 hd (by rw [cat_cv, hv]; rfl) (by rw [cat_cv, hw]; rfl) (k p l e s m args below meth c G H locs lsA hX hW (ok_push (ok_push hO (fun _ h => h) (at_1 hO)) (fun _ h => h) (at_0 hO)) hl)
end Rules
