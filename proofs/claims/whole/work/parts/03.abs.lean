/-! ===== the world of fixed places: values, states, layouts ===== -/
/-- the tables' words that stay true -/
def gtb : List Cond := lw_tbl.filter goodWord
abbrev AV : Type := Int ⊕ (Int ⊕ Option Nat)
abbrev vI (a : Int) : AV := .inl a
abbrev vL (a : Int) : AV := .inr (.inl a)
abbrev vR (q : Option Nat) : AV := .inr (.inr q)
abbrev SS : Type := Nat → Nat → Int
def up (σ : SS) (q k : Nat) (v : Int) : SS := fun q' k' => if q' = q ∧ k' = k then v else σ q' k'
def wr (a : Int) : Int := (Int32.ofInt a).toInt
def wl (a : Int) : Int := (Int64.ofInt a).toInt
def IR (a : Int) : Prop := -2147483648 ≤ a ∧ a ≤ 2147483647
def LR (a : Int) : Prop := -9223372036854775808 ≤ a ∧ a ≤ 9223372036854775807
/-- (places, kind of a place, its length, what its references mean): kind 0 a row of ints, 1 of booleans, 2 of references, 3 + c an object of the c-th of vwCl -/
abbrev Lay : Type := Nat × (Nat → Nat) × (Nat → Nat) × (Nat → Nat → Option Nat)
/-- the tables' numbers, the three rows' classes, the places' addresses -/
abbrev Gd : Type := va_G × (ClassId × ClassId × ClassId) × (Nat → Nat)
/-- (name, bytes, locals, answer, room) -/
abbrev MI : Type := MethodName × ByteArray × Nat × Option FieldType × Room
def cv (G : Gd) : AV → Value
  | .inl a => .int (Int32.ofInt a)
  | .inr (.inl a) => .long (Int64.ofInt a)
  | .inr (.inr none) => .null
  | .inr (.inr (some q)) => .ref (G.2.2 q)
def fdv (L : Lay) (G : Gd) (σ : SS) (q k : Nat) : Value := match L.2.2.2 q k with
  | some p => .ref (G.2.2 p)
  | none => .int (Int32.ofInt (σ q k))
def ce (L : Lay) (G : Gd) (σ : SS) (q : Nat) : va_E :=
  if L.2.1 q = 0 then .inl (G.2.1.1, L.2.2.1 q, .inl (fun i => Int32.ofInt (σ q i)))
  else if L.2.1 q = 1 then .inl (G.2.1.2.1, L.2.2.1 q, .inl (fun i => Int32.ofInt (σ q i)))
  else if L.2.1 q = 2 then .inl (G.2.1.2.2, L.2.2.1 q, .inr (.inr (.inr (.inr (fun i => (L.2.2.2 q i).map G.2.2)))))
  else .inr (L.2.1 q - 3, (List.range (L.2.2.1 q)).map (fdv L G σ q))
def wo (L : Lay) (G : Gd) (σ : SS) : va_W := (List.range L.1).map (fun q => (G.2.2 q, ce L G σ q))
def tys (G : Gd) : List (ClassId × FieldType) := [(G.2.1.1, .int), (G.2.1.2.1, .boolean), (G.2.1.2.2, .object "PrettyShapes$Sheet")]
def AA (L : Lay) (G : Gd) (sz : Nat) : Nat → Prop := va_A (wo L G (fun _ _ => 0)) sz
def okv : AV → Prop
  | .inl a => IR a
  | .inr (.inl a) => LR a
  | .inr (.inr _) => True
def OKS (ls : List (Option AV)) (st : List AV) (σ : SS) : Prop := (∀ v, some v ∈ ls → okv v) ∧ (∀ v ∈ st, okv v) ∧ ∀ q k, IR (σ q k)
def okr (r : Option AV × SS) : Prop := (∀ v, r.1 = some v → okv v) ∧ ∀ q k, IR (r.2 q k)
def wsM (M : MI) : List Cond := Cond.code M.1 M.2.1 M.2.2.1 M.2.2.2.1 :: gtb
def CX (M : MI) (p : Program) (s : State) (m : MethodId) (args : Array Value) (meth : Method) (c : Code) (G : Gd) : Prop :=
  p.tables.exec = Jvm.exec ∧ c.code = M.2.1 ∧ c.maxLocals = M.2.2.1 ∧ meth.sig.returnType = M.2.2.2.1 ∧ meth.locks = false ∧ s.vm.findClass M.1.cls = some m.cls ∧ (∀ w ∈ gtb, w.before args s = true) ∧ va_K G.1 vwCl (tys G) s
def WD (L : Lay) (G : Gd) (s : State) (σ : SS) (H : Heap) (locs : List Loc) : Prop := va_P G.1 vwCl (wo L G σ) H ∧ va_D (AA L G s.heap.size) (wo L G σ) ∧ va_S (AA L G s.heap.size) s.heap H locs
def PQ (L : Lay) (G : Gd) (r : Option AV × SS) (sz : Nat) : Array Value → State → Outcome → State → Prop := fun _ st oc t =>
  (oc = .returned (r.1.map (cv G)) ∧ okr r ∧ va_P G.1 vwCl (wo L G r.2) t.heap ∧ va_K G.1 vwCl (tys G) t) ∧ va_F (AA L G sz) st t
def LVs (G : Gd) (ls : List (Option AV)) : List (Nat × Value) := (List.range ls.length).filterMap (fun i => (ls.getD i none).map (fun v => (i, cv G v)))
def AW (L : Lay) (M : MI) (r : Option AV × SS) (pc : Nat) (ls : List (Option AV)) (st : List AV) (σ : SS) : Prop :=
  ∀ (p : Program) (l : Launch) (e : Env) (s : State) (m : MethodId) (args : Array Value) (below : List Frame) (meth : Method) (c : Code) (G : Gd) (H : Heap) (locs : List Loc) (lsA : Array Slot),
    CX M p s m args meth c G → WD L G s σ H locs → OKS ls st σ → lv_has lsA M.2.2.1 (LVs G ls) →
    W p l e M.2.2.2.2 s m args below meth c H locs 0 0 (MQ below (PQ L G r s.heap.size) args s 0 0 (AA L G s.heap.size)) (F0 m pc lsA (st.map (cv G)))
def CT (L : Lay) (M : MI) (vs : List AV) (σ : SS) (r : Option AV × SS) : Prop :=
  (∀ v ∈ vs, okv v) → (∀ q k, IR (σ q k)) → ∀ (l : Launch) (G : Gd) (sz : Nat), Met l M.1 (wsM M) M.2.2.2.2 (va_Pc (vs.map (cv G)) (fun U => U.heap.size = sz ∧ va_P G.1 vwCl (wo L G σ) U.heap ∧ va_K G.1 vwCl (tys G) U ∧ va_D (fun _ => True) (wo L G σ))) (PQ L G r sz) 0 0 (AA L G sz)
/-! ===== numbers ===== -/
theorem IR_32 (x : Int32) : IR x.toInt := by
  have h1 := x.toInt_lt
  have h2 := x.le_toInt
  constructor <;> omega
theorem LR_64 (x : Int64) : LR x.toInt := by
  have h1 := x.toInt_lt
  have h2 := x.le_toInt
  constructor <;> omega
theorem IR_wr (a : Int) : IR (wr a) := IR_32 _
theorem LR_wl (a : Int) : LR (wl a) := LR_64 _
theorem ti_of {a : Int} (h : IR a) : (Int32.ofInt a).toInt = a := Int32.toInt_ofInt_of_le (by have := h.1; omega) (by have := h.2; omega)
theorem tl_of {a : Int} (h : LR a) : (Int64.ofInt a).toInt = a := Int64.toInt_ofInt_of_le (by have := h.1; omega) (by have := h.2; omega)
theorem wr_of {a : Int} (h : IR a) : wr a = a := ti_of h
theorem of_wr (a : Int) : Int32.ofInt (wr a) = Int32.ofInt a := Int32.ofInt_toInt _
theorem of_wl (a : Int) : Int64.ofInt (wl a) = Int64.ofInt a := Int64.ofInt_toInt _
theorem oi_add (a b : Int) : Int32.ofInt a + Int32.ofInt b = Int32.ofInt (a + b) := by
  apply Int32.toInt_inj.mp
  simp
theorem oi_sub (a b : Int) : Int32.ofInt a - Int32.ofInt b = Int32.ofInt (a - b) := by
  apply Int32.toInt_inj.mp
  simp
theorem oi_mul (a b : Int) : Int32.ofInt a * Int32.ofInt b = Int32.ofInt (a * b) := by
  apply Int32.toInt_inj.mp
  simp
theorem ol_add (a b : Int) : Int64.ofInt a + Int64.ofInt b = Int64.ofInt (a + b) := by
  apply Int64.toInt_inj.mp
  simp
theorem ol_mul (a b : Int) : Int64.ofInt a * Int64.ofInt b = Int64.ofInt (a * b) := by
  apply Int64.toInt_inj.mp
  simp
theorem oi_lt {a b : Int} (ha : IR a) (hb : IR b) : Int32.ofInt a < Int32.ofInt b ↔ a < b := by
  rw [Int32.lt_iff_toInt_lt, ti_of ha, ti_of hb]
theorem oi_le {a b : Int} (ha : IR a) (hb : IR b) : Int32.ofInt a ≤ Int32.ofInt b ↔ a ≤ b := by
  rw [Int32.le_iff_toInt_le, ti_of ha, ti_of hb]
theorem oi_eq {a b : Int} (ha : IR a) (hb : IR b) : Int32.ofInt a = Int32.ofInt b ↔ a = b := by
  rw [← Int32.toInt_inj, ti_of ha, ti_of hb]
theorem IR_0 : IR 0 := ⟨by decide, by decide⟩
theorem oi_in {a : Int} {n : Nat} (ha : IR a) (h : 0 ≤ a ∧ a < n) : vp_in (Int32.ofInt a) n := vp_in_iff.mpr (by rw [ti_of ha]; exact h)
theorem oi_nat {a : Int} (ha : IR a) : (Int32.ofInt a).toNatClampNeg = a.toNat := by
  show (Int32.ofInt a).toInt.toNat = a.toNat
  rw [ti_of ha]
/-! ===== the world's cells ===== -/
section Worlds
variable {L : Lay} {G : Gd} {σ σ' : SS} {q k : Nat}
theorem wo_at (h : q < L.1) : (wo L G σ)[q]? = some (G.2.2 q, ce L G σ q) := by
  simp [wo, List.getElem?_map, List.getElem?_range h]
theorem wo_at' {e : va_E} (h : q < L.1) (he : ce L G σ q = e) : (wo L G σ)[q]? = some (G.2.2 q, e) := by
  rw [wo_at h, he]
theorem wo_get {x : Nat × va_E} (h : (wo L G σ)[q]? = some x) : q < L.1 ∧ x = (G.2.2 q, ce L G σ q) := by
  have hq : q < L.1 := by
    have := (List.getElem?_eq_some_iff.mp h).1
    simpa [wo] using this
  rw [wo_at hq] at h
  exact ⟨hq, (Option.some.inj h).symm⟩
theorem ce_off (h : ∀ i, σ' q i = σ q i) : ce L G σ' q = ce L G σ q := by
  have e : σ' q = σ q := funext h
  have e2 : fdv L G σ' q = fdv L G σ q := by
    funext i
    simp only [fdv, h]
  simp only [ce, e, e2]
theorem wo_set (hq : q < L.1) {e : va_E} (he : ce L G σ' q = e) (h : ∀ p, p ≠ q → ∀ i, σ' p i = σ p i) : (wo L G σ).set q (G.2.2 q, e) = wo L G σ' := by
  apply List.ext_getElem?
  intro i
  by_cases hi : i < L.1
  · by_cases hiq : i = q
    · subst hiq
      rw [List.getElem?_set_self (by simp [wo, hi]), wo_at hi, he]
    · rw [List.getElem?_set_ne (Ne.symm hiq), wo_at hi, wo_at hi, ce_off (h i hiq)]
  · have h1 : ((wo L G σ).set q (G.2.2 q, e)).length ≤ i := by simp [wo]; omega
    have h2 : (wo L G σ').length ≤ i := by simp [wo]; omega
    rw [List.getElem?_eq_none h1, List.getElem?_eq_none h2]
theorem up_off {v : Int} : ∀ p, p ≠ q → ∀ i, up σ q k v p i = σ p i := by
  intro p hp i
  simp [up, hp]
theorem up_row {v : Int} : ∀ i, up σ q k v q i = if i = k then v else σ q i := by
  intro i
  simp [up]
theorem va_A_wo (sz : Nat) : va_A (wo L G σ) sz = AA L G sz := by
  funext a
  apply propext
  constructor
  · rintro (⟨i, e, h⟩ | h)
    · obtain ⟨hi, he⟩ := wo_get h
      exact Or.inl ⟨i, ce L G (fun _ _ => 0) i, by rw [wo_at hi]; rw [Prod.mk.injEq] at he; rw [he.1]⟩
    · exact Or.inr h
  · rintro (⟨i, e, h⟩ | h)
    · obtain ⟨hi, he⟩ := wo_get h
      exact Or.inl ⟨i, ce L G σ i, by rw [wo_at hi]; rw [Prod.mk.injEq] at he; rw [he.1]⟩
    · exact Or.inr h
theorem va_D_wo {A : Nat → Prop} (h : va_D A (wo L G σ)) : va_D A (wo L G σ') := by
  refine ⟨fun i j x y hi hj hxy => ?_, fun i x hi => ?_⟩
  · obtain ⟨li, rfl⟩ := wo_get hi
    obtain ⟨lj, rfl⟩ := wo_get hj
    exact h.1 i j _ _ (wo_at li) (wo_at lj) hxy
  · obtain ⟨li, rfl⟩ := wo_get hi
    exact h.2 i (G.2.2 i, ce L G σ i) (wo_at li)
theorem IR_up {v : Int} (h : ∀ q k, IR (σ q k)) (hv : IR v) : ∀ q' k', IR (up σ q k v q' k') := by
  intro q' k'
  unfold up
  split
  · exact hv
  · exact h q' k'
end Worlds
/-! ===== locals ===== -/
section Locals
variable {G : Gd} {ls : List (Option AV)} {lsA : Array Slot} {n i : Nat} {v : AV}
theorem lv_less {l l' : List (Nat × Value)} (h : lv_has lsA n l) (hs : ∀ q ∈ l', q ∈ l) : lv_has lsA n l' := ⟨h.1, h.2.1, fun q hq => h.2.2 q (hs q hq)⟩
theorem LVs_mem {x : Nat × Value} : x ∈ LVs G ls ↔ ∃ w, ls[x.1]? = some (some w) ∧ x.2 = cv G w := by
  unfold LVs
  rw [List.mem_filterMap]
  constructor
  · rintro ⟨j, hj, h⟩
    rw [List.mem_range] at hj
    cases hw : ls.getD j none with
    | none => rw [hw] at h; cases h
    | some w =>
      rw [hw] at h
      obtain rfl := Option.some.inj h
      refine ⟨w, ?_, rfl⟩
      rw [List.getD_eq_getElem?_getD, List.getElem?_eq_getElem hj] at hw
      rw [List.getElem?_eq_getElem hj]
      exact congrArg some hw
  · rintro ⟨w, h, h2⟩
    have hlt : x.1 < ls.length := (List.getElem?_eq_some_iff.mp h).1
    refine ⟨x.1, List.mem_range.mpr hlt, ?_⟩
    rw [List.getD_eq_getElem?_getD, h]
    show some (x.1, cv G w) = some x
    rw [← h2]
theorem lv_load (h : lv_has lsA n (LVs G ls)) (hi : ls[i]? = some (some v)) : lsA[i]? = some (.val (cv G v)) := h.2.2 (i, cv G v) (LVs_mem.mpr ⟨v, hi, rfl⟩)
def isL : AV → Bool
  | .inr (.inl _) => true
  | _ => false
/-- the place below i holds no long -/
def nlo (ls : List (Option AV)) : Nat → Bool
  | 0 => true
  | j + 1 => match ls.getD j none with
    | some w => !isL w
    | none => true
theorem cat_cv : (cv G v).category = if isL v then 2 else 1 := by
  rcases v with a | a | _ | a <;> rfl
theorem nlo_sp {j : Nat} {w : AV} (h : nlo ls i = true) (hj : j + 1 = i) (hw : ls[j]? = some (some w)) : isL w = false := by
  subst hj
  have h1 : (match ls.getD j none with
    | some w => !isL w
    | none => true) = true := h
  rw [List.getD_eq_getElem?_getD, hw] at h1
  simpa using h1
theorem LVs_store1 (hn : nlo ls i = true) : ∀ x ∈ LVs G (ls.set i (some v)), x ∈ (i, cv G v) :: (LVs G ls).filter (fun q => !(q.1 == i) && !(q.1 + 1 == i && q.2.category == 2)) := by
  intro x hx
  obtain ⟨w, h1, h2⟩ := LVs_mem.mp hx
  by_cases hxi : x.1 = i
  · rw [hxi] at h1
    have hlt : i < ls.length := by
      have := (List.getElem?_eq_some_iff.mp h1).1
      simpa using this
    rw [List.getElem?_set_self hlt] at h1
    obtain rfl := Option.some.inj (Option.some.inj h1)
    refine List.mem_cons.mpr (Or.inl ?_)
    rw [← hxi, ← h2]
  · rw [List.getElem?_set_ne (Ne.symm hxi)] at h1
    refine List.mem_cons.mpr (Or.inr (List.mem_filter.mpr ⟨LVs_mem.mpr ⟨w, h1, h2⟩, ?_⟩))
    by_cases h3 : x.1 + 1 = i
    · have h4 := nlo_sp hn h3 h1
      simp [hxi, h2, cat_cv, h4]
    · simp [hxi, h3]
theorem LVs_store2 (hn : nlo ls i = true) : ∀ x ∈ LVs G ((ls.set i (some v)).set (i + 1) none), x ∈ (i, cv G v) :: (LVs G ls).filter (fun q => !(q.1 == i) && (!(q.1 == i + 1) && !(q.1 + 1 == i && q.2.category == 2))) := by
  intro x hx
  obtain ⟨w, h1, h2⟩ := LVs_mem.mp hx
  have hx1 : x.1 ≠ i + 1 := by
    intro h3
    rw [h3] at h1
    have hlt : i + 1 < (ls.set i (some v)).length := by
      have := (List.getElem?_eq_some_iff.mp h1).1
      simpa using this
    rw [List.getElem?_set_self hlt] at h1
    cases Option.some.inj h1
  rw [List.getElem?_set_ne (Ne.symm hx1)] at h1
  by_cases hxi : x.1 = i
  · rw [hxi] at h1
    have hlt : i < ls.length := by
      have := (List.getElem?_eq_some_iff.mp h1).1
      simpa using this
    rw [List.getElem?_set_self hlt] at h1
    obtain rfl := Option.some.inj (Option.some.inj h1)
    refine List.mem_cons.mpr (Or.inl ?_)
    rw [← hxi, ← h2]
  · rw [List.getElem?_set_ne (Ne.symm hxi)] at h1
    refine List.mem_cons.mpr (Or.inr (List.mem_filter.mpr ⟨LVs_mem.mpr ⟨w, h1, h2⟩, ?_⟩))
    by_cases h3 : x.1 + 1 = i
    · have h4 := nlo_sp hn h3 h1
      simp [hxi, hx1, h2, cat_cv, h4]
    · simp [hxi, hx1, h3]
theorem OKS_set {st st' : List AV} {σ : SS} (h : OKS ls st σ) (hv : okv v) (hs : ∀ w ∈ st', okv w) : OKS (ls.set i (some v)) st' σ := by
  refine ⟨fun w hw => ?_, hs, h.2.2⟩
  rcases List.mem_or_eq_of_mem_set hw with h1 | h1
  · exact h.1 w h1
  · obtain rfl := Option.some.inj h1
    exact hv
end Locals
