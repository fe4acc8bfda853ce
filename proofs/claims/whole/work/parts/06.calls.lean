/-! ===== the rules: calls, a method's entry ===== -/
def stw : List AV → Nat
  | [] => 0
  | v :: t => (if isL v then 2 else 1) + stw t
theorem stw_sum (G : Gd) : ∀ st : List AV, ((st.map (cv G)).map fun v => v.category).sum = stw st
  | [] => rfl
  | v :: t => by
      simp only [List.map_cons, List.sum_cons, stw, stw_sum G t, cat_cv]
section Calls2
variable {L : Lay} {M M2 : MI} {r r2 : Option AV × SS} {pc idx : Nat} {ls : List (Option AV)} {st : List AV} {σ : SS}
theorem AA_up {G : Gd} {a b : Nat} (h : a ≤ b) : ∀ q, AA L G b q → AA L G a q := by
  rintro q (h1 | h1)
  · exact Or.inl h1
  · exact Or.inr (Nat.le_trans h h1)
theorem aw_run {p : Program} {l : Launch} {e : Env} {R : Room} {s : State} {m : MethodId} {args : Array Value} {below : List Frame} {meth : Method} {c : Code} {G : Gd} {H : Heap} {locs : List Loc} {lsA : Array Slot} {st0 rest : List Value} {a : Array Value} {Q : State → Prop}
    (hr : va_Run p l e R s m args below meth c H locs 0 0 0 0 (F0 m pc lsA st0) rest (PQ L G r2 H.size a) (AA L G H.size)) (hS : va_S (AA L G s.heap.size) s.heap H locs)
    (kk : ∀ (H1 : Heap) (locs1 : List Loc), okr r2 → va_P G.1 vwCl (wo L G r2.2) H1 → va_S (AA L G s.heap.size) s.heap H1 locs1 → W p l e R s m args below meth c H1 locs1 0 0 Q (F0 m (pc + 3) lsA ((r2.1.map (cv G)).toList ++ rest))) : W p l e R s m args below meth c H locs 0 0 Q (F0 m pc lsA st0) := by
  intro T hT X
  obtain ⟨v, st₀, t, T', L1, h0, X', hL, e1, e2, ⟨⟨hv, ho, hP, hK⟩, hz, hk⟩, st⟩ := hr T hT X
  obtain rfl : v = r2.1.map (cv G) := by injection hv
  rw [h0] at hz hk
  obtain ⟨t2, a1, b1⟩ := kk T'.heap (locs ++ L1) ho (by rw [e1]; exact hP)
    ⟨Nat.le_trans hS.1 (by rw [e1]; exact hz), fun q h1 h2 => by rw [e1, hk q (Nat.lt_of_lt_of_le h1 hS.1) (fun z => h2 (AA_up hS.1 q z))]; exact hS.2.1 q h1 h2, fun q hq => by
      rcases List.mem_append.mp hq with h | h
      · exact hS.2.2 q h
      · exact AA_up hS.1 _ (hL q h)⟩ T' rfl X'
  exact ⟨t2, st t2 a1, b1⟩
theorem pc_blind {G : Gd} {sz : Nat} {vs : List Value} : FrameBlind (va_Pc vs (fun U => U.heap.size = sz ∧ va_P G.1 vwCl (wo L G σ) U.heap ∧ va_K G.1 vwCl (tys G) U ∧ va_D (fun _ => True) (wo L G σ))) := by
  intro a U g mk q
  obtain ⟨q0, q1, qP, qK, qD⟩ := q
  exact ⟨q0, q1, qP, va_K.moved (u := U) (U := U.calling g mk a) (Vm.Alike.refl U.vm) qK, qD⟩
theorem pc_at {G : Gd} {s : State} {H : Heap} {locs : List Loc} {vs : List Value} (hK : va_K G.1 vwCl (tys G) s) (hW : WD L G s σ H locs) : ∀ U : State, U.heap = H → s.WarmedH U.vm → va_Pc vs (fun U => U.heap.size = H.size ∧ va_P G.1 vwCl (wo L G σ) U.heap ∧ va_K G.1 vwCl (tys G) U ∧ va_D (fun _ => True) (wo L G σ)) vs.toArray U := by
  intro U hU hw
  exact ⟨rfl, by rw [hU], by rw [hU]; exact hW.1, va_K.moved hw.alike hK, hW.2.1.weaken (fun _ _ _ _ => trivial)⟩
/-- an object's method, called from a method -/
theorem aw_callV {q ci n : Nat} {as : List AV} (hd : decode M.2.1 pc = .ok (.invokevirtual idx, 3)) (hl : Cond.methodLink M.1.cls idx M2.1 ∈ gtb) (hm : MK M2 n) (hv : MV M2) (hR : RF M2 M) (hq : PL L q ci) (hci : ∃ (T : u_T) (N : Nat), vwCl[ci]? = some (M2.1.cls, T, N)) (hn : as.length = n) (hst : stw st ≤ 8)
    (hc : CT L M2 (vR (some q) :: as) σ r2) (k : AW L M r (pc + 3) ls (r2.1.toList ++ st) r2.2) : AW L M r pc ls (as.reverse ++ vR (some q) :: st) σ := by
  intro p l e s m args below meth c G H locs lsA hX hW hO hl2
  obtain ⟨T, N, hcl⟩ := hci
  have hts := hX.2.2.2.2.2.2.1
  have hK := hX.2.2.2.2.2.2.2
  have hM := hc (fun w hw => by
    rcases List.mem_cons.mp hw with rfl | hw
    · trivial
    · exact hO.2.1 w (List.mem_append_left _ (List.mem_reverse.mpr hw))) hO.2.2 l G H.size
  have cb := callB_of (R := M.2.2.2.2) (own := M.1.cls) (index := idx) (bytes := M2.2.1) (maxL := M2.2.2.1) (ret := M2.2.2.2.1) n hts (good_M hm) rfl hm.2.2.2.1 hm.2.2.2.2 (hts _ hm.2.1) (hts _ hl) hm.2.2.1 hR
  have hrun := va_runV (b := G.2.2 q) (As := as.map (cv G)) (rest := st.map (cv G)) (C := M2.1.cls) (locs := locs) (cells := 0) (slots := 0) (below := below) (meth := meth) (e := e) (g := F0 m pc lsA ((as.reverse ++ vR (some q) :: st).map (cv G))) ⟨hX.1, hX.2.1, hX.2.2.1, hX.2.2.2.2.2.1, hts⟩ hM ⟨cb, hts _ hv.1, hts _ hv.2⟩ ⟨pc_blind, va_recv hK hW.1 hcl (wo_at' hq.1 (ce_obj hq.2.1)), pc_at hK hW⟩ rfl (by simp [hn]) hl2.1 (by simp [cv]) (by show 2 * 0 + _ ≤ 8; rw [stw_sum]; omega) hd ⟨Nat.zero_le _, Nat.zero_le _⟩
  refine aw_run hrun hW.2.2 (fun H1 locs1 ho hP1 hS1 => ?_)
  have K := k p l e s m args below meth c G H1 locs1 lsA hX ⟨hP1, va_D_wo hW.2.1, hS1⟩ ⟨hO.1, fun w hw => ?_, ho.2⟩ hl2
  · rw [List.map_append] at K
    cases hr1 : r2.1 with
    | none => rw [hr1] at K; exact K
    | some v => rw [hr1] at K; exact K
  · rcases List.mem_append.mp hw with h | h
    · exact ho.1 w (Option.mem_toList.mp h)
    · exact hO.2.1 w (List.mem_append_right _ (List.mem_cons_of_mem _ h))
/-- a static method -/
theorem aw_callS {n : Nat} {as : List AV} (hd : decode M.2.1 pc = .ok (.invokestatic idx, 3)) (hl : Cond.methodLink M.1.cls idx M2.1 ∈ gtb) (hm : MK M2 n) (hv : Cond.static M2.1 ∈ gtb) (hR : RF M2 M) (hn : as.length = n) (hst : stw st ≤ 8)
    (hc : CT L M2 as σ r2) (k : AW L M r (pc + 3) ls (r2.1.toList ++ st) r2.2) : AW L M r pc ls (as.reverse ++ st) σ := by
  intro p l e s m args below meth c G H locs lsA hX hW hO hl2
  have hts := hX.2.2.2.2.2.2.1
  have hK := hX.2.2.2.2.2.2.2
  have hM := hc (fun w hw => hO.2.1 w (List.mem_append_left _ (List.mem_reverse.mpr hw))) hO.2.2 l G H.size
  have cb := callB_of (R := M.2.2.2.2) (own := M.1.cls) (index := idx) (bytes := M2.2.1) (maxL := M2.2.2.1) (ret := M2.2.2.2.1) n hts (good_M hm) rfl hm.2.2.2.1 hm.2.2.2.2 (hts _ hm.2.1) (hts _ hl) hm.2.2.1 hR
  have hrun := va_runS (As := as.map (cv G)) (rest := st.map (cv G)) (locs := locs) (cells := 0) (slots := 0) (below := below) (meth := meth) (e := e) (g := F0 m pc lsA ((as.reverse ++ st).map (cv G))) ⟨hX.1, hX.2.1, hX.2.2.1, hX.2.2.2.2.2.1, hts⟩ hM ⟨cb, hts _ hv⟩ ⟨pc_blind, pc_at hK hW⟩ rfl (by simp [hn]) hl2.1 (by simp) (by show 2 * 0 + _ ≤ 8; rw [stw_sum]; omega) hd ⟨Nat.zero_le _, Nat.zero_le _⟩
  refine aw_run hrun hW.2.2 (fun H1 locs1 ho hP1 hS1 => ?_)
  have K := k p l e s m args below meth c G H1 locs1 lsA hX ⟨hP1, va_D_wo hW.2.1, hS1⟩ ⟨hO.1, fun w hw => ?_, ho.2⟩ hl2
  · rw [List.map_append] at K
    cases hr1 : r2.1 with
    | none => rw [hr1] at K; exact K
    | some v => rw [hr1] at K; exact K
  · rcases List.mem_append.mp hw with h | h
    · exact ho.1 w (Option.mem_toList.mp h)
    · exact hO.2.1 w (List.mem_append_right _ h)
theorem aw_max {a b : Int} (hd : decode M.2.1 pc = .ok (.invokestatic idx, 3)) (hl : Cond.methodLink M.1.cls idx Lib.Math.max.name ∈ gtb) (h1 : Cond.static Lib.Math.max.name ∈ gtb) (h2 : Cond.initialized "java/lang/Math" ∈ gtb) (h3 : Cond.code Lib.Math.max.name Lib.Math.max.code 2 (some .int) ∈ gtb) (hf : 1 ≤ M.2.2.2.2.frames ∧ 21 ≤ M.2.2.2.2.locals) (hst : stw st ≤ 8) (k : AW L M r (pc + 3) ls (vI (if a < b then b else a) :: st) σ) : AW L M r pc ls (vI b :: vI a :: st) σ := by
  intro p l e s m args below meth c G H locs lsA hX hW hO hv
  have hts := hX.2.2.2.2.2.2.1
  have ha : IR a := at_1 hO
  have hb : IR b := at_0 hO
  have K := k p l e s m args below meth c G H locs lsA hX hW (ok_push hO in_2 (by show IR (if a < b then b else a); split <;> assumption)) hv
  refine va_mmax hX.1 hX.2.1 (hX.2.2.1.trans hv.1.symm) hX.2.2.2.2.2.1 (hts _ hl) (hts _ h1) (hts _ h2) (hts _ h3) hf.1 (by rw [stw_sum]; omega) (Nat.zero_le _) (Nat.zero_le _) hd ?_
  have e1 : (if Int32.ofInt a < Int32.ofInt b then Int32.ofInt b else Int32.ofInt a) = Int32.ofInt (if a < b then b else a) := by
    simp only [oi_lt ha hb]
    split <;> rfl
  rw [e1]
  exact K
theorem aw_min {a b : Int} (hd : decode M.2.1 pc = .ok (.invokestatic idx, 3)) (hl : Cond.methodLink M.1.cls idx Lib.Math.min.name ∈ gtb) (h1 : Cond.static Lib.Math.min.name ∈ gtb) (h2 : Cond.initialized "java/lang/Math" ∈ gtb) (h3 : Cond.code Lib.Math.min.name Lib.Math.min.code 2 (some .int) ∈ gtb) (hf : 1 ≤ M.2.2.2.2.frames ∧ 21 ≤ M.2.2.2.2.locals) (hst : stw st ≤ 8) (k : AW L M r (pc + 3) ls (vI (if b < a then b else a) :: st) σ) : AW L M r pc ls (vI b :: vI a :: st) σ := by
  intro p l e s m args below meth c G H locs lsA hX hW hO hv
  have hts := hX.2.2.2.2.2.2.1
  have ha : IR a := at_1 hO
  have hb : IR b := at_0 hO
  have K := k p l e s m args below meth c G H locs lsA hX hW (ok_push hO in_2 (by show IR (if b < a then b else a); split <;> assumption)) hv
  refine va_mmin hX.1 hX.2.1 (hX.2.2.1.trans hv.1.symm) hX.2.2.2.2.2.1 (hts _ hl) (hts _ h1) (hts _ h2) (hts _ h3) hf.1 (by rw [stw_sum]; omega) (Nat.zero_le _) (Nat.zero_le _) hd ?_
  have e1 : (if Int32.ofInt b < Int32.ofInt a then Int32.ofInt b else Int32.ofInt a) = Int32.ofInt (if b < a then b else a) := by
    simp only [oi_lt hb ha]
    split <;> rfl
  rw [e1]
  exact K
/-- a copy of ints out of one place into another -/
def cpy (σ : SS) (q0 q1 i j n : Nat) : SS := fun q k => if q = q1 ∧ j ≤ k ∧ k < j + n then σ q0 (i + (k - j)) else σ q k
theorem aw_copy {q0 q1 n0 n1 : Nat} {i j n : Int} (hd : decode M.2.1 pc = .ok (.invokestatic idx, 3)) (hl : Cond.methodLink M.1.cls idx arraycopyName ∈ gtb) (h1 : Cond.native arraycopyName ∈ gtb) (h2 : Cond.static arraycopyName ∈ gtb) (h3 : Cond.initialized "java/lang/System" ∈ gtb) (hq0 : AR L q0 0 n0) (hq1 : AR L q1 0 n1) (hi : 0 ≤ i ∧ 0 ≤ j ∧ 0 ≤ n ∧ i + n ≤ n0 ∧ j + n ≤ n1) (hf : 1 ≤ M.2.2.2.2.frames ∧ 8 + (nativeFrameWords "java/lang/System" "arraycopy" 5 + 11) ≤ M.2.2.2.2.locals) (hst : stw st ≤ 8) (k : ∀ σ1, σ1 = cpy σ q0 q1 i.toNat j.toNat n.toNat → AW L M r (pc + 3) ls st σ1) : AW L M r pc ls (vI n :: vI j :: vR (some q1) :: vI i :: vR (some q0) :: st) σ := by
  intro p l e s m args below meth c G H locs lsA hX hW hO hv
  have hts := hX.2.2.2.2.2.2.1
  obtain ⟨a1, a2, a3⟩ := hq0
  obtain ⟨b1, b2, b3⟩ := hq1
  have hn : IR n := at_0 hO
  have hj : IR j := at_1 hO
  have hii : IR i := hO.2.1 (vI i) (by simp)
  have nlt : ∀ {x : Int}, IR x → 0 ≤ x → ¬ Int32.ofInt x < 0 := fun {x} hx h q => by
    have := (oi_lt hx IR_0).mp q
    omega
  refine va_copyi (ty := .int) hX.1 hX.2.1 (hX.2.2.1.trans hv.1.symm) hX.2.2.2.2.2.1 (hts _ hl) (hts _ h1) (hts _ h2) (hts _ h3) hX.2.2.2.2.2.2.2 hW.1 hW.2.1 hW.2.2 q0 q1 0 0 (wo_at' a1 (by unfold ce; rw [if_pos a2])) (wo_at' b1 (by unfold ce; rw [if_pos b2])) rfl rfl rfl (nlt hii hi.1) (nlt hj hi.2.1) (nlt hn hi.2.2.1) (by rw [oi_nat hii, oi_nat hn, a3]; omega) (by rw [oi_nat hj, oi_nat hn, b3]; omega) (fun _ _ => rfl) hf.1 (by rw [stw_sum]; omega) hd (fun H1 locs1 hP1 hD1 hS1 => ?_)
  have e1 : va_cpy (fun x => Int32.ofInt (σ q0 x)) (fun x => Int32.ofInt (σ q1 x)) (Int32.ofInt i).toNatClampNeg (Int32.ofInt j).toNatClampNeg (Int32.ofInt n).toNatClampNeg = fun x => Int32.ofInt (cpy σ q0 q1 i.toNat j.toNat n.toNat q1 x) := by
    rw [oi_nat hii, oi_nat hj, oi_nat hn]
    funext x
    simp only [va_cpy, cpy, true_and]
    split <;> rfl
  have off : ∀ p, p ≠ q1 → ∀ x, cpy σ q0 q1 i.toNat j.toNat n.toNat p x = σ p x := by
    intro p hp x
    simp [cpy, hp]
  rw [e1, wo_set (σ' := cpy σ q0 q1 i.toNat j.toNat n.toNat) b1 (by unfold ce; rw [if_pos b2]) off] at hP1 hD1
  refine k _ rfl p l e s m args below meth c G H1 locs1 lsA hX ⟨hP1, hD1, hS1⟩ ⟨hO.1, fun w hw => hO.2.1 w (by simp [hw]), fun q x => ?_⟩ hv
  unfold cpy
  split <;> exact hO.2.2 _ _
/-- a method's entry: where its arguments lie -/
def lsO : List AV → List (Option AV)
  | [] => []
  | v :: t => if isL v then some v :: none :: lsO t else some v :: lsO t
theorem lsO_args (G : Gd) : ∀ (vs : List AV) (b i : Nat) (w : AV), (lsO vs)[i]? = some (some w) → (b + i, cv G w) ∈ lv_args b (vs.map (cv G))
  | [], b, i, w, h => by simp [lsO] at h
  | v :: t, b, i, w, h => by
      have hc := cat_cv (G := G) (v := v)
      cases hv : isL v with
      | true =>
        rw [hv] at hc
        simp only [lsO, hv, if_true] at h
        simp only [List.map_cons, lv_args, hc, if_true]
        match i, h with
        | 0, h =>
          have e : v = w := by simpa using h
          subst e
          exact List.mem_cons_self
        | 1, h => simp at h
        | i + 2, h =>
          have := lsO_args G t (b + 2) i w (by simpa using h)
          refine List.mem_cons_of_mem _ ?_
          rw [show b + (i + 2) = b + 2 + i by omega]
          exact this
      | false =>
        rw [hv] at hc
        simp only [lsO, hv] at h
        simp only [List.map_cons, lv_args, hc]
        match i, h with
        | 0, h =>
          have e : v = w := by simpa using h
          subst e
          exact List.mem_cons_self
        | i + 1, h =>
          have := lsO_args G t (b + 1) i w (by simpa using h)
          refine List.mem_cons_of_mem _ ?_
          rw [show b + (i + 1) = b + 1 + i by omega]
          exact this
theorem lsO_mem : ∀ (vs : List AV) (w : AV), some w ∈ lsO vs → w ∈ vs
  | [], w, h => by simp [lsO] at h
  | v :: t, w, h => by
      cases hv : isL v with
      | true =>
        simp only [lsO, hv, if_true] at h
        rcases List.mem_cons.mp h with h | h
        · rw [Option.some.inj h]; exact List.mem_cons_self
        · rcases List.mem_cons.mp h with h | h
          · cases h
          · exact List.mem_cons_of_mem _ (lsO_mem t w h)
      | false =>
        simp only [lsO, hv] at h
        rcases List.mem_cons.mp h with h | h
        · rw [Option.some.inj h]; exact List.mem_cons_self
        · exact List.mem_cons_of_mem _ (lsO_mem t w h)
theorem ct_of {vs : List AV} {n : Nat} (hp : plainName M.1.cls = true) (hw : (vs.map (fun v => if isL v then 2 else 1)).sum ≤ M.2.2.1) (k : AW L M r 0 (lsO vs ++ List.replicate n none) [] σ) : CT L M vs σ r := by
  intro hvs hσ l G sz
  refine Met.ofW (cc := M.2.1) (maxL := M.2.2.1) (ret := M.2.2.2.1) hp rfl ?_
  intro p e s m args below meth c s₁ B hml hv
  obtain ⟨rfl, hsz, hP, hK, hD0⟩ := hv
  have hts := atoms_spec (ws := wsM M) B.pre
  have hown : s.vm.findClass M.1.cls = some m.cls := findClass_of_methodNamed B.named
  subst hsz
  have hD := hD0.self (sz := s.heap.size)
  rw [va_A_wo] at hD
  have hlen : ∀ us : List AV, (lg_sl (us.map (cv G))).length = (us.map (fun v => if isL v then 2 else 1)).sum := by
    intro us
    induction us with
    | nil => rfl
    | cons v t ih =>
      simp only [List.map_cons, List.sum_cons, ← ih]
      cases hv : isL v with
      | true => rcases v with a | a | _ | a <;> first | (cases hv; done) | (simp [lg_sl, cv, Value.category]; omega)
      | false => rcases v with a | a | _ | a <;> first | (cases hv; done) | (simp [lg_sl, cv, Value.category]; omega)
  have hl := lv_entry (vs.map (cv G)) (n := M.2.2.1) (by rw [hlen]; exact hw)
  rw [lg_entry_eq]
  have hl2 := lv_less (l' := LVs G (lsO vs ++ List.replicate n none)) hl (fun x hx => by
    obtain ⟨w, h1, h2⟩ := LVs_mem.mp hx
    rcases x with ⟨i, u⟩
    dsimp only at h1 h2
    subst h2
    by_cases hi : i < (lsO vs).length
    · rw [List.getElem?_append_left hi] at h1
      have := lsO_args G vs 0 i w h1
      rwa [Nat.zero_add] at this
    · rw [List.getElem?_append_right (by omega)] at h1
      have h3 := List.mem_of_getElem? h1
      cases (List.eq_of_mem_replicate h3))
  refine k p l e s m _ below meth c G s.heap [] _ ⟨B.exec, B.bytes, hml, B.returns, B.notSynchronized, hown, fun w hw => hts w (List.mem_cons_of_mem _ hw), hK⟩ ⟨hP, hD, va_S.rf⟩ ⟨fun v hv => ?_, fun w hw => ?_, hσ⟩ hl2
  · rcases List.mem_append.mp hv with h | h
    · exact hvs v (lsO_mem vs v h)
    · have h2 := List.eq_of_mem_replicate h
      cases h2
  · cases hw
end Calls2
