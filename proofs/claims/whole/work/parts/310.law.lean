/-! ===== the law over two worlds ===== -/
def GM (G : Gd) (am : Nat → Nat) : Gd := (G.1, G.2.1, am)
/-- the two worlds, side by side -/
def L2 (L1 L2 : Lay) (G1 G2 : Gd) (s : State) (c m : SS) (H : Heap) (locs : List Loc) : Prop :=
  va_P G1.1 vwCl (wo L1 G1 c) H ∧ va_P G2.1 vwCl (wo L2 G2 m) H ∧ va_D (fun q : Nat => s.heap.size ≤ q) (wo L1 G1 c) ∧ va_D (fun q : Nat => s.heap.size ≤ q) (wo L2 G2 m) ∧ (∀ i, i < L1.1 → ∀ j, j < L2.1 → G1.2.2 i ≠ G2.2.2 j) ∧ va_S (fun q : Nat => s.heap.size ≤ q) s.heap H locs ∧ (∀ q k, IR (c q k)) ∧ (∀ q k, IR (m q k))
theorem L2.swap {L1 L2' : Lay} {G1 G2 : Gd} {s : State} {c m : SS} {H : Heap} {locs : List Loc} (h : L2 L1 L2' G1 G2 s c m H locs) : L2 L2' L1 G2 G1 s m c H locs :=
  ⟨h.2.1, h.1, h.2.2.2.1, h.2.2.1, fun i hi j hj e => h.2.2.2.2.1 j hj i hi e.symm, h.2.2.2.2.2.1, h.2.2.2.2.2.2.2, h.2.2.2.2.2.2.1⟩
section LawRules
variable {p : Program} {l : Launch} {e : Env} {s : State} {m : MethodId} {below : List Frame} {meth : Method} {c : Code} {H : Heap} {locs : List Loc} {cells slots : Nat} {Q : State → Prop} {b Ln : Nat} {xs : Nat → Int32}
variable {pc : Nat} {ls : Array Slot} {rest : List Value} {La Lb : Lay} {Ga Gb : Gd} {σa σb : SS}
theorem lw_call {M2 : MI} {n idx ci : Nat} {as : List AV} {r : AV} {σ1 : SS} (hx : p.tables.exec = Jvm.exec) (hb : c.code = code) (hml : c.maxLocals = 4) (hown : s.vm.findClass R_law = some m.cls) (hts : ∀ w ∈ gtb, w.before #[Value.ref b] s = true) (hK : va_K Ga.1 vwCl (tys Ga) s) (hls : ls.size = 4)
    (hd : decode code pc = .ok (.invokevirtual idx, 3)) (hlk : Cond.methodLink R_law idx M2.1 ∈ gtb) (hm : MK M2 n) (hv : MV M2) (hR : M2.2.2.2.2.frames + 1 ≤ room_1.frames ∧ 8 + (M2.2.2.1 + 11) + M2.2.2.2.2.locals ≤ room_1.locals) (hq : PL La 0 ci) (hci : ∃ (T : u_T) (N : Nat), vwCl[ci]? = some (M2.1.cls, T, N)) (hn : as.length = n) (hst : (rest.map fun v => v.category).sum ≤ 8) (hc0 : cells ≤ room_1.cells) (hs0 : slots ≤ room_1.slots)
    (hok : ∀ v ∈ as, okv v) (hc : CT La M2 (vR (some 0) :: as) σa (some r, σ1)) (hw : L2 La Lb Ga Gb s σa σb H locs)
    (kk : ∀ (H1 : Heap) (locs1 : List Loc), okv r → L2 La Lb Ga Gb s σ1 σb H1 locs1 → W p l e room_1 s m #[Value.ref b] below meth c H1 locs1 cells slots Q (F0 m (pc + 3) ls (cv Ga r :: rest))) :
    W p l e room_1 s m #[Value.ref b] below meth c H locs cells slots Q (F0 m pc ls ((as.map (cv Ga)).reverse ++ .ref (Ga.2.2 0) :: rest)) := by
  obtain ⟨hP, hP2, hD, hD2, hne, hS, hi1, hi2⟩ := hw
  obtain ⟨T, N, hcl⟩ := hci
  have hM := hc (fun w hw => by
    rcases List.mem_cons.mp hw with rfl | hw
    · trivial
    · exact hok w hw) hi1 l Ga H.size
  have cb := callB_of (R := room_1) (own := R_law) (index := idx) (bytes := M2.2.1) (maxL := M2.2.2.1) (ret := M2.2.2.2.1) n hts (good_M hm) rfl hm.2.2.2.1 hm.2.2.2.2 (hts _ hm.2.1) (hts _ hlk) hm.2.2.1 hR
  have hrun := va_runV (b := Ga.2.2 0) (As := as.map (cv Ga)) (rest := rest) (C := M2.1.cls) (locs := locs) (cells := cells) (slots := slots) (below := below) (meth := meth) (e := e) (g := F0 m pc ls ((as.map (cv Ga)).reverse ++ .ref (Ga.2.2 0) :: rest)) ⟨hx, hb, hml, hown, hts⟩ hM ⟨cb, hts _ hv.1, hts _ hv.2⟩ ⟨pc_blind, va_recv hK hP hcl (wo_at' hq.1 (ce_obj hq.2.1)), fun U hU hw => ⟨rfl, by rw [hU], by rw [hU]; exact hP, va_K.moved hw.alike hK, hD.weaken (fun _ _ _ _ => trivial)⟩⟩ rfl (by simp [hn]) hls rfl (lv_room hst) hd ⟨hc0, hs0⟩
  intro T0 hT X
  obtain ⟨v, st₀, t, T', L1, h0, X', hL, e1, e2, ⟨⟨hv1, ho, hP1, hK1⟩, hz, hk⟩, st⟩ := hrun T0 hT X
  obtain rfl : v = (some r).map (cv Ga) := by injection hv1
  rw [h0] at hz hk
  have up1 : ∀ q, AA La Ga H.size q → s.heap.size ≤ q := by
    rintro q (⟨i, ee, h⟩ | h)
    · obtain ⟨hi, he⟩ := wo_get h
      have := hD.2 i _ (wo_at hi)
      rw [Prod.mk.injEq] at he
      rw [he.1]
      exact this
    · exact Nat.le_trans hS.1 h
  have hk2 : ∀ (k : Nat) (x : Nat × va_E), (wo Lb Gb σb)[k]? = some x → T'.heap[x.1]? = H[x.1]? := by
    intro k x hx2
    have hlt := (hP2 k x hx2).lt
    rw [e1]
    refine hk x.1 hlt ?_
    rintro (⟨i, ee, h⟩ | h)
    · obtain ⟨hi, he⟩ := wo_get h
      obtain ⟨hj, rfl⟩ := wo_get hx2
      rw [Prod.mk.injEq] at he
      exact hne i hi k hj he.1.symm
    · omega
  have hS1 : va_S (fun q : Nat => s.heap.size ≤ q) s.heap T'.heap (locs ++ L1) :=
    ⟨Nat.le_trans hS.1 (by rw [e1]; exact hz), fun q h1 h2 => by rw [e1, hk q (Nat.lt_of_lt_of_le h1 hS.1) (fun z => h2 (up1 q z))]; exact hS.2.1 q h1 h2, fun q hq => by
      rcases List.mem_append.mp hq with h | h
      · exact hS.2.2 q h
      · exact up1 _ (hL q h)⟩
  obtain ⟨t2, a1, b1⟩ := kk T'.heap (locs ++ L1) (ho.1 r rfl) ⟨by rw [e1]; exact hP1, hP2.kept hk2, va_D_wo hD, hD2, hne, hS1, ho.2, hi2⟩ T' rfl X'
  exact ⟨t2, st t2 a1, b1⟩
/-- an int of the script, pushed -/
theorem lw_arg {i k : Nat} {lv : List (Nat × Value)} (hx : p.tables.exec = Jvm.exec) (hb : c.code = code) (hX : va_X b Ln xs s s.heap) (hbl : b < s.heap.size) (hS : va_S (fun q : Nat => s.heap.size ≤ q) s.heap H locs) (hl0 : ls[0]? = some (.val (.ref b))) (hl3 : ls[3]? = some (.val (.int (Int32.ofInt i)))) (hi : i + k < Ln) (hL : Ln ≤ 3072) {kI : Int} (hkI : kI = k)
    (d1 : decode code pc = .ok (.aload_n 0, 1)) (d2 : decode code (pc + 1) = .ok (.iload_n 3, 1)) (d3 : decode code (pc + 2) = .ok (.iconst kI, 1)) (d4 : decode code (pc + 3) = .ok (.iadd, 1)) (d5 : decode code (pc + 4) = .ok (.iaload, 1))
    (kk : W p l e room_1 s m #[Value.ref b] below meth c H locs cells slots Q (F0 m (pc + 5) ls (.int (Int32.ofInt (xs (i + k)).toInt) :: rest))) : W p l e room_1 s m #[Value.ref b] below meth c H locs cells slots Q (F0 m pc ls rest) := by
  subst hkI
  have hbA : ¬ (fun q : Nat => s.heap.size ≤ q) b := Nat.not_le.mpr hbl
  refine lv_aload_n hx hb d1 rfl hl0 ?_
  refine lv_iload_n hx hb d2 rfl hl3 ?_
  refine lv_iconst hx hb d3 rfl ?_
  refine lv_iadd hx hb d4 ?_
  have hR : IR ((i + k : Nat) : Int) := ⟨by omega, by omega⟩
  have e0 : Int32.ofInt (i : Int) + Int32.ofInt (k : Int) = Int32.ofInt ((i + k : Nat) : Int) := by rw [oi_add]; rfl
  rw [e0]
  refine va_sld hx hb hX hbl hbA hS (oi_in hR (by omega)) d5 ?_
  rw [oi_nat hR, show ((i + k : Nat) : Int).toNat = i + k from rfl]
  rw [Int32.ofInt_toInt] at kk
  exact kk
end LawRules
theorem ll_13 : Cond.methodLink RL 13 yX6_type ∈ gtb := gtb_in 325 (by decide +kernel) (by decide +kernel)
theorem ll_17 : Cond.methodLink RL 17 yX7_type ∈ gtb := gtb_in 826 (by decide +kernel) (by decide +kernel)
theorem ll_18 : Cond.methodLink RL 18 yX6_wipe ∈ gtb := gtb_in 518 (by decide +kernel) (by decide +kernel)
theorem ll_22 : Cond.methodLink RL 22 yX7_wipe ∈ gtb := gtb_in 833 (by decide +kernel) (by decide +kernel)
theorem ll_23 : Cond.methodLink RL 23 yX6_undo ∈ gtb := gtb_in 522 (by decide +kernel) (by decide +kernel)
theorem ll_26 : Cond.methodLink RL 26 yX7_undo ∈ gtb := gtb_in 837 (by decide +kernel) (by decide +kernel)
theorem ll_27 : Cond.methodLink RL 27 yX6_fault ∈ gtb := gtb_in 526 (by decide +kernel) (by decide +kernel)
theorem ll_30 : Cond.methodLink RL 30 yX7_fault ∈ gtb := gtb_in 857 (by decide +kernel) (by decide +kernel)
theorem ll_31 : Cond.methodLink RL 31 yX6_width ∈ gtb := gtb_in 530 (by decide +kernel) (by decide +kernel)
theorem ll_34 : Cond.methodLink RL 34 yX7_width ∈ gtb := gtb_in 841 (by decide +kernel) (by decide +kernel)
theorem ll_35 : Cond.methodLink RL 35 yX6_read ∈ gtb := gtb_in 534 (by decide +kernel) (by decide +kernel)
theorem ll_38 : Cond.methodLink RL 38 yX7_read ∈ gtb := gtb_in 845 (by decide +kernel) (by decide +kernel)
theorem ll_39 : Cond.methodLink RL 39 yX6_part ∈ gtb := gtb_in 554 (by decide +kernel) (by decide +kernel)
theorem ll_43 : Cond.methodLink RL 43 yX7_part ∈ gtb := gtb_in 879 (by decide +kernel) (by decide +kernel)
theorem ll_44 : Cond.methodLink RL 44 yX6_frontier ∈ gtb := gtb_in 560 (by decide +kernel) (by decide +kernel)
theorem ll_48 : Cond.methodLink RL 48 yX7_frontier ∈ gtb := gtb_in 942 (by decide +kernel) (by decide +kernel)
theorem ll_49 : Cond.methodLink RL 49 yX6_tried ∈ gtb := gtb_in 564 (by decide +kernel) (by decide +kernel)
theorem ll_52 : Cond.methodLink RL 52 yX7_tried ∈ gtb := gtb_in 953 (by decide +kernel) (by decide +kernel)
theorem ll_53 : Cond.methodLink RL 53 yX6_best ∈ gtb := gtb_in 568 (by decide +kernel) (by decide +kernel)
theorem ll_56 : Cond.methodLink RL 56 yX7_best ∈ gtb := gtb_in 961 (by decide +kernel) (by decide +kernel)
theorem ll_57 : Cond.methodLink RL 57 yX6_line ∈ gtb := gtb_in 572 (by decide +kernel) (by decide +kernel)
theorem ll_60 : Cond.methodLink RL 60 yX7_line ∈ gtb := gtb_in 996 (by decide +kernel) (by decide +kernel)
theorem ll_61 : Cond.methodLink RL 61 yX6_way ∈ gtb := gtb_in 590 (by decide +kernel) (by decide +kernel)
theorem ll_64 : Cond.methodLink RL 64 yX7_way ∈ gtb := gtb_in 977 (by decide +kernel) (by decide +kernel)
theorem ll_65 : Cond.methodLink RL 65 yX6_haste ∈ gtb := gtb_in 598 (by decide +kernel) (by decide +kernel)
theorem ll_68 : Cond.methodLink RL 68 yX7_haste ∈ gtb := gtb_in 1024 (by decide +kernel) (by decide +kernel)
theorem ll_69 : Cond.methodLink RL 69 yX6_enough ∈ gtb := gtb_in 614 (by decide +kernel) (by decide +kernel)
theorem ll_72 : Cond.methodLink RL 72 yX7_enough ∈ gtb := gtb_in 1044 (by decide +kernel) (by decide +kernel)
theorem ll_73 : Cond.methodLink RL 73 yX6_shrinks ∈ gtb := gtb_in 618 (by decide +kernel) (by decide +kernel)
theorem ll_76 : Cond.methodLink RL 76 yX7_shrinks ∈ gtb := gtb_in 1056 (by decide +kernel) (by decide +kernel)
theorem ll_77 : Cond.methodLink RL 77 yX6_spare ∈ gtb := gtb_in 626 (by decide +kernel) (by decide +kernel)
theorem ll_80 : Cond.methodLink RL 80 yX7_spare ∈ gtb := gtb_in 1068 (by decide +kernel) (by decide +kernel)
theorem ll_81 : Cond.methodLink RL 81 yX6_sheet ∈ gtb := gtb_in 640 (by decide +kernel) (by decide +kernel)
theorem ll_84 : Cond.methodLink RL 84 yX7_sheet ∈ gtb := gtb_in 1088 (by decide +kernel) (by decide +kernel)
theorem ll_85 : Cond.methodLink RL 85 yX6_lose ∈ gtb := gtb_in 651 (by decide +kernel) (by decide +kernel)
theorem ll_88 : Cond.methodLink RL 88 yX7_lose ∈ gtb := gtb_in 1092 (by decide +kernel) (by decide +kernel)
theorem ll_89 : Cond.methodLink RL 89 yX6_put ∈ gtb := gtb_in 655 (by decide +kernel) (by decide +kernel)
theorem ll_93 : Cond.methodLink RL 93 yX7_put ∈ gtb := gtb_in 1096 (by decide +kernel) (by decide +kernel)
theorem ll_94 : Cond.methodLink RL 94 yX6_get ∈ gtb := gtb_in 670 (by decide +kernel) (by decide +kernel)
theorem ll_97 : Cond.methodLink RL 97 yX7_get ∈ gtb := gtb_in 1108 (by decide +kernel) (by decide +kernel)
theorem ll_98 : Cond.methodLink RL 98 yX6_copy ∈ gtb := gtb_in 675 (by decide +kernel) (by decide +kernel)
theorem ll_102 : Cond.methodLink RL 102 yX7_copy ∈ gtb := gtb_in 1113 (by decide +kernel) (by decide +kernel)
theorem ll_103 : Cond.methodLink RL 103 yX6_write ∈ gtb := gtb_in 682 (by decide +kernel) (by decide +kernel)
theorem ll_106 : Cond.methodLink RL 106 yX7_write ∈ gtb := gtb_in 1117 (by decide +kernel) (by decide +kernel)
theorem ll_107 : Cond.methodLink RL 107 yX6_count ∈ gtb := gtb_in 688 (by decide +kernel) (by decide +kernel)
theorem ll_110 : Cond.methodLink RL 110 yX7_count ∈ gtb := gtb_in 1121 (by decide +kernel) (by decide +kernel)
theorem ll_111 : Cond.methodLink RL 111 yX6_digest ∈ gtb := gtb_in 694 (by decide +kernel) (by decide +kernel)
theorem ll_115 : Cond.methodLink RL 115 yX7_digest ∈ gtb := gtb_in 1137 (by decide +kernel) (by decide +kernel)
/-- one call on both: the same answer, the states tied again -/
def SOK (f : Int → AV) (MC MM : MI) (n : Nat) (I : SS → SS → Prop) : Prop := ∀ (c m : SS) (as : List Int), as.length = n → (∀ a ∈ as, IR a) → (∀ q k, IR (c q k)) → (∀ q k, IR (m q k)) → I c m → ∃ (x : Int) (c' m' : SS), CT LC MC (vR (some 0) :: as.map vI) c (some (f x), c') ∧ CT LM MM (vR (some 0) :: as.map vI) m (some (f x), m') ∧ I c' m'
set_option maxHeartbeats 4000000 in
theorem lo_0 {p : Program} {l : Launch} {e : Env} {s : State} {m : MethodId} {below : List Frame} {meth : Method} {c : Code} {H : Heap} {locs : List Loc} {cells slots : Nat} {Q : State → Prop} {b Ln i : Nat} {xs : Nat → Int32} {ls : Array Slot} {G : Gd} {am : Nat → Nat} {sc sm : SS} {I : SS → SS → Prop}
    (hx : p.tables.exec = Jvm.exec) (hb : c.code = code) (hml : c.maxLocals = 4) (hown : s.vm.findClass R_law = some m.cls) (hts : ∀ w ∈ gtb, w.before #[Value.ref b] s = true) (hK : va_K G.1 vwCl (tys G) s) (hX : va_X b Ln xs s s.heap) (hbl : b < s.heap.size) (hL : Ln ≤ 3072) (hi : i + 6 ≤ Ln)
    (hc0 : cells ≤ room_1.cells) (hs0 : slots ≤ room_1.slots) (hl : lv_has ls 4 [(0, .ref b), (1, .ref (G.2.2 0)), (2, .ref (am 0)), (3, .int (Int32.ofInt i))]) (hw : L2 LC LM G (GM G am) s sc sm H locs) (hI : I sc sm) (hS : SOK vI M_X6_type M_X7_type 1 I)
    (kk : ∀ (c' m' : SS) (H1 : Heap) (locs1 : List Loc), I c' m' → L2 LC LM G (GM G am) s c' m' H1 locs1 → W p l e room_1 s m #[Value.ref b] below meth c H1 locs1 cells slots Q (F0 m 807 ls [])) : W p l e room_1 s m #[Value.ref b] below meth c H locs cells slots Q (F0 m 144 ls []) := by
  have hokI : ∀ a ∈ [(xs (i + 1)).toInt], IR a := by
    intro a ha
    simp only [List.mem_cons, List.not_mem_nil, or_false] at ha
    subst ha; exact IR_32 _
  have hok : ∀ v ∈ [(xs (i + 1)).toInt].map vI, okv v := by
    intro v hv
    obtain ⟨a, ha, rfl⟩ := List.mem_map.mp hv
    exact hokI a ha
  obtain ⟨x, c', m', h1, h2, hI2⟩ := hS sc sm [(xs (i + 1)).toInt] rfl hokI hw.2.2.2.2.2.2.1 hw.2.2.2.2.2.2.2 hI
  refine lv_aload_n hx hb dL_law_144 rfl (lv_at hl 1 rfl) ?_
  refine lw_arg (k := 1) (lv := []) hx hb hX hbl hw.2.2.2.2.2.1 (lv_at hl 0 rfl) (lv_at hl 3 rfl) (by omega) hL rfl dL_law_145 dL_law_146 dL_law_147 dL_law_148 dL_law_149 ?_
  refine lw_call (M2 := M_X6_type) (ls := ls) (as := [(xs (i + 1)).toInt].map vI) (La := LC) (Lb := LM) (Ga := G) (Gb := GM G am) (rest := []) hx hb hml hown hts hK hl.1 dL_law_150 ll_13 mk_X6_type mv_X6_type ⟨Nat.le_of_ble_eq_true rfl, Nat.le_of_ble_eq_true rfl⟩ pC_0 ⟨_, _, rfl⟩ rfl (Nat.le_of_ble_eq_true rfl) hc0 hs0 hok h1 hw (fun H1 locs1 hr hw => ?_)
  refine lv_aload_n hx hb dL_law_153 rfl (lv_at hl 2 rfl) ?_
  refine lw_arg (k := 1) (lv := []) hx hb hX hbl hw.2.2.2.2.2.1 (lv_at hl 0 rfl) (lv_at hl 3 rfl) (by omega) hL rfl dL_law_154 dL_law_155 dL_law_156 dL_law_157 dL_law_158 ?_
  refine lw_call (M2 := M_X7_type) (ls := ls) (as := [(xs (i + 1)).toInt].map vI) (La := LM) (Lb := LC) (Ga := GM G am) (Gb := G) (rest := [cv G (vI x)]) hx hb hml hown hts hK hl.1 dL_law_159 ll_17 mk_X7_type mv_X7_type ⟨Nat.le_of_ble_eq_true rfl, Nat.le_of_ble_eq_true rfl⟩ pM_0 ⟨_, _, rfl⟩ rfl (Nat.le_of_ble_eq_true rfl) hc0 hs0 hok h2 hw.swap (fun H1 locs1 hr hw => ?_)
  refine lv_icmp_eq (tgt := 807) (x := Int32.ofInt x) (y := Int32.ofInt x) hx hb dL_law_162 (by decide) (fun _ => kk c' m' H1 locs1 hI2 hw.swap) (fun h => absurd rfl h)
set_option maxHeartbeats 4000000 in
theorem lo_1 {p : Program} {l : Launch} {e : Env} {s : State} {m : MethodId} {below : List Frame} {meth : Method} {c : Code} {H : Heap} {locs : List Loc} {cells slots : Nat} {Q : State → Prop} {b Ln i : Nat} {xs : Nat → Int32} {ls : Array Slot} {G : Gd} {am : Nat → Nat} {sc sm : SS} {I : SS → SS → Prop}
    (hx : p.tables.exec = Jvm.exec) (hb : c.code = code) (hml : c.maxLocals = 4) (hown : s.vm.findClass R_law = some m.cls) (hts : ∀ w ∈ gtb, w.before #[Value.ref b] s = true) (hK : va_K G.1 vwCl (tys G) s) (hX : va_X b Ln xs s s.heap) (hbl : b < s.heap.size) (hL : Ln ≤ 3072) (hi : i + 6 ≤ Ln)
    (hc0 : cells ≤ room_1.cells) (hs0 : slots ≤ room_1.slots) (hl : lv_has ls 4 [(0, .ref b), (1, .ref (G.2.2 0)), (2, .ref (am 0)), (3, .int (Int32.ofInt i))]) (hw : L2 LC LM G (GM G am) s sc sm H locs) (hI : I sc sm) (hS : SOK vI M_X6_wipe M_X7_wipe 0 I)
    (kk : ∀ (c' m' : SS) (H1 : Heap) (locs1 : List Loc), I c' m' → L2 LC LM G (GM G am) s c' m' H1 locs1 → W p l e room_1 s m #[Value.ref b] below meth c H1 locs1 cells slots Q (F0 m 807 ls [])) : W p l e room_1 s m #[Value.ref b] below meth c H locs cells slots Q (F0 m 167 ls []) := by
  have hokI : ∀ a ∈ ([] : List Int), IR a := by
    intro a ha
    skip
    cases ha
  have hok : ∀ v ∈ ([] : List Int).map vI, okv v := by
    intro v hv
    obtain ⟨a, ha, rfl⟩ := List.mem_map.mp hv
    exact hokI a ha
  obtain ⟨x, c', m', h1, h2, hI2⟩ := hS sc sm [] rfl hokI hw.2.2.2.2.2.2.1 hw.2.2.2.2.2.2.2 hI
  refine lv_aload_n hx hb dL_law_167 rfl (lv_at hl 1 rfl) ?_
  refine lw_call (M2 := M_X6_wipe) (ls := ls) (as := [].map vI) (La := LC) (Lb := LM) (Ga := G) (Gb := GM G am) (rest := []) hx hb hml hown hts hK hl.1 dL_law_168 ll_18 mk_X6_wipe mv_X6_wipe ⟨Nat.le_of_ble_eq_true rfl, Nat.le_of_ble_eq_true rfl⟩ pC_0 ⟨_, _, rfl⟩ rfl (Nat.le_of_ble_eq_true rfl) hc0 hs0 hok h1 hw (fun H1 locs1 hr hw => ?_)
  refine lv_aload_n hx hb dL_law_171 rfl (lv_at hl 2 rfl) ?_
  refine lw_call (M2 := M_X7_wipe) (ls := ls) (as := [].map vI) (La := LM) (Lb := LC) (Ga := GM G am) (Gb := G) (rest := [cv G (vI x)]) hx hb hml hown hts hK hl.1 dL_law_172 ll_22 mk_X7_wipe mv_X7_wipe ⟨Nat.le_of_ble_eq_true rfl, Nat.le_of_ble_eq_true rfl⟩ pM_0 ⟨_, _, rfl⟩ rfl (Nat.le_of_ble_eq_true rfl) hc0 hs0 hok h2 hw.swap (fun H1 locs1 hr hw => ?_)
  refine lv_icmp_eq (tgt := 807) (x := Int32.ofInt x) (y := Int32.ofInt x) hx hb dL_law_175 (by decide) (fun _ => kk c' m' H1 locs1 hI2 hw.swap) (fun h => absurd rfl h)
set_option maxHeartbeats 4000000 in
theorem lo_2 {p : Program} {l : Launch} {e : Env} {s : State} {m : MethodId} {below : List Frame} {meth : Method} {c : Code} {H : Heap} {locs : List Loc} {cells slots : Nat} {Q : State → Prop} {b Ln i : Nat} {xs : Nat → Int32} {ls : Array Slot} {G : Gd} {am : Nat → Nat} {sc sm : SS} {I : SS → SS → Prop}
    (hx : p.tables.exec = Jvm.exec) (hb : c.code = code) (hml : c.maxLocals = 4) (hown : s.vm.findClass R_law = some m.cls) (hts : ∀ w ∈ gtb, w.before #[Value.ref b] s = true) (hK : va_K G.1 vwCl (tys G) s) (hX : va_X b Ln xs s s.heap) (hbl : b < s.heap.size) (hL : Ln ≤ 3072) (hi : i + 6 ≤ Ln)
    (hc0 : cells ≤ room_1.cells) (hs0 : slots ≤ room_1.slots) (hl : lv_has ls 4 [(0, .ref b), (1, .ref (G.2.2 0)), (2, .ref (am 0)), (3, .int (Int32.ofInt i))]) (hw : L2 LC LM G (GM G am) s sc sm H locs) (hI : I sc sm) (hS : SOK vI M_X6_undo M_X7_undo 0 I)
    (kk : ∀ (c' m' : SS) (H1 : Heap) (locs1 : List Loc), I c' m' → L2 LC LM G (GM G am) s c' m' H1 locs1 → W p l e room_1 s m #[Value.ref b] below meth c H1 locs1 cells slots Q (F0 m 807 ls [])) : W p l e room_1 s m #[Value.ref b] below meth c H locs cells slots Q (F0 m 180 ls []) := by
  have hokI : ∀ a ∈ ([] : List Int), IR a := by
    intro a ha
    skip
    cases ha
  have hok : ∀ v ∈ ([] : List Int).map vI, okv v := by
    intro v hv
    obtain ⟨a, ha, rfl⟩ := List.mem_map.mp hv
    exact hokI a ha
  obtain ⟨x, c', m', h1, h2, hI2⟩ := hS sc sm [] rfl hokI hw.2.2.2.2.2.2.1 hw.2.2.2.2.2.2.2 hI
  refine lv_aload_n hx hb dL_law_180 rfl (lv_at hl 1 rfl) ?_
  refine lw_call (M2 := M_X6_undo) (ls := ls) (as := [].map vI) (La := LC) (Lb := LM) (Ga := G) (Gb := GM G am) (rest := []) hx hb hml hown hts hK hl.1 dL_law_181 ll_23 mk_X6_undo mv_X6_undo ⟨Nat.le_of_ble_eq_true rfl, Nat.le_of_ble_eq_true rfl⟩ pC_0 ⟨_, _, rfl⟩ rfl (Nat.le_of_ble_eq_true rfl) hc0 hs0 hok h1 hw (fun H1 locs1 hr hw => ?_)
  refine lv_aload_n hx hb dL_law_184 rfl (lv_at hl 2 rfl) ?_
  refine lw_call (M2 := M_X7_undo) (ls := ls) (as := [].map vI) (La := LM) (Lb := LC) (Ga := GM G am) (Gb := G) (rest := [cv G (vI x)]) hx hb hml hown hts hK hl.1 dL_law_185 ll_26 mk_X7_undo mv_X7_undo ⟨Nat.le_of_ble_eq_true rfl, Nat.le_of_ble_eq_true rfl⟩ pM_0 ⟨_, _, rfl⟩ rfl (Nat.le_of_ble_eq_true rfl) hc0 hs0 hok h2 hw.swap (fun H1 locs1 hr hw => ?_)
  refine lv_icmp_eq (tgt := 807) (x := Int32.ofInt x) (y := Int32.ofInt x) hx hb dL_law_188 (by decide) (fun _ => kk c' m' H1 locs1 hI2 hw.swap) (fun h => absurd rfl h)
set_option maxHeartbeats 4000000 in
theorem lo_3 {p : Program} {l : Launch} {e : Env} {s : State} {m : MethodId} {below : List Frame} {meth : Method} {c : Code} {H : Heap} {locs : List Loc} {cells slots : Nat} {Q : State → Prop} {b Ln i : Nat} {xs : Nat → Int32} {ls : Array Slot} {G : Gd} {am : Nat → Nat} {sc sm : SS} {I : SS → SS → Prop}
    (hx : p.tables.exec = Jvm.exec) (hb : c.code = code) (hml : c.maxLocals = 4) (hown : s.vm.findClass R_law = some m.cls) (hts : ∀ w ∈ gtb, w.before #[Value.ref b] s = true) (hK : va_K G.1 vwCl (tys G) s) (hX : va_X b Ln xs s s.heap) (hbl : b < s.heap.size) (hL : Ln ≤ 3072) (hi : i + 6 ≤ Ln)
    (hc0 : cells ≤ room_1.cells) (hs0 : slots ≤ room_1.slots) (hl : lv_has ls 4 [(0, .ref b), (1, .ref (G.2.2 0)), (2, .ref (am 0)), (3, .int (Int32.ofInt i))]) (hw : L2 LC LM G (GM G am) s sc sm H locs) (hI : I sc sm) (hS : SOK vI M_X6_fault M_X7_fault 0 I)
    (kk : ∀ (c' m' : SS) (H1 : Heap) (locs1 : List Loc), I c' m' → L2 LC LM G (GM G am) s c' m' H1 locs1 → W p l e room_1 s m #[Value.ref b] below meth c H1 locs1 cells slots Q (F0 m 807 ls [])) : W p l e room_1 s m #[Value.ref b] below meth c H locs cells slots Q (F0 m 193 ls []) := by
  have hokI : ∀ a ∈ ([] : List Int), IR a := by
    intro a ha
    skip
    cases ha
  have hok : ∀ v ∈ ([] : List Int).map vI, okv v := by
    intro v hv
    obtain ⟨a, ha, rfl⟩ := List.mem_map.mp hv
    exact hokI a ha
  obtain ⟨x, c', m', h1, h2, hI2⟩ := hS sc sm [] rfl hokI hw.2.2.2.2.2.2.1 hw.2.2.2.2.2.2.2 hI
  refine lv_aload_n hx hb dL_law_193 rfl (lv_at hl 1 rfl) ?_
  refine lw_call (M2 := M_X6_fault) (ls := ls) (as := [].map vI) (La := LC) (Lb := LM) (Ga := G) (Gb := GM G am) (rest := []) hx hb hml hown hts hK hl.1 dL_law_194 ll_27 mk_X6_fault mv_X6_fault ⟨Nat.le_of_ble_eq_true rfl, Nat.le_of_ble_eq_true rfl⟩ pC_0 ⟨_, _, rfl⟩ rfl (Nat.le_of_ble_eq_true rfl) hc0 hs0 hok h1 hw (fun H1 locs1 hr hw => ?_)
  refine lv_aload_n hx hb dL_law_197 rfl (lv_at hl 2 rfl) ?_
  refine lw_call (M2 := M_X7_fault) (ls := ls) (as := [].map vI) (La := LM) (Lb := LC) (Ga := GM G am) (Gb := G) (rest := [cv G (vI x)]) hx hb hml hown hts hK hl.1 dL_law_198 ll_30 mk_X7_fault mv_X7_fault ⟨Nat.le_of_ble_eq_true rfl, Nat.le_of_ble_eq_true rfl⟩ pM_0 ⟨_, _, rfl⟩ rfl (Nat.le_of_ble_eq_true rfl) hc0 hs0 hok h2 hw.swap (fun H1 locs1 hr hw => ?_)
  refine lv_icmp_eq (tgt := 807) (x := Int32.ofInt x) (y := Int32.ofInt x) hx hb dL_law_201 (by decide) (fun _ => kk c' m' H1 locs1 hI2 hw.swap) (fun h => absurd rfl h)
set_option maxHeartbeats 4000000 in
theorem lo_4 {p : Program} {l : Launch} {e : Env} {s : State} {m : MethodId} {below : List Frame} {meth : Method} {c : Code} {H : Heap} {locs : List Loc} {cells slots : Nat} {Q : State → Prop} {b Ln i : Nat} {xs : Nat → Int32} {ls : Array Slot} {G : Gd} {am : Nat → Nat} {sc sm : SS} {I : SS → SS → Prop}
    (hx : p.tables.exec = Jvm.exec) (hb : c.code = code) (hml : c.maxLocals = 4) (hown : s.vm.findClass R_law = some m.cls) (hts : ∀ w ∈ gtb, w.before #[Value.ref b] s = true) (hK : va_K G.1 vwCl (tys G) s) (hX : va_X b Ln xs s s.heap) (hbl : b < s.heap.size) (hL : Ln ≤ 3072) (hi : i + 6 ≤ Ln)
    (hc0 : cells ≤ room_1.cells) (hs0 : slots ≤ room_1.slots) (hl : lv_has ls 4 [(0, .ref b), (1, .ref (G.2.2 0)), (2, .ref (am 0)), (3, .int (Int32.ofInt i))]) (hw : L2 LC LM G (GM G am) s sc sm H locs) (hI : I sc sm) (hS : SOK vI M_X6_width M_X7_width 1 I)
    (kk : ∀ (c' m' : SS) (H1 : Heap) (locs1 : List Loc), I c' m' → L2 LC LM G (GM G am) s c' m' H1 locs1 → W p l e room_1 s m #[Value.ref b] below meth c H1 locs1 cells slots Q (F0 m 807 ls [])) : W p l e room_1 s m #[Value.ref b] below meth c H locs cells slots Q (F0 m 206 ls []) := by
  have hokI : ∀ a ∈ [(xs (i + 1)).toInt], IR a := by
    intro a ha
    simp only [List.mem_cons, List.not_mem_nil, or_false] at ha
    subst ha; exact IR_32 _
  have hok : ∀ v ∈ [(xs (i + 1)).toInt].map vI, okv v := by
    intro v hv
    obtain ⟨a, ha, rfl⟩ := List.mem_map.mp hv
    exact hokI a ha
  obtain ⟨x, c', m', h1, h2, hI2⟩ := hS sc sm [(xs (i + 1)).toInt] rfl hokI hw.2.2.2.2.2.2.1 hw.2.2.2.2.2.2.2 hI
  refine lv_aload_n hx hb dL_law_206 rfl (lv_at hl 1 rfl) ?_
  refine lw_arg (k := 1) (lv := []) hx hb hX hbl hw.2.2.2.2.2.1 (lv_at hl 0 rfl) (lv_at hl 3 rfl) (by omega) hL rfl dL_law_207 dL_law_208 dL_law_209 dL_law_210 dL_law_211 ?_
  refine lw_call (M2 := M_X6_width) (ls := ls) (as := [(xs (i + 1)).toInt].map vI) (La := LC) (Lb := LM) (Ga := G) (Gb := GM G am) (rest := []) hx hb hml hown hts hK hl.1 dL_law_212 ll_31 mk_X6_width mv_X6_width ⟨Nat.le_of_ble_eq_true rfl, Nat.le_of_ble_eq_true rfl⟩ pC_0 ⟨_, _, rfl⟩ rfl (Nat.le_of_ble_eq_true rfl) hc0 hs0 hok h1 hw (fun H1 locs1 hr hw => ?_)
  refine lv_aload_n hx hb dL_law_215 rfl (lv_at hl 2 rfl) ?_
  refine lw_arg (k := 1) (lv := []) hx hb hX hbl hw.2.2.2.2.2.1 (lv_at hl 0 rfl) (lv_at hl 3 rfl) (by omega) hL rfl dL_law_216 dL_law_217 dL_law_218 dL_law_219 dL_law_220 ?_
  refine lw_call (M2 := M_X7_width) (ls := ls) (as := [(xs (i + 1)).toInt].map vI) (La := LM) (Lb := LC) (Ga := GM G am) (Gb := G) (rest := [cv G (vI x)]) hx hb hml hown hts hK hl.1 dL_law_221 ll_34 mk_X7_width mv_X7_width ⟨Nat.le_of_ble_eq_true rfl, Nat.le_of_ble_eq_true rfl⟩ pM_0 ⟨_, _, rfl⟩ rfl (Nat.le_of_ble_eq_true rfl) hc0 hs0 hok h2 hw.swap (fun H1 locs1 hr hw => ?_)
  refine lv_icmp_eq (tgt := 807) (x := Int32.ofInt x) (y := Int32.ofInt x) hx hb dL_law_224 (by decide) (fun _ => kk c' m' H1 locs1 hI2 hw.swap) (fun h => absurd rfl h)
set_option maxHeartbeats 4000000 in
theorem lo_5 {p : Program} {l : Launch} {e : Env} {s : State} {m : MethodId} {below : List Frame} {meth : Method} {c : Code} {H : Heap} {locs : List Loc} {cells slots : Nat} {Q : State → Prop} {b Ln i : Nat} {xs : Nat → Int32} {ls : Array Slot} {G : Gd} {am : Nat → Nat} {sc sm : SS} {I : SS → SS → Prop}
    (hx : p.tables.exec = Jvm.exec) (hb : c.code = code) (hml : c.maxLocals = 4) (hown : s.vm.findClass R_law = some m.cls) (hts : ∀ w ∈ gtb, w.before #[Value.ref b] s = true) (hK : va_K G.1 vwCl (tys G) s) (hX : va_X b Ln xs s s.heap) (hbl : b < s.heap.size) (hL : Ln ≤ 3072) (hi : i + 6 ≤ Ln)
    (hc0 : cells ≤ room_1.cells) (hs0 : slots ≤ room_1.slots) (hl : lv_has ls 4 [(0, .ref b), (1, .ref (G.2.2 0)), (2, .ref (am 0)), (3, .int (Int32.ofInt i))]) (hw : L2 LC LM G (GM G am) s sc sm H locs) (hI : I sc sm) (hS : SOK vI M_X6_read M_X7_read 1 I)
    (kk : ∀ (c' m' : SS) (H1 : Heap) (locs1 : List Loc), I c' m' → L2 LC LM G (GM G am) s c' m' H1 locs1 → W p l e room_1 s m #[Value.ref b] below meth c H1 locs1 cells slots Q (F0 m 807 ls [])) : W p l e room_1 s m #[Value.ref b] below meth c H locs cells slots Q (F0 m 229 ls []) := by
  have hokI : ∀ a ∈ [(xs (i + 1)).toInt], IR a := by
    intro a ha
    simp only [List.mem_cons, List.not_mem_nil, or_false] at ha
    subst ha; exact IR_32 _
  have hok : ∀ v ∈ [(xs (i + 1)).toInt].map vI, okv v := by
    intro v hv
    obtain ⟨a, ha, rfl⟩ := List.mem_map.mp hv
    exact hokI a ha
  obtain ⟨x, c', m', h1, h2, hI2⟩ := hS sc sm [(xs (i + 1)).toInt] rfl hokI hw.2.2.2.2.2.2.1 hw.2.2.2.2.2.2.2 hI
  refine lv_aload_n hx hb dL_law_229 rfl (lv_at hl 1 rfl) ?_
  refine lw_arg (k := 1) (lv := []) hx hb hX hbl hw.2.2.2.2.2.1 (lv_at hl 0 rfl) (lv_at hl 3 rfl) (by omega) hL rfl dL_law_230 dL_law_231 dL_law_232 dL_law_233 dL_law_234 ?_
  refine lw_call (M2 := M_X6_read) (ls := ls) (as := [(xs (i + 1)).toInt].map vI) (La := LC) (Lb := LM) (Ga := G) (Gb := GM G am) (rest := []) hx hb hml hown hts hK hl.1 dL_law_235 ll_35 mk_X6_read mv_X6_read ⟨Nat.le_of_ble_eq_true rfl, Nat.le_of_ble_eq_true rfl⟩ pC_0 ⟨_, _, rfl⟩ rfl (Nat.le_of_ble_eq_true rfl) hc0 hs0 hok h1 hw (fun H1 locs1 hr hw => ?_)
  refine lv_aload_n hx hb dL_law_238 rfl (lv_at hl 2 rfl) ?_
  refine lw_arg (k := 1) (lv := []) hx hb hX hbl hw.2.2.2.2.2.1 (lv_at hl 0 rfl) (lv_at hl 3 rfl) (by omega) hL rfl dL_law_239 dL_law_240 dL_law_241 dL_law_242 dL_law_243 ?_
  refine lw_call (M2 := M_X7_read) (ls := ls) (as := [(xs (i + 1)).toInt].map vI) (La := LM) (Lb := LC) (Ga := GM G am) (Gb := G) (rest := [cv G (vI x)]) hx hb hml hown hts hK hl.1 dL_law_244 ll_38 mk_X7_read mv_X7_read ⟨Nat.le_of_ble_eq_true rfl, Nat.le_of_ble_eq_true rfl⟩ pM_0 ⟨_, _, rfl⟩ rfl (Nat.le_of_ble_eq_true rfl) hc0 hs0 hok h2 hw.swap (fun H1 locs1 hr hw => ?_)
  refine lv_icmp_eq (tgt := 807) (x := Int32.ofInt x) (y := Int32.ofInt x) hx hb dL_law_247 (by decide) (fun _ => kk c' m' H1 locs1 hI2 hw.swap) (fun h => absurd rfl h)
set_option maxHeartbeats 4000000 in
theorem lo_6 {p : Program} {l : Launch} {e : Env} {s : State} {m : MethodId} {below : List Frame} {meth : Method} {c : Code} {H : Heap} {locs : List Loc} {cells slots : Nat} {Q : State → Prop} {b Ln i : Nat} {xs : Nat → Int32} {ls : Array Slot} {G : Gd} {am : Nat → Nat} {sc sm : SS} {I : SS → SS → Prop}
    (hx : p.tables.exec = Jvm.exec) (hb : c.code = code) (hml : c.maxLocals = 4) (hown : s.vm.findClass R_law = some m.cls) (hts : ∀ w ∈ gtb, w.before #[Value.ref b] s = true) (hK : va_K G.1 vwCl (tys G) s) (hX : va_X b Ln xs s s.heap) (hbl : b < s.heap.size) (hL : Ln ≤ 3072) (hi : i + 6 ≤ Ln)
    (hc0 : cells ≤ room_1.cells) (hs0 : slots ≤ room_1.slots) (hl : lv_has ls 4 [(0, .ref b), (1, .ref (G.2.2 0)), (2, .ref (am 0)), (3, .int (Int32.ofInt i))]) (hw : L2 LC LM G (GM G am) s sc sm H locs) (hI : I sc sm) (hS : SOK vI M_X6_part M_X7_part 2 I)
    (kk : ∀ (c' m' : SS) (H1 : Heap) (locs1 : List Loc), I c' m' → L2 LC LM G (GM G am) s c' m' H1 locs1 → W p l e room_1 s m #[Value.ref b] below meth c H1 locs1 cells slots Q (F0 m 807 ls [])) : W p l e room_1 s m #[Value.ref b] below meth c H locs cells slots Q (F0 m 252 ls []) := by
  have hokI : ∀ a ∈ [(xs (i + 1)).toInt, (xs (i + 2)).toInt], IR a := by
    intro a ha
    simp only [List.mem_cons, List.not_mem_nil, or_false] at ha
    rcases ha with rfl | rfl <;> exact IR_32 _
  have hok : ∀ v ∈ [(xs (i + 1)).toInt, (xs (i + 2)).toInt].map vI, okv v := by
    intro v hv
    obtain ⟨a, ha, rfl⟩ := List.mem_map.mp hv
    exact hokI a ha
  obtain ⟨x, c', m', h1, h2, hI2⟩ := hS sc sm [(xs (i + 1)).toInt, (xs (i + 2)).toInt] rfl hokI hw.2.2.2.2.2.2.1 hw.2.2.2.2.2.2.2 hI
  refine lv_aload_n hx hb dL_law_252 rfl (lv_at hl 1 rfl) ?_
  refine lw_arg (k := 1) (lv := []) hx hb hX hbl hw.2.2.2.2.2.1 (lv_at hl 0 rfl) (lv_at hl 3 rfl) (by omega) hL rfl dL_law_253 dL_law_254 dL_law_255 dL_law_256 dL_law_257 ?_
  refine lw_arg (k := 2) (lv := []) hx hb hX hbl hw.2.2.2.2.2.1 (lv_at hl 0 rfl) (lv_at hl 3 rfl) (by omega) hL rfl dL_law_258 dL_law_259 dL_law_260 dL_law_261 dL_law_262 ?_
  refine lw_call (M2 := M_X6_part) (ls := ls) (as := [(xs (i + 1)).toInt, (xs (i + 2)).toInt].map vI) (La := LC) (Lb := LM) (Ga := G) (Gb := GM G am) (rest := []) hx hb hml hown hts hK hl.1 dL_law_263 ll_39 mk_X6_part mv_X6_part ⟨Nat.le_of_ble_eq_true rfl, Nat.le_of_ble_eq_true rfl⟩ pC_0 ⟨_, _, rfl⟩ rfl (Nat.le_of_ble_eq_true rfl) hc0 hs0 hok h1 hw (fun H1 locs1 hr hw => ?_)
  refine lv_aload_n hx hb dL_law_266 rfl (lv_at hl 2 rfl) ?_
  refine lw_arg (k := 1) (lv := []) hx hb hX hbl hw.2.2.2.2.2.1 (lv_at hl 0 rfl) (lv_at hl 3 rfl) (by omega) hL rfl dL_law_267 dL_law_268 dL_law_269 dL_law_270 dL_law_271 ?_
  refine lw_arg (k := 2) (lv := []) hx hb hX hbl hw.2.2.2.2.2.1 (lv_at hl 0 rfl) (lv_at hl 3 rfl) (by omega) hL rfl dL_law_272 dL_law_273 dL_law_274 dL_law_275 dL_law_276 ?_
  refine lw_call (M2 := M_X7_part) (ls := ls) (as := [(xs (i + 1)).toInt, (xs (i + 2)).toInt].map vI) (La := LM) (Lb := LC) (Ga := GM G am) (Gb := G) (rest := [cv G (vI x)]) hx hb hml hown hts hK hl.1 dL_law_277 ll_43 mk_X7_part mv_X7_part ⟨Nat.le_of_ble_eq_true rfl, Nat.le_of_ble_eq_true rfl⟩ pM_0 ⟨_, _, rfl⟩ rfl (Nat.le_of_ble_eq_true rfl) hc0 hs0 hok h2 hw.swap (fun H1 locs1 hr hw => ?_)
  refine lv_icmp_eq (tgt := 807) (x := Int32.ofInt x) (y := Int32.ofInt x) hx hb dL_law_280 (by decide) (fun _ => kk c' m' H1 locs1 hI2 hw.swap) (fun h => absurd rfl h)
set_option maxHeartbeats 4000000 in
theorem lo_7 {p : Program} {l : Launch} {e : Env} {s : State} {m : MethodId} {below : List Frame} {meth : Method} {c : Code} {H : Heap} {locs : List Loc} {cells slots : Nat} {Q : State → Prop} {b Ln i : Nat} {xs : Nat → Int32} {ls : Array Slot} {G : Gd} {am : Nat → Nat} {sc sm : SS} {I : SS → SS → Prop}
    (hx : p.tables.exec = Jvm.exec) (hb : c.code = code) (hml : c.maxLocals = 4) (hown : s.vm.findClass R_law = some m.cls) (hts : ∀ w ∈ gtb, w.before #[Value.ref b] s = true) (hK : va_K G.1 vwCl (tys G) s) (hX : va_X b Ln xs s s.heap) (hbl : b < s.heap.size) (hL : Ln ≤ 3072) (hi : i + 6 ≤ Ln)
    (hc0 : cells ≤ room_1.cells) (hs0 : slots ≤ room_1.slots) (hl : lv_has ls 4 [(0, .ref b), (1, .ref (G.2.2 0)), (2, .ref (am 0)), (3, .int (Int32.ofInt i))]) (hw : L2 LC LM G (GM G am) s sc sm H locs) (hI : I sc sm) (hS : SOK vI M_X6_frontier M_X7_frontier 3 I)
    (kk : ∀ (c' m' : SS) (H1 : Heap) (locs1 : List Loc), I c' m' → L2 LC LM G (GM G am) s c' m' H1 locs1 → W p l e room_1 s m #[Value.ref b] below meth c H1 locs1 cells slots Q (F0 m 807 ls [])) : W p l e room_1 s m #[Value.ref b] below meth c H locs cells slots Q (F0 m 285 ls []) := by
  have hokI : ∀ a ∈ [(xs (i + 1)).toInt, (xs (i + 2)).toInt, (xs (i + 3)).toInt], IR a := by
    intro a ha
    simp only [List.mem_cons, List.not_mem_nil, or_false] at ha
    rcases ha with rfl | rfl | rfl <;> exact IR_32 _
  have hok : ∀ v ∈ [(xs (i + 1)).toInt, (xs (i + 2)).toInt, (xs (i + 3)).toInt].map vI, okv v := by
    intro v hv
    obtain ⟨a, ha, rfl⟩ := List.mem_map.mp hv
    exact hokI a ha
  obtain ⟨x, c', m', h1, h2, hI2⟩ := hS sc sm [(xs (i + 1)).toInt, (xs (i + 2)).toInt, (xs (i + 3)).toInt] rfl hokI hw.2.2.2.2.2.2.1 hw.2.2.2.2.2.2.2 hI
  refine lv_aload_n hx hb dL_law_285 rfl (lv_at hl 1 rfl) ?_
  refine lw_arg (k := 1) (lv := []) hx hb hX hbl hw.2.2.2.2.2.1 (lv_at hl 0 rfl) (lv_at hl 3 rfl) (by omega) hL rfl dL_law_286 dL_law_287 dL_law_288 dL_law_289 dL_law_290 ?_
  refine lw_arg (k := 2) (lv := []) hx hb hX hbl hw.2.2.2.2.2.1 (lv_at hl 0 rfl) (lv_at hl 3 rfl) (by omega) hL rfl dL_law_291 dL_law_292 dL_law_293 dL_law_294 dL_law_295 ?_
  refine lw_arg (k := 3) (lv := []) hx hb hX hbl hw.2.2.2.2.2.1 (lv_at hl 0 rfl) (lv_at hl 3 rfl) (by omega) hL rfl dL_law_296 dL_law_297 dL_law_298 dL_law_299 dL_law_300 ?_
  refine lw_call (M2 := M_X6_frontier) (ls := ls) (as := [(xs (i + 1)).toInt, (xs (i + 2)).toInt, (xs (i + 3)).toInt].map vI) (La := LC) (Lb := LM) (Ga := G) (Gb := GM G am) (rest := []) hx hb hml hown hts hK hl.1 dL_law_301 ll_44 mk_X6_frontier mv_X6_frontier ⟨Nat.le_of_ble_eq_true rfl, Nat.le_of_ble_eq_true rfl⟩ pC_0 ⟨_, _, rfl⟩ rfl (Nat.le_of_ble_eq_true rfl) hc0 hs0 hok h1 hw (fun H1 locs1 hr hw => ?_)
  refine lv_aload_n hx hb dL_law_304 rfl (lv_at hl 2 rfl) ?_
  refine lw_arg (k := 1) (lv := []) hx hb hX hbl hw.2.2.2.2.2.1 (lv_at hl 0 rfl) (lv_at hl 3 rfl) (by omega) hL rfl dL_law_305 dL_law_306 dL_law_307 dL_law_308 dL_law_309 ?_
  refine lw_arg (k := 2) (lv := []) hx hb hX hbl hw.2.2.2.2.2.1 (lv_at hl 0 rfl) (lv_at hl 3 rfl) (by omega) hL rfl dL_law_310 dL_law_311 dL_law_312 dL_law_313 dL_law_314 ?_
  refine lw_arg (k := 3) (lv := []) hx hb hX hbl hw.2.2.2.2.2.1 (lv_at hl 0 rfl) (lv_at hl 3 rfl) (by omega) hL rfl dL_law_315 dL_law_316 dL_law_317 dL_law_318 dL_law_319 ?_
  refine lw_call (M2 := M_X7_frontier) (ls := ls) (as := [(xs (i + 1)).toInt, (xs (i + 2)).toInt, (xs (i + 3)).toInt].map vI) (La := LM) (Lb := LC) (Ga := GM G am) (Gb := G) (rest := [cv G (vI x)]) hx hb hml hown hts hK hl.1 dL_law_320 ll_48 mk_X7_frontier mv_X7_frontier ⟨Nat.le_of_ble_eq_true rfl, Nat.le_of_ble_eq_true rfl⟩ pM_0 ⟨_, _, rfl⟩ rfl (Nat.le_of_ble_eq_true rfl) hc0 hs0 hok h2 hw.swap (fun H1 locs1 hr hw => ?_)
  refine lv_icmp_eq (tgt := 807) (x := Int32.ofInt x) (y := Int32.ofInt x) hx hb dL_law_323 (by decide) (fun _ => kk c' m' H1 locs1 hI2 hw.swap) (fun h => absurd rfl h)
set_option maxHeartbeats 4000000 in
theorem lo_8 {p : Program} {l : Launch} {e : Env} {s : State} {m : MethodId} {below : List Frame} {meth : Method} {c : Code} {H : Heap} {locs : List Loc} {cells slots : Nat} {Q : State → Prop} {b Ln i : Nat} {xs : Nat → Int32} {ls : Array Slot} {G : Gd} {am : Nat → Nat} {sc sm : SS} {I : SS → SS → Prop}
    (hx : p.tables.exec = Jvm.exec) (hb : c.code = code) (hml : c.maxLocals = 4) (hown : s.vm.findClass R_law = some m.cls) (hts : ∀ w ∈ gtb, w.before #[Value.ref b] s = true) (hK : va_K G.1 vwCl (tys G) s) (hX : va_X b Ln xs s s.heap) (hbl : b < s.heap.size) (hL : Ln ≤ 3072) (hi : i + 6 ≤ Ln)
    (hc0 : cells ≤ room_1.cells) (hs0 : slots ≤ room_1.slots) (hl : lv_has ls 4 [(0, .ref b), (1, .ref (G.2.2 0)), (2, .ref (am 0)), (3, .int (Int32.ofInt i))]) (hw : L2 LC LM G (GM G am) s sc sm H locs) (hI : I sc sm) (hS : SOK vI M_X6_tried M_X7_tried 1 I)
    (kk : ∀ (c' m' : SS) (H1 : Heap) (locs1 : List Loc), I c' m' → L2 LC LM G (GM G am) s c' m' H1 locs1 → W p l e room_1 s m #[Value.ref b] below meth c H1 locs1 cells slots Q (F0 m 807 ls [])) : W p l e room_1 s m #[Value.ref b] below meth c H locs cells slots Q (F0 m 328 ls []) := by
  have hokI : ∀ a ∈ [(xs (i + 1)).toInt], IR a := by
    intro a ha
    simp only [List.mem_cons, List.not_mem_nil, or_false] at ha
    subst ha; exact IR_32 _
  have hok : ∀ v ∈ [(xs (i + 1)).toInt].map vI, okv v := by
    intro v hv
    obtain ⟨a, ha, rfl⟩ := List.mem_map.mp hv
    exact hokI a ha
  obtain ⟨x, c', m', h1, h2, hI2⟩ := hS sc sm [(xs (i + 1)).toInt] rfl hokI hw.2.2.2.2.2.2.1 hw.2.2.2.2.2.2.2 hI
  refine lv_aload_n hx hb dL_law_328 rfl (lv_at hl 1 rfl) ?_
  refine lw_arg (k := 1) (lv := []) hx hb hX hbl hw.2.2.2.2.2.1 (lv_at hl 0 rfl) (lv_at hl 3 rfl) (by omega) hL rfl dL_law_329 dL_law_330 dL_law_331 dL_law_332 dL_law_333 ?_
  refine lw_call (M2 := M_X6_tried) (ls := ls) (as := [(xs (i + 1)).toInt].map vI) (La := LC) (Lb := LM) (Ga := G) (Gb := GM G am) (rest := []) hx hb hml hown hts hK hl.1 dL_law_334 ll_49 mk_X6_tried mv_X6_tried ⟨Nat.le_of_ble_eq_true rfl, Nat.le_of_ble_eq_true rfl⟩ pC_0 ⟨_, _, rfl⟩ rfl (Nat.le_of_ble_eq_true rfl) hc0 hs0 hok h1 hw (fun H1 locs1 hr hw => ?_)
  refine lv_aload_n hx hb dL_law_337 rfl (lv_at hl 2 rfl) ?_
  refine lw_arg (k := 1) (lv := []) hx hb hX hbl hw.2.2.2.2.2.1 (lv_at hl 0 rfl) (lv_at hl 3 rfl) (by omega) hL rfl dL_law_338 dL_law_339 dL_law_340 dL_law_341 dL_law_342 ?_
  refine lw_call (M2 := M_X7_tried) (ls := ls) (as := [(xs (i + 1)).toInt].map vI) (La := LM) (Lb := LC) (Ga := GM G am) (Gb := G) (rest := [cv G (vI x)]) hx hb hml hown hts hK hl.1 dL_law_343 ll_52 mk_X7_tried mv_X7_tried ⟨Nat.le_of_ble_eq_true rfl, Nat.le_of_ble_eq_true rfl⟩ pM_0 ⟨_, _, rfl⟩ rfl (Nat.le_of_ble_eq_true rfl) hc0 hs0 hok h2 hw.swap (fun H1 locs1 hr hw => ?_)
  refine lv_icmp_eq (tgt := 807) (x := Int32.ofInt x) (y := Int32.ofInt x) hx hb dL_law_346 (by decide) (fun _ => kk c' m' H1 locs1 hI2 hw.swap) (fun h => absurd rfl h)
set_option maxHeartbeats 4000000 in
theorem lo_9 {p : Program} {l : Launch} {e : Env} {s : State} {m : MethodId} {below : List Frame} {meth : Method} {c : Code} {H : Heap} {locs : List Loc} {cells slots : Nat} {Q : State → Prop} {b Ln i : Nat} {xs : Nat → Int32} {ls : Array Slot} {G : Gd} {am : Nat → Nat} {sc sm : SS} {I : SS → SS → Prop}
    (hx : p.tables.exec = Jvm.exec) (hb : c.code = code) (hml : c.maxLocals = 4) (hown : s.vm.findClass R_law = some m.cls) (hts : ∀ w ∈ gtb, w.before #[Value.ref b] s = true) (hK : va_K G.1 vwCl (tys G) s) (hX : va_X b Ln xs s s.heap) (hbl : b < s.heap.size) (hL : Ln ≤ 3072) (hi : i + 6 ≤ Ln)
    (hc0 : cells ≤ room_1.cells) (hs0 : slots ≤ room_1.slots) (hl : lv_has ls 4 [(0, .ref b), (1, .ref (G.2.2 0)), (2, .ref (am 0)), (3, .int (Int32.ofInt i))]) (hw : L2 LC LM G (GM G am) s sc sm H locs) (hI : I sc sm) (hS : SOK vI M_X6_best M_X7_best 1 I)
    (kk : ∀ (c' m' : SS) (H1 : Heap) (locs1 : List Loc), I c' m' → L2 LC LM G (GM G am) s c' m' H1 locs1 → W p l e room_1 s m #[Value.ref b] below meth c H1 locs1 cells slots Q (F0 m 807 ls [])) : W p l e room_1 s m #[Value.ref b] below meth c H locs cells slots Q (F0 m 351 ls []) := by
  have hokI : ∀ a ∈ [(xs (i + 1)).toInt], IR a := by
    intro a ha
    simp only [List.mem_cons, List.not_mem_nil, or_false] at ha
    subst ha; exact IR_32 _
  have hok : ∀ v ∈ [(xs (i + 1)).toInt].map vI, okv v := by
    intro v hv
    obtain ⟨a, ha, rfl⟩ := List.mem_map.mp hv
    exact hokI a ha
  obtain ⟨x, c', m', h1, h2, hI2⟩ := hS sc sm [(xs (i + 1)).toInt] rfl hokI hw.2.2.2.2.2.2.1 hw.2.2.2.2.2.2.2 hI
  refine lv_aload_n hx hb dL_law_351 rfl (lv_at hl 1 rfl) ?_
  refine lw_arg (k := 1) (lv := []) hx hb hX hbl hw.2.2.2.2.2.1 (lv_at hl 0 rfl) (lv_at hl 3 rfl) (by omega) hL rfl dL_law_352 dL_law_353 dL_law_354 dL_law_355 dL_law_356 ?_
  refine lw_call (M2 := M_X6_best) (ls := ls) (as := [(xs (i + 1)).toInt].map vI) (La := LC) (Lb := LM) (Ga := G) (Gb := GM G am) (rest := []) hx hb hml hown hts hK hl.1 dL_law_357 ll_53 mk_X6_best mv_X6_best ⟨Nat.le_of_ble_eq_true rfl, Nat.le_of_ble_eq_true rfl⟩ pC_0 ⟨_, _, rfl⟩ rfl (Nat.le_of_ble_eq_true rfl) hc0 hs0 hok h1 hw (fun H1 locs1 hr hw => ?_)
  refine lv_aload_n hx hb dL_law_360 rfl (lv_at hl 2 rfl) ?_
  refine lw_arg (k := 1) (lv := []) hx hb hX hbl hw.2.2.2.2.2.1 (lv_at hl 0 rfl) (lv_at hl 3 rfl) (by omega) hL rfl dL_law_361 dL_law_362 dL_law_363 dL_law_364 dL_law_365 ?_
  refine lw_call (M2 := M_X7_best) (ls := ls) (as := [(xs (i + 1)).toInt].map vI) (La := LM) (Lb := LC) (Ga := GM G am) (Gb := G) (rest := [cv G (vI x)]) hx hb hml hown hts hK hl.1 dL_law_366 ll_56 mk_X7_best mv_X7_best ⟨Nat.le_of_ble_eq_true rfl, Nat.le_of_ble_eq_true rfl⟩ pM_0 ⟨_, _, rfl⟩ rfl (Nat.le_of_ble_eq_true rfl) hc0 hs0 hok h2 hw.swap (fun H1 locs1 hr hw => ?_)
  refine lv_icmp_eq (tgt := 807) (x := Int32.ofInt x) (y := Int32.ofInt x) hx hb dL_law_369 (by decide) (fun _ => kk c' m' H1 locs1 hI2 hw.swap) (fun h => absurd rfl h)
set_option maxHeartbeats 4000000 in
theorem lo_10 {p : Program} {l : Launch} {e : Env} {s : State} {m : MethodId} {below : List Frame} {meth : Method} {c : Code} {H : Heap} {locs : List Loc} {cells slots : Nat} {Q : State → Prop} {b Ln i : Nat} {xs : Nat → Int32} {ls : Array Slot} {G : Gd} {am : Nat → Nat} {sc sm : SS} {I : SS → SS → Prop}
    (hx : p.tables.exec = Jvm.exec) (hb : c.code = code) (hml : c.maxLocals = 4) (hown : s.vm.findClass R_law = some m.cls) (hts : ∀ w ∈ gtb, w.before #[Value.ref b] s = true) (hK : va_K G.1 vwCl (tys G) s) (hX : va_X b Ln xs s s.heap) (hbl : b < s.heap.size) (hL : Ln ≤ 3072) (hi : i + 6 ≤ Ln)
    (hc0 : cells ≤ room_1.cells) (hs0 : slots ≤ room_1.slots) (hl : lv_has ls 4 [(0, .ref b), (1, .ref (G.2.2 0)), (2, .ref (am 0)), (3, .int (Int32.ofInt i))]) (hw : L2 LC LM G (GM G am) s sc sm H locs) (hI : I sc sm) (hS : SOK vI M_X6_line M_X7_line 2 I)
    (kk : ∀ (c' m' : SS) (H1 : Heap) (locs1 : List Loc), I c' m' → L2 LC LM G (GM G am) s c' m' H1 locs1 → W p l e room_1 s m #[Value.ref b] below meth c H1 locs1 cells slots Q (F0 m 807 ls [])) : W p l e room_1 s m #[Value.ref b] below meth c H locs cells slots Q (F0 m 374 ls []) := by
  have hokI : ∀ a ∈ [(xs (i + 1)).toInt, (xs (i + 2)).toInt], IR a := by
    intro a ha
    simp only [List.mem_cons, List.not_mem_nil, or_false] at ha
    rcases ha with rfl | rfl <;> exact IR_32 _
  have hok : ∀ v ∈ [(xs (i + 1)).toInt, (xs (i + 2)).toInt].map vI, okv v := by
    intro v hv
    obtain ⟨a, ha, rfl⟩ := List.mem_map.mp hv
    exact hokI a ha
  obtain ⟨x, c', m', h1, h2, hI2⟩ := hS sc sm [(xs (i + 1)).toInt, (xs (i + 2)).toInt] rfl hokI hw.2.2.2.2.2.2.1 hw.2.2.2.2.2.2.2 hI
  refine lv_aload_n hx hb dL_law_374 rfl (lv_at hl 1 rfl) ?_
  refine lw_arg (k := 1) (lv := []) hx hb hX hbl hw.2.2.2.2.2.1 (lv_at hl 0 rfl) (lv_at hl 3 rfl) (by omega) hL rfl dL_law_375 dL_law_376 dL_law_377 dL_law_378 dL_law_379 ?_
  refine lw_arg (k := 2) (lv := []) hx hb hX hbl hw.2.2.2.2.2.1 (lv_at hl 0 rfl) (lv_at hl 3 rfl) (by omega) hL rfl dL_law_380 dL_law_381 dL_law_382 dL_law_383 dL_law_384 ?_
  refine lw_call (M2 := M_X6_line) (ls := ls) (as := [(xs (i + 1)).toInt, (xs (i + 2)).toInt].map vI) (La := LC) (Lb := LM) (Ga := G) (Gb := GM G am) (rest := []) hx hb hml hown hts hK hl.1 dL_law_385 ll_57 mk_X6_line mv_X6_line ⟨Nat.le_of_ble_eq_true rfl, Nat.le_of_ble_eq_true rfl⟩ pC_0 ⟨_, _, rfl⟩ rfl (Nat.le_of_ble_eq_true rfl) hc0 hs0 hok h1 hw (fun H1 locs1 hr hw => ?_)
  refine lv_aload_n hx hb dL_law_388 rfl (lv_at hl 2 rfl) ?_
  refine lw_arg (k := 1) (lv := []) hx hb hX hbl hw.2.2.2.2.2.1 (lv_at hl 0 rfl) (lv_at hl 3 rfl) (by omega) hL rfl dL_law_389 dL_law_390 dL_law_391 dL_law_392 dL_law_393 ?_
  refine lw_arg (k := 2) (lv := []) hx hb hX hbl hw.2.2.2.2.2.1 (lv_at hl 0 rfl) (lv_at hl 3 rfl) (by omega) hL rfl dL_law_394 dL_law_395 dL_law_396 dL_law_397 dL_law_398 ?_
  refine lw_call (M2 := M_X7_line) (ls := ls) (as := [(xs (i + 1)).toInt, (xs (i + 2)).toInt].map vI) (La := LM) (Lb := LC) (Ga := GM G am) (Gb := G) (rest := [cv G (vI x)]) hx hb hml hown hts hK hl.1 dL_law_399 ll_60 mk_X7_line mv_X7_line ⟨Nat.le_of_ble_eq_true rfl, Nat.le_of_ble_eq_true rfl⟩ pM_0 ⟨_, _, rfl⟩ rfl (Nat.le_of_ble_eq_true rfl) hc0 hs0 hok h2 hw.swap (fun H1 locs1 hr hw => ?_)
  refine lv_icmp_eq (tgt := 807) (x := Int32.ofInt x) (y := Int32.ofInt x) hx hb dL_law_402 (by decide) (fun _ => kk c' m' H1 locs1 hI2 hw.swap) (fun h => absurd rfl h)
set_option maxHeartbeats 4000000 in
theorem lo_11 {p : Program} {l : Launch} {e : Env} {s : State} {m : MethodId} {below : List Frame} {meth : Method} {c : Code} {H : Heap} {locs : List Loc} {cells slots : Nat} {Q : State → Prop} {b Ln i : Nat} {xs : Nat → Int32} {ls : Array Slot} {G : Gd} {am : Nat → Nat} {sc sm : SS} {I : SS → SS → Prop}
    (hx : p.tables.exec = Jvm.exec) (hb : c.code = code) (hml : c.maxLocals = 4) (hown : s.vm.findClass R_law = some m.cls) (hts : ∀ w ∈ gtb, w.before #[Value.ref b] s = true) (hK : va_K G.1 vwCl (tys G) s) (hX : va_X b Ln xs s s.heap) (hbl : b < s.heap.size) (hL : Ln ≤ 3072) (hi : i + 6 ≤ Ln)
    (hc0 : cells ≤ room_1.cells) (hs0 : slots ≤ room_1.slots) (hl : lv_has ls 4 [(0, .ref b), (1, .ref (G.2.2 0)), (2, .ref (am 0)), (3, .int (Int32.ofInt i))]) (hw : L2 LC LM G (GM G am) s sc sm H locs) (hI : I sc sm) (hS : SOK vI M_X6_way M_X7_way 2 I)
    (kk : ∀ (c' m' : SS) (H1 : Heap) (locs1 : List Loc), I c' m' → L2 LC LM G (GM G am) s c' m' H1 locs1 → W p l e room_1 s m #[Value.ref b] below meth c H1 locs1 cells slots Q (F0 m 807 ls [])) : W p l e room_1 s m #[Value.ref b] below meth c H locs cells slots Q (F0 m 407 ls []) := by
  have hokI : ∀ a ∈ [(xs (i + 1)).toInt, (xs (i + 2)).toInt], IR a := by
    intro a ha
    simp only [List.mem_cons, List.not_mem_nil, or_false] at ha
    rcases ha with rfl | rfl <;> exact IR_32 _
  have hok : ∀ v ∈ [(xs (i + 1)).toInt, (xs (i + 2)).toInt].map vI, okv v := by
    intro v hv
    obtain ⟨a, ha, rfl⟩ := List.mem_map.mp hv
    exact hokI a ha
  obtain ⟨x, c', m', h1, h2, hI2⟩ := hS sc sm [(xs (i + 1)).toInt, (xs (i + 2)).toInt] rfl hokI hw.2.2.2.2.2.2.1 hw.2.2.2.2.2.2.2 hI
  refine lv_aload_n hx hb dL_law_407 rfl (lv_at hl 1 rfl) ?_
  refine lw_arg (k := 1) (lv := []) hx hb hX hbl hw.2.2.2.2.2.1 (lv_at hl 0 rfl) (lv_at hl 3 rfl) (by omega) hL rfl dL_law_408 dL_law_409 dL_law_410 dL_law_411 dL_law_412 ?_
  refine lw_arg (k := 2) (lv := []) hx hb hX hbl hw.2.2.2.2.2.1 (lv_at hl 0 rfl) (lv_at hl 3 rfl) (by omega) hL rfl dL_law_413 dL_law_414 dL_law_415 dL_law_416 dL_law_417 ?_
  refine lw_call (M2 := M_X6_way) (ls := ls) (as := [(xs (i + 1)).toInt, (xs (i + 2)).toInt].map vI) (La := LC) (Lb := LM) (Ga := G) (Gb := GM G am) (rest := []) hx hb hml hown hts hK hl.1 dL_law_418 ll_61 mk_X6_way mv_X6_way ⟨Nat.le_of_ble_eq_true rfl, Nat.le_of_ble_eq_true rfl⟩ pC_0 ⟨_, _, rfl⟩ rfl (Nat.le_of_ble_eq_true rfl) hc0 hs0 hok h1 hw (fun H1 locs1 hr hw => ?_)
  refine lv_aload_n hx hb dL_law_421 rfl (lv_at hl 2 rfl) ?_
  refine lw_arg (k := 1) (lv := []) hx hb hX hbl hw.2.2.2.2.2.1 (lv_at hl 0 rfl) (lv_at hl 3 rfl) (by omega) hL rfl dL_law_422 dL_law_423 dL_law_424 dL_law_425 dL_law_426 ?_
  refine lw_arg (k := 2) (lv := []) hx hb hX hbl hw.2.2.2.2.2.1 (lv_at hl 0 rfl) (lv_at hl 3 rfl) (by omega) hL rfl dL_law_427 dL_law_428 dL_law_429 dL_law_430 dL_law_431 ?_
  refine lw_call (M2 := M_X7_way) (ls := ls) (as := [(xs (i + 1)).toInt, (xs (i + 2)).toInt].map vI) (La := LM) (Lb := LC) (Ga := GM G am) (Gb := G) (rest := [cv G (vI x)]) hx hb hml hown hts hK hl.1 dL_law_432 ll_64 mk_X7_way mv_X7_way ⟨Nat.le_of_ble_eq_true rfl, Nat.le_of_ble_eq_true rfl⟩ pM_0 ⟨_, _, rfl⟩ rfl (Nat.le_of_ble_eq_true rfl) hc0 hs0 hok h2 hw.swap (fun H1 locs1 hr hw => ?_)
  refine lv_icmp_eq (tgt := 807) (x := Int32.ofInt x) (y := Int32.ofInt x) hx hb dL_law_435 (by decide) (fun _ => kk c' m' H1 locs1 hI2 hw.swap) (fun h => absurd rfl h)
set_option maxHeartbeats 4000000 in
theorem lo_12 {p : Program} {l : Launch} {e : Env} {s : State} {m : MethodId} {below : List Frame} {meth : Method} {c : Code} {H : Heap} {locs : List Loc} {cells slots : Nat} {Q : State → Prop} {b Ln i : Nat} {xs : Nat → Int32} {ls : Array Slot} {G : Gd} {am : Nat → Nat} {sc sm : SS} {I : SS → SS → Prop}
    (hx : p.tables.exec = Jvm.exec) (hb : c.code = code) (hml : c.maxLocals = 4) (hown : s.vm.findClass R_law = some m.cls) (hts : ∀ w ∈ gtb, w.before #[Value.ref b] s = true) (hK : va_K G.1 vwCl (tys G) s) (hX : va_X b Ln xs s s.heap) (hbl : b < s.heap.size) (hL : Ln ≤ 3072) (hi : i + 6 ≤ Ln)
    (hc0 : cells ≤ room_1.cells) (hs0 : slots ≤ room_1.slots) (hl : lv_has ls 4 [(0, .ref b), (1, .ref (G.2.2 0)), (2, .ref (am 0)), (3, .int (Int32.ofInt i))]) (hw : L2 LC LM G (GM G am) s sc sm H locs) (hI : I sc sm) (hS : SOK vI M_X6_haste M_X7_haste 1 I)
    (kk : ∀ (c' m' : SS) (H1 : Heap) (locs1 : List Loc), I c' m' → L2 LC LM G (GM G am) s c' m' H1 locs1 → W p l e room_1 s m #[Value.ref b] below meth c H1 locs1 cells slots Q (F0 m 807 ls [])) : W p l e room_1 s m #[Value.ref b] below meth c H locs cells slots Q (F0 m 440 ls []) := by
  have hokI : ∀ a ∈ [(xs (i + 1)).toInt], IR a := by
    intro a ha
    simp only [List.mem_cons, List.not_mem_nil, or_false] at ha
    subst ha; exact IR_32 _
  have hok : ∀ v ∈ [(xs (i + 1)).toInt].map vI, okv v := by
    intro v hv
    obtain ⟨a, ha, rfl⟩ := List.mem_map.mp hv
    exact hokI a ha
  obtain ⟨x, c', m', h1, h2, hI2⟩ := hS sc sm [(xs (i + 1)).toInt] rfl hokI hw.2.2.2.2.2.2.1 hw.2.2.2.2.2.2.2 hI
  refine lv_aload_n hx hb dL_law_440 rfl (lv_at hl 1 rfl) ?_
  refine lw_arg (k := 1) (lv := []) hx hb hX hbl hw.2.2.2.2.2.1 (lv_at hl 0 rfl) (lv_at hl 3 rfl) (by omega) hL rfl dL_law_441 dL_law_442 dL_law_443 dL_law_444 dL_law_445 ?_
  refine lw_call (M2 := M_X6_haste) (ls := ls) (as := [(xs (i + 1)).toInt].map vI) (La := LC) (Lb := LM) (Ga := G) (Gb := GM G am) (rest := []) hx hb hml hown hts hK hl.1 dL_law_446 ll_65 mk_X6_haste mv_X6_haste ⟨Nat.le_of_ble_eq_true rfl, Nat.le_of_ble_eq_true rfl⟩ pC_0 ⟨_, _, rfl⟩ rfl (Nat.le_of_ble_eq_true rfl) hc0 hs0 hok h1 hw (fun H1 locs1 hr hw => ?_)
  refine lv_aload_n hx hb dL_law_449 rfl (lv_at hl 2 rfl) ?_
  refine lw_arg (k := 1) (lv := []) hx hb hX hbl hw.2.2.2.2.2.1 (lv_at hl 0 rfl) (lv_at hl 3 rfl) (by omega) hL rfl dL_law_450 dL_law_451 dL_law_452 dL_law_453 dL_law_454 ?_
  refine lw_call (M2 := M_X7_haste) (ls := ls) (as := [(xs (i + 1)).toInt].map vI) (La := LM) (Lb := LC) (Ga := GM G am) (Gb := G) (rest := [cv G (vI x)]) hx hb hml hown hts hK hl.1 dL_law_455 ll_68 mk_X7_haste mv_X7_haste ⟨Nat.le_of_ble_eq_true rfl, Nat.le_of_ble_eq_true rfl⟩ pM_0 ⟨_, _, rfl⟩ rfl (Nat.le_of_ble_eq_true rfl) hc0 hs0 hok h2 hw.swap (fun H1 locs1 hr hw => ?_)
  refine lv_icmp_eq (tgt := 807) (x := Int32.ofInt x) (y := Int32.ofInt x) hx hb dL_law_458 (by decide) (fun _ => kk c' m' H1 locs1 hI2 hw.swap) (fun h => absurd rfl h)
set_option maxHeartbeats 4000000 in
theorem lo_13 {p : Program} {l : Launch} {e : Env} {s : State} {m : MethodId} {below : List Frame} {meth : Method} {c : Code} {H : Heap} {locs : List Loc} {cells slots : Nat} {Q : State → Prop} {b Ln i : Nat} {xs : Nat → Int32} {ls : Array Slot} {G : Gd} {am : Nat → Nat} {sc sm : SS} {I : SS → SS → Prop}
    (hx : p.tables.exec = Jvm.exec) (hb : c.code = code) (hml : c.maxLocals = 4) (hown : s.vm.findClass R_law = some m.cls) (hts : ∀ w ∈ gtb, w.before #[Value.ref b] s = true) (hK : va_K G.1 vwCl (tys G) s) (hX : va_X b Ln xs s s.heap) (hbl : b < s.heap.size) (hL : Ln ≤ 3072) (hi : i + 6 ≤ Ln)
    (hc0 : cells ≤ room_1.cells) (hs0 : slots ≤ room_1.slots) (hl : lv_has ls 4 [(0, .ref b), (1, .ref (G.2.2 0)), (2, .ref (am 0)), (3, .int (Int32.ofInt i))]) (hw : L2 LC LM G (GM G am) s sc sm H locs) (hI : I sc sm) (hS : SOK vI M_X6_enough M_X7_enough 0 I)
    (kk : ∀ (c' m' : SS) (H1 : Heap) (locs1 : List Loc), I c' m' → L2 LC LM G (GM G am) s c' m' H1 locs1 → W p l e room_1 s m #[Value.ref b] below meth c H1 locs1 cells slots Q (F0 m 807 ls [])) : W p l e room_1 s m #[Value.ref b] below meth c H locs cells slots Q (F0 m 463 ls []) := by
  have hokI : ∀ a ∈ ([] : List Int), IR a := by
    intro a ha
    skip
    cases ha
  have hok : ∀ v ∈ ([] : List Int).map vI, okv v := by
    intro v hv
    obtain ⟨a, ha, rfl⟩ := List.mem_map.mp hv
    exact hokI a ha
  obtain ⟨x, c', m', h1, h2, hI2⟩ := hS sc sm [] rfl hokI hw.2.2.2.2.2.2.1 hw.2.2.2.2.2.2.2 hI
  refine lv_aload_n hx hb dL_law_463 rfl (lv_at hl 1 rfl) ?_
  refine lw_call (M2 := M_X6_enough) (ls := ls) (as := [].map vI) (La := LC) (Lb := LM) (Ga := G) (Gb := GM G am) (rest := []) hx hb hml hown hts hK hl.1 dL_law_464 ll_69 mk_X6_enough mv_X6_enough ⟨Nat.le_of_ble_eq_true rfl, Nat.le_of_ble_eq_true rfl⟩ pC_0 ⟨_, _, rfl⟩ rfl (Nat.le_of_ble_eq_true rfl) hc0 hs0 hok h1 hw (fun H1 locs1 hr hw => ?_)
  refine lv_aload_n hx hb dL_law_467 rfl (lv_at hl 2 rfl) ?_
  refine lw_call (M2 := M_X7_enough) (ls := ls) (as := [].map vI) (La := LM) (Lb := LC) (Ga := GM G am) (Gb := G) (rest := [cv G (vI x)]) hx hb hml hown hts hK hl.1 dL_law_468 ll_72 mk_X7_enough mv_X7_enough ⟨Nat.le_of_ble_eq_true rfl, Nat.le_of_ble_eq_true rfl⟩ pM_0 ⟨_, _, rfl⟩ rfl (Nat.le_of_ble_eq_true rfl) hc0 hs0 hok h2 hw.swap (fun H1 locs1 hr hw => ?_)
  refine lv_icmp_eq (tgt := 807) (x := Int32.ofInt x) (y := Int32.ofInt x) hx hb dL_law_471 (by decide) (fun _ => kk c' m' H1 locs1 hI2 hw.swap) (fun h => absurd rfl h)
set_option maxHeartbeats 4000000 in
theorem lo_14 {p : Program} {l : Launch} {e : Env} {s : State} {m : MethodId} {below : List Frame} {meth : Method} {c : Code} {H : Heap} {locs : List Loc} {cells slots : Nat} {Q : State → Prop} {b Ln i : Nat} {xs : Nat → Int32} {ls : Array Slot} {G : Gd} {am : Nat → Nat} {sc sm : SS} {I : SS → SS → Prop}
    (hx : p.tables.exec = Jvm.exec) (hb : c.code = code) (hml : c.maxLocals = 4) (hown : s.vm.findClass R_law = some m.cls) (hts : ∀ w ∈ gtb, w.before #[Value.ref b] s = true) (hK : va_K G.1 vwCl (tys G) s) (hX : va_X b Ln xs s s.heap) (hbl : b < s.heap.size) (hL : Ln ≤ 3072) (hi : i + 6 ≤ Ln)
    (hc0 : cells ≤ room_1.cells) (hs0 : slots ≤ room_1.slots) (hl : lv_has ls 4 [(0, .ref b), (1, .ref (G.2.2 0)), (2, .ref (am 0)), (3, .int (Int32.ofInt i))]) (hw : L2 LC LM G (GM G am) s sc sm H locs) (hI : I sc sm) (hS : SOK vI M_X6_shrinks M_X7_shrinks 1 I)
    (kk : ∀ (c' m' : SS) (H1 : Heap) (locs1 : List Loc), I c' m' → L2 LC LM G (GM G am) s c' m' H1 locs1 → W p l e room_1 s m #[Value.ref b] below meth c H1 locs1 cells slots Q (F0 m 807 ls [])) : W p l e room_1 s m #[Value.ref b] below meth c H locs cells slots Q (F0 m 476 ls []) := by
  have hokI : ∀ a ∈ [(xs (i + 1)).toInt], IR a := by
    intro a ha
    simp only [List.mem_cons, List.not_mem_nil, or_false] at ha
    subst ha; exact IR_32 _
  have hok : ∀ v ∈ [(xs (i + 1)).toInt].map vI, okv v := by
    intro v hv
    obtain ⟨a, ha, rfl⟩ := List.mem_map.mp hv
    exact hokI a ha
  obtain ⟨x, c', m', h1, h2, hI2⟩ := hS sc sm [(xs (i + 1)).toInt] rfl hokI hw.2.2.2.2.2.2.1 hw.2.2.2.2.2.2.2 hI
  refine lv_aload_n hx hb dL_law_476 rfl (lv_at hl 1 rfl) ?_
  refine lw_arg (k := 1) (lv := []) hx hb hX hbl hw.2.2.2.2.2.1 (lv_at hl 0 rfl) (lv_at hl 3 rfl) (by omega) hL rfl dL_law_477 dL_law_478 dL_law_479 dL_law_480 dL_law_481 ?_
  refine lw_call (M2 := M_X6_shrinks) (ls := ls) (as := [(xs (i + 1)).toInt].map vI) (La := LC) (Lb := LM) (Ga := G) (Gb := GM G am) (rest := []) hx hb hml hown hts hK hl.1 dL_law_482 ll_73 mk_X6_shrinks mv_X6_shrinks ⟨Nat.le_of_ble_eq_true rfl, Nat.le_of_ble_eq_true rfl⟩ pC_0 ⟨_, _, rfl⟩ rfl (Nat.le_of_ble_eq_true rfl) hc0 hs0 hok h1 hw (fun H1 locs1 hr hw => ?_)
  refine lv_aload_n hx hb dL_law_485 rfl (lv_at hl 2 rfl) ?_
  refine lw_arg (k := 1) (lv := []) hx hb hX hbl hw.2.2.2.2.2.1 (lv_at hl 0 rfl) (lv_at hl 3 rfl) (by omega) hL rfl dL_law_486 dL_law_487 dL_law_488 dL_law_489 dL_law_490 ?_
  refine lw_call (M2 := M_X7_shrinks) (ls := ls) (as := [(xs (i + 1)).toInt].map vI) (La := LM) (Lb := LC) (Ga := GM G am) (Gb := G) (rest := [cv G (vI x)]) hx hb hml hown hts hK hl.1 dL_law_491 ll_76 mk_X7_shrinks mv_X7_shrinks ⟨Nat.le_of_ble_eq_true rfl, Nat.le_of_ble_eq_true rfl⟩ pM_0 ⟨_, _, rfl⟩ rfl (Nat.le_of_ble_eq_true rfl) hc0 hs0 hok h2 hw.swap (fun H1 locs1 hr hw => ?_)
  refine lv_icmp_eq (tgt := 807) (x := Int32.ofInt x) (y := Int32.ofInt x) hx hb dL_law_494 (by decide) (fun _ => kk c' m' H1 locs1 hI2 hw.swap) (fun h => absurd rfl h)
set_option maxHeartbeats 4000000 in
theorem lo_15 {p : Program} {l : Launch} {e : Env} {s : State} {m : MethodId} {below : List Frame} {meth : Method} {c : Code} {H : Heap} {locs : List Loc} {cells slots : Nat} {Q : State → Prop} {b Ln i : Nat} {xs : Nat → Int32} {ls : Array Slot} {G : Gd} {am : Nat → Nat} {sc sm : SS} {I : SS → SS → Prop}
    (hx : p.tables.exec = Jvm.exec) (hb : c.code = code) (hml : c.maxLocals = 4) (hown : s.vm.findClass R_law = some m.cls) (hts : ∀ w ∈ gtb, w.before #[Value.ref b] s = true) (hK : va_K G.1 vwCl (tys G) s) (hX : va_X b Ln xs s s.heap) (hbl : b < s.heap.size) (hL : Ln ≤ 3072) (hi : i + 6 ≤ Ln)
    (hc0 : cells ≤ room_1.cells) (hs0 : slots ≤ room_1.slots) (hl : lv_has ls 4 [(0, .ref b), (1, .ref (G.2.2 0)), (2, .ref (am 0)), (3, .int (Int32.ofInt i))]) (hw : L2 LC LM G (GM G am) s sc sm H locs) (hI : I sc sm) (hS : SOK vI M_X6_spare M_X7_spare 0 I)
    (kk : ∀ (c' m' : SS) (H1 : Heap) (locs1 : List Loc), I c' m' → L2 LC LM G (GM G am) s c' m' H1 locs1 → W p l e room_1 s m #[Value.ref b] below meth c H1 locs1 cells slots Q (F0 m 807 ls [])) : W p l e room_1 s m #[Value.ref b] below meth c H locs cells slots Q (F0 m 499 ls []) := by
  have hokI : ∀ a ∈ ([] : List Int), IR a := by
    intro a ha
    skip
    cases ha
  have hok : ∀ v ∈ ([] : List Int).map vI, okv v := by
    intro v hv
    obtain ⟨a, ha, rfl⟩ := List.mem_map.mp hv
    exact hokI a ha
  obtain ⟨x, c', m', h1, h2, hI2⟩ := hS sc sm [] rfl hokI hw.2.2.2.2.2.2.1 hw.2.2.2.2.2.2.2 hI
  refine lv_aload_n hx hb dL_law_499 rfl (lv_at hl 1 rfl) ?_
  refine lw_call (M2 := M_X6_spare) (ls := ls) (as := [].map vI) (La := LC) (Lb := LM) (Ga := G) (Gb := GM G am) (rest := []) hx hb hml hown hts hK hl.1 dL_law_500 ll_77 mk_X6_spare mv_X6_spare ⟨Nat.le_of_ble_eq_true rfl, Nat.le_of_ble_eq_true rfl⟩ pC_0 ⟨_, _, rfl⟩ rfl (Nat.le_of_ble_eq_true rfl) hc0 hs0 hok h1 hw (fun H1 locs1 hr hw => ?_)
  refine lv_aload_n hx hb dL_law_503 rfl (lv_at hl 2 rfl) ?_
  refine lw_call (M2 := M_X7_spare) (ls := ls) (as := [].map vI) (La := LM) (Lb := LC) (Ga := GM G am) (Gb := G) (rest := [cv G (vI x)]) hx hb hml hown hts hK hl.1 dL_law_504 ll_80 mk_X7_spare mv_X7_spare ⟨Nat.le_of_ble_eq_true rfl, Nat.le_of_ble_eq_true rfl⟩ pM_0 ⟨_, _, rfl⟩ rfl (Nat.le_of_ble_eq_true rfl) hc0 hs0 hok h2 hw.swap (fun H1 locs1 hr hw => ?_)
  refine lv_icmp_eq (tgt := 807) (x := Int32.ofInt x) (y := Int32.ofInt x) hx hb dL_law_507 (by decide) (fun _ => kk c' m' H1 locs1 hI2 hw.swap) (fun h => absurd rfl h)
set_option maxHeartbeats 4000000 in
theorem lo_16 {p : Program} {l : Launch} {e : Env} {s : State} {m : MethodId} {below : List Frame} {meth : Method} {c : Code} {H : Heap} {locs : List Loc} {cells slots : Nat} {Q : State → Prop} {b Ln i : Nat} {xs : Nat → Int32} {ls : Array Slot} {G : Gd} {am : Nat → Nat} {sc sm : SS} {I : SS → SS → Prop}
    (hx : p.tables.exec = Jvm.exec) (hb : c.code = code) (hml : c.maxLocals = 4) (hown : s.vm.findClass R_law = some m.cls) (hts : ∀ w ∈ gtb, w.before #[Value.ref b] s = true) (hK : va_K G.1 vwCl (tys G) s) (hX : va_X b Ln xs s s.heap) (hbl : b < s.heap.size) (hL : Ln ≤ 3072) (hi : i + 6 ≤ Ln)
    (hc0 : cells ≤ room_1.cells) (hs0 : slots ≤ room_1.slots) (hl : lv_has ls 4 [(0, .ref b), (1, .ref (G.2.2 0)), (2, .ref (am 0)), (3, .int (Int32.ofInt i))]) (hw : L2 LC LM G (GM G am) s sc sm H locs) (hI : I sc sm) (hS : SOK vI M_X6_sheet M_X7_sheet 3 I)
    (kk : ∀ (c' m' : SS) (H1 : Heap) (locs1 : List Loc), I c' m' → L2 LC LM G (GM G am) s c' m' H1 locs1 → W p l e room_1 s m #[Value.ref b] below meth c H1 locs1 cells slots Q (F0 m 807 ls [])) : W p l e room_1 s m #[Value.ref b] below meth c H locs cells slots Q (F0 m 512 ls []) := by
  have hokI : ∀ a ∈ [(xs (i + 1)).toInt, (xs (i + 2)).toInt, (xs (i + 3)).toInt], IR a := by
    intro a ha
    simp only [List.mem_cons, List.not_mem_nil, or_false] at ha
    rcases ha with rfl | rfl | rfl <;> exact IR_32 _
  have hok : ∀ v ∈ [(xs (i + 1)).toInt, (xs (i + 2)).toInt, (xs (i + 3)).toInt].map vI, okv v := by
    intro v hv
    obtain ⟨a, ha, rfl⟩ := List.mem_map.mp hv
    exact hokI a ha
  obtain ⟨x, c', m', h1, h2, hI2⟩ := hS sc sm [(xs (i + 1)).toInt, (xs (i + 2)).toInt, (xs (i + 3)).toInt] rfl hokI hw.2.2.2.2.2.2.1 hw.2.2.2.2.2.2.2 hI
  refine lv_aload_n hx hb dL_law_512 rfl (lv_at hl 1 rfl) ?_
  refine lw_arg (k := 1) (lv := []) hx hb hX hbl hw.2.2.2.2.2.1 (lv_at hl 0 rfl) (lv_at hl 3 rfl) (by omega) hL rfl dL_law_513 dL_law_514 dL_law_515 dL_law_516 dL_law_517 ?_
  refine lw_arg (k := 2) (lv := []) hx hb hX hbl hw.2.2.2.2.2.1 (lv_at hl 0 rfl) (lv_at hl 3 rfl) (by omega) hL rfl dL_law_518 dL_law_519 dL_law_520 dL_law_521 dL_law_522 ?_
  refine lw_arg (k := 3) (lv := []) hx hb hX hbl hw.2.2.2.2.2.1 (lv_at hl 0 rfl) (lv_at hl 3 rfl) (by omega) hL rfl dL_law_523 dL_law_524 dL_law_525 dL_law_526 dL_law_527 ?_
  refine lw_call (M2 := M_X6_sheet) (ls := ls) (as := [(xs (i + 1)).toInt, (xs (i + 2)).toInt, (xs (i + 3)).toInt].map vI) (La := LC) (Lb := LM) (Ga := G) (Gb := GM G am) (rest := []) hx hb hml hown hts hK hl.1 dL_law_528 ll_81 mk_X6_sheet mv_X6_sheet ⟨Nat.le_of_ble_eq_true rfl, Nat.le_of_ble_eq_true rfl⟩ pC_0 ⟨_, _, rfl⟩ rfl (Nat.le_of_ble_eq_true rfl) hc0 hs0 hok h1 hw (fun H1 locs1 hr hw => ?_)
  refine lv_aload_n hx hb dL_law_531 rfl (lv_at hl 2 rfl) ?_
  refine lw_arg (k := 1) (lv := []) hx hb hX hbl hw.2.2.2.2.2.1 (lv_at hl 0 rfl) (lv_at hl 3 rfl) (by omega) hL rfl dL_law_532 dL_law_533 dL_law_534 dL_law_535 dL_law_536 ?_
  refine lw_arg (k := 2) (lv := []) hx hb hX hbl hw.2.2.2.2.2.1 (lv_at hl 0 rfl) (lv_at hl 3 rfl) (by omega) hL rfl dL_law_537 dL_law_538 dL_law_539 dL_law_540 dL_law_541 ?_
  refine lw_arg (k := 3) (lv := []) hx hb hX hbl hw.2.2.2.2.2.1 (lv_at hl 0 rfl) (lv_at hl 3 rfl) (by omega) hL rfl dL_law_542 dL_law_543 dL_law_544 dL_law_545 dL_law_546 ?_
  refine lw_call (M2 := M_X7_sheet) (ls := ls) (as := [(xs (i + 1)).toInt, (xs (i + 2)).toInt, (xs (i + 3)).toInt].map vI) (La := LM) (Lb := LC) (Ga := GM G am) (Gb := G) (rest := [cv G (vI x)]) hx hb hml hown hts hK hl.1 dL_law_547 ll_84 mk_X7_sheet mv_X7_sheet ⟨Nat.le_of_ble_eq_true rfl, Nat.le_of_ble_eq_true rfl⟩ pM_0 ⟨_, _, rfl⟩ rfl (Nat.le_of_ble_eq_true rfl) hc0 hs0 hok h2 hw.swap (fun H1 locs1 hr hw => ?_)
  refine lv_icmp_eq (tgt := 807) (x := Int32.ofInt x) (y := Int32.ofInt x) hx hb dL_law_550 (by decide) (fun _ => kk c' m' H1 locs1 hI2 hw.swap) (fun h => absurd rfl h)
set_option maxHeartbeats 4000000 in
theorem lo_17 {p : Program} {l : Launch} {e : Env} {s : State} {m : MethodId} {below : List Frame} {meth : Method} {c : Code} {H : Heap} {locs : List Loc} {cells slots : Nat} {Q : State → Prop} {b Ln i : Nat} {xs : Nat → Int32} {ls : Array Slot} {G : Gd} {am : Nat → Nat} {sc sm : SS} {I : SS → SS → Prop}
    (hx : p.tables.exec = Jvm.exec) (hb : c.code = code) (hml : c.maxLocals = 4) (hown : s.vm.findClass R_law = some m.cls) (hts : ∀ w ∈ gtb, w.before #[Value.ref b] s = true) (hK : va_K G.1 vwCl (tys G) s) (hX : va_X b Ln xs s s.heap) (hbl : b < s.heap.size) (hL : Ln ≤ 3072) (hi : i + 6 ≤ Ln)
    (hc0 : cells ≤ room_1.cells) (hs0 : slots ≤ room_1.slots) (hl : lv_has ls 4 [(0, .ref b), (1, .ref (G.2.2 0)), (2, .ref (am 0)), (3, .int (Int32.ofInt i))]) (hw : L2 LC LM G (GM G am) s sc sm H locs) (hI : I sc sm) (hS : SOK vI M_X6_lose M_X7_lose 1 I)
    (kk : ∀ (c' m' : SS) (H1 : Heap) (locs1 : List Loc), I c' m' → L2 LC LM G (GM G am) s c' m' H1 locs1 → W p l e room_1 s m #[Value.ref b] below meth c H1 locs1 cells slots Q (F0 m 807 ls [])) : W p l e room_1 s m #[Value.ref b] below meth c H locs cells slots Q (F0 m 555 ls []) := by
  have hokI : ∀ a ∈ [(xs (i + 1)).toInt], IR a := by
    intro a ha
    simp only [List.mem_cons, List.not_mem_nil, or_false] at ha
    subst ha; exact IR_32 _
  have hok : ∀ v ∈ [(xs (i + 1)).toInt].map vI, okv v := by
    intro v hv
    obtain ⟨a, ha, rfl⟩ := List.mem_map.mp hv
    exact hokI a ha
  obtain ⟨x, c', m', h1, h2, hI2⟩ := hS sc sm [(xs (i + 1)).toInt] rfl hokI hw.2.2.2.2.2.2.1 hw.2.2.2.2.2.2.2 hI
  refine lv_aload_n hx hb dL_law_555 rfl (lv_at hl 1 rfl) ?_
  refine lw_arg (k := 1) (lv := []) hx hb hX hbl hw.2.2.2.2.2.1 (lv_at hl 0 rfl) (lv_at hl 3 rfl) (by omega) hL rfl dL_law_556 dL_law_557 dL_law_558 dL_law_559 dL_law_560 ?_
  refine lw_call (M2 := M_X6_lose) (ls := ls) (as := [(xs (i + 1)).toInt].map vI) (La := LC) (Lb := LM) (Ga := G) (Gb := GM G am) (rest := []) hx hb hml hown hts hK hl.1 dL_law_561 ll_85 mk_X6_lose mv_X6_lose ⟨Nat.le_of_ble_eq_true rfl, Nat.le_of_ble_eq_true rfl⟩ pC_0 ⟨_, _, rfl⟩ rfl (Nat.le_of_ble_eq_true rfl) hc0 hs0 hok h1 hw (fun H1 locs1 hr hw => ?_)
  refine lv_aload_n hx hb dL_law_564 rfl (lv_at hl 2 rfl) ?_
  refine lw_arg (k := 1) (lv := []) hx hb hX hbl hw.2.2.2.2.2.1 (lv_at hl 0 rfl) (lv_at hl 3 rfl) (by omega) hL rfl dL_law_565 dL_law_566 dL_law_567 dL_law_568 dL_law_569 ?_
  refine lw_call (M2 := M_X7_lose) (ls := ls) (as := [(xs (i + 1)).toInt].map vI) (La := LM) (Lb := LC) (Ga := GM G am) (Gb := G) (rest := [cv G (vI x)]) hx hb hml hown hts hK hl.1 dL_law_570 ll_88 mk_X7_lose mv_X7_lose ⟨Nat.le_of_ble_eq_true rfl, Nat.le_of_ble_eq_true rfl⟩ pM_0 ⟨_, _, rfl⟩ rfl (Nat.le_of_ble_eq_true rfl) hc0 hs0 hok h2 hw.swap (fun H1 locs1 hr hw => ?_)
  refine lv_icmp_eq (tgt := 807) (x := Int32.ofInt x) (y := Int32.ofInt x) hx hb dL_law_573 (by decide) (fun _ => kk c' m' H1 locs1 hI2 hw.swap) (fun h => absurd rfl h)
set_option maxHeartbeats 4000000 in
theorem lo_18 {p : Program} {l : Launch} {e : Env} {s : State} {m : MethodId} {below : List Frame} {meth : Method} {c : Code} {H : Heap} {locs : List Loc} {cells slots : Nat} {Q : State → Prop} {b Ln i : Nat} {xs : Nat → Int32} {ls : Array Slot} {G : Gd} {am : Nat → Nat} {sc sm : SS} {I : SS → SS → Prop}
    (hx : p.tables.exec = Jvm.exec) (hb : c.code = code) (hml : c.maxLocals = 4) (hown : s.vm.findClass R_law = some m.cls) (hts : ∀ w ∈ gtb, w.before #[Value.ref b] s = true) (hK : va_K G.1 vwCl (tys G) s) (hX : va_X b Ln xs s s.heap) (hbl : b < s.heap.size) (hL : Ln ≤ 3072) (hi : i + 6 ≤ Ln)
    (hc0 : cells ≤ room_1.cells) (hs0 : slots ≤ room_1.slots) (hl : lv_has ls 4 [(0, .ref b), (1, .ref (G.2.2 0)), (2, .ref (am 0)), (3, .int (Int32.ofInt i))]) (hw : L2 LC LM G (GM G am) s sc sm H locs) (hI : I sc sm) (hS : SOK vI M_X6_put M_X7_put 4 I)
    (kk : ∀ (c' m' : SS) (H1 : Heap) (locs1 : List Loc), I c' m' → L2 LC LM G (GM G am) s c' m' H1 locs1 → W p l e room_1 s m #[Value.ref b] below meth c H1 locs1 cells slots Q (F0 m 807 ls [])) : W p l e room_1 s m #[Value.ref b] below meth c H locs cells slots Q (F0 m 578 ls []) := by
  have hokI : ∀ a ∈ [(xs (i + 1)).toInt, (xs (i + 2)).toInt, (xs (i + 3)).toInt, (xs (i + 4)).toInt], IR a := by
    intro a ha
    simp only [List.mem_cons, List.not_mem_nil, or_false] at ha
    rcases ha with rfl | rfl | rfl | rfl <;> exact IR_32 _
  have hok : ∀ v ∈ [(xs (i + 1)).toInt, (xs (i + 2)).toInt, (xs (i + 3)).toInt, (xs (i + 4)).toInt].map vI, okv v := by
    intro v hv
    obtain ⟨a, ha, rfl⟩ := List.mem_map.mp hv
    exact hokI a ha
  obtain ⟨x, c', m', h1, h2, hI2⟩ := hS sc sm [(xs (i + 1)).toInt, (xs (i + 2)).toInt, (xs (i + 3)).toInt, (xs (i + 4)).toInt] rfl hokI hw.2.2.2.2.2.2.1 hw.2.2.2.2.2.2.2 hI
  refine lv_aload_n hx hb dL_law_578 rfl (lv_at hl 1 rfl) ?_
  refine lw_arg (k := 1) (lv := []) hx hb hX hbl hw.2.2.2.2.2.1 (lv_at hl 0 rfl) (lv_at hl 3 rfl) (by omega) hL rfl dL_law_579 dL_law_580 dL_law_581 dL_law_582 dL_law_583 ?_
  refine lw_arg (k := 2) (lv := []) hx hb hX hbl hw.2.2.2.2.2.1 (lv_at hl 0 rfl) (lv_at hl 3 rfl) (by omega) hL rfl dL_law_584 dL_law_585 dL_law_586 dL_law_587 dL_law_588 ?_
  refine lw_arg (k := 3) (lv := []) hx hb hX hbl hw.2.2.2.2.2.1 (lv_at hl 0 rfl) (lv_at hl 3 rfl) (by omega) hL rfl dL_law_589 dL_law_590 dL_law_591 dL_law_592 dL_law_593 ?_
  refine lw_arg (k := 4) (lv := []) hx hb hX hbl hw.2.2.2.2.2.1 (lv_at hl 0 rfl) (lv_at hl 3 rfl) (by omega) hL rfl dL_law_594 dL_law_595 dL_law_596 dL_law_597 dL_law_598 ?_
  refine lw_call (M2 := M_X6_put) (ls := ls) (as := [(xs (i + 1)).toInt, (xs (i + 2)).toInt, (xs (i + 3)).toInt, (xs (i + 4)).toInt].map vI) (La := LC) (Lb := LM) (Ga := G) (Gb := GM G am) (rest := []) hx hb hml hown hts hK hl.1 dL_law_599 ll_89 mk_X6_put mv_X6_put ⟨Nat.le_of_ble_eq_true rfl, Nat.le_of_ble_eq_true rfl⟩ pC_0 ⟨_, _, rfl⟩ rfl (Nat.le_of_ble_eq_true rfl) hc0 hs0 hok h1 hw (fun H1 locs1 hr hw => ?_)
  refine lv_aload_n hx hb dL_law_602 rfl (lv_at hl 2 rfl) ?_
  refine lw_arg (k := 1) (lv := []) hx hb hX hbl hw.2.2.2.2.2.1 (lv_at hl 0 rfl) (lv_at hl 3 rfl) (by omega) hL rfl dL_law_603 dL_law_604 dL_law_605 dL_law_606 dL_law_607 ?_
  refine lw_arg (k := 2) (lv := []) hx hb hX hbl hw.2.2.2.2.2.1 (lv_at hl 0 rfl) (lv_at hl 3 rfl) (by omega) hL rfl dL_law_608 dL_law_609 dL_law_610 dL_law_611 dL_law_612 ?_
  refine lw_arg (k := 3) (lv := []) hx hb hX hbl hw.2.2.2.2.2.1 (lv_at hl 0 rfl) (lv_at hl 3 rfl) (by omega) hL rfl dL_law_613 dL_law_614 dL_law_615 dL_law_616 dL_law_617 ?_
  refine lw_arg (k := 4) (lv := []) hx hb hX hbl hw.2.2.2.2.2.1 (lv_at hl 0 rfl) (lv_at hl 3 rfl) (by omega) hL rfl dL_law_618 dL_law_619 dL_law_620 dL_law_621 dL_law_622 ?_
  refine lw_call (M2 := M_X7_put) (ls := ls) (as := [(xs (i + 1)).toInt, (xs (i + 2)).toInt, (xs (i + 3)).toInt, (xs (i + 4)).toInt].map vI) (La := LM) (Lb := LC) (Ga := GM G am) (Gb := G) (rest := [cv G (vI x)]) hx hb hml hown hts hK hl.1 dL_law_623 ll_93 mk_X7_put mv_X7_put ⟨Nat.le_of_ble_eq_true rfl, Nat.le_of_ble_eq_true rfl⟩ pM_0 ⟨_, _, rfl⟩ rfl (Nat.le_of_ble_eq_true rfl) hc0 hs0 hok h2 hw.swap (fun H1 locs1 hr hw => ?_)
  refine lv_icmp_eq (tgt := 807) (x := Int32.ofInt x) (y := Int32.ofInt x) hx hb dL_law_626 (by decide) (fun _ => kk c' m' H1 locs1 hI2 hw.swap) (fun h => absurd rfl h)
set_option maxHeartbeats 4000000 in
theorem lo_19 {p : Program} {l : Launch} {e : Env} {s : State} {m : MethodId} {below : List Frame} {meth : Method} {c : Code} {H : Heap} {locs : List Loc} {cells slots : Nat} {Q : State → Prop} {b Ln i : Nat} {xs : Nat → Int32} {ls : Array Slot} {G : Gd} {am : Nat → Nat} {sc sm : SS} {I : SS → SS → Prop}
    (hx : p.tables.exec = Jvm.exec) (hb : c.code = code) (hml : c.maxLocals = 4) (hown : s.vm.findClass R_law = some m.cls) (hts : ∀ w ∈ gtb, w.before #[Value.ref b] s = true) (hK : va_K G.1 vwCl (tys G) s) (hX : va_X b Ln xs s s.heap) (hbl : b < s.heap.size) (hL : Ln ≤ 3072) (hi : i + 6 ≤ Ln)
    (hc0 : cells ≤ room_1.cells) (hs0 : slots ≤ room_1.slots) (hl : lv_has ls 4 [(0, .ref b), (1, .ref (G.2.2 0)), (2, .ref (am 0)), (3, .int (Int32.ofInt i))]) (hw : L2 LC LM G (GM G am) s sc sm H locs) (hI : I sc sm) (hS : SOK vI M_X6_get M_X7_get 3 I)
    (kk : ∀ (c' m' : SS) (H1 : Heap) (locs1 : List Loc), I c' m' → L2 LC LM G (GM G am) s c' m' H1 locs1 → W p l e room_1 s m #[Value.ref b] below meth c H1 locs1 cells slots Q (F0 m 807 ls [])) : W p l e room_1 s m #[Value.ref b] below meth c H locs cells slots Q (F0 m 631 ls []) := by
  have hokI : ∀ a ∈ [(xs (i + 1)).toInt, (xs (i + 2)).toInt, (xs (i + 3)).toInt], IR a := by
    intro a ha
    simp only [List.mem_cons, List.not_mem_nil, or_false] at ha
    rcases ha with rfl | rfl | rfl <;> exact IR_32 _
  have hok : ∀ v ∈ [(xs (i + 1)).toInt, (xs (i + 2)).toInt, (xs (i + 3)).toInt].map vI, okv v := by
    intro v hv
    obtain ⟨a, ha, rfl⟩ := List.mem_map.mp hv
    exact hokI a ha
  obtain ⟨x, c', m', h1, h2, hI2⟩ := hS sc sm [(xs (i + 1)).toInt, (xs (i + 2)).toInt, (xs (i + 3)).toInt] rfl hokI hw.2.2.2.2.2.2.1 hw.2.2.2.2.2.2.2 hI
  refine lv_aload_n hx hb dL_law_631 rfl (lv_at hl 1 rfl) ?_
  refine lw_arg (k := 1) (lv := []) hx hb hX hbl hw.2.2.2.2.2.1 (lv_at hl 0 rfl) (lv_at hl 3 rfl) (by omega) hL rfl dL_law_632 dL_law_633 dL_law_634 dL_law_635 dL_law_636 ?_
  refine lw_arg (k := 2) (lv := []) hx hb hX hbl hw.2.2.2.2.2.1 (lv_at hl 0 rfl) (lv_at hl 3 rfl) (by omega) hL rfl dL_law_637 dL_law_638 dL_law_639 dL_law_640 dL_law_641 ?_
  refine lw_arg (k := 3) (lv := []) hx hb hX hbl hw.2.2.2.2.2.1 (lv_at hl 0 rfl) (lv_at hl 3 rfl) (by omega) hL rfl dL_law_642 dL_law_643 dL_law_644 dL_law_645 dL_law_646 ?_
  refine lw_call (M2 := M_X6_get) (ls := ls) (as := [(xs (i + 1)).toInt, (xs (i + 2)).toInt, (xs (i + 3)).toInt].map vI) (La := LC) (Lb := LM) (Ga := G) (Gb := GM G am) (rest := []) hx hb hml hown hts hK hl.1 dL_law_647 ll_94 mk_X6_get mv_X6_get ⟨Nat.le_of_ble_eq_true rfl, Nat.le_of_ble_eq_true rfl⟩ pC_0 ⟨_, _, rfl⟩ rfl (Nat.le_of_ble_eq_true rfl) hc0 hs0 hok h1 hw (fun H1 locs1 hr hw => ?_)
  refine lv_aload_n hx hb dL_law_650 rfl (lv_at hl 2 rfl) ?_
  refine lw_arg (k := 1) (lv := []) hx hb hX hbl hw.2.2.2.2.2.1 (lv_at hl 0 rfl) (lv_at hl 3 rfl) (by omega) hL rfl dL_law_651 dL_law_652 dL_law_653 dL_law_654 dL_law_655 ?_
  refine lw_arg (k := 2) (lv := []) hx hb hX hbl hw.2.2.2.2.2.1 (lv_at hl 0 rfl) (lv_at hl 3 rfl) (by omega) hL rfl dL_law_656 dL_law_657 dL_law_658 dL_law_659 dL_law_660 ?_
  refine lw_arg (k := 3) (lv := []) hx hb hX hbl hw.2.2.2.2.2.1 (lv_at hl 0 rfl) (lv_at hl 3 rfl) (by omega) hL rfl dL_law_661 dL_law_662 dL_law_663 dL_law_664 dL_law_665 ?_
  refine lw_call (M2 := M_X7_get) (ls := ls) (as := [(xs (i + 1)).toInt, (xs (i + 2)).toInt, (xs (i + 3)).toInt].map vI) (La := LM) (Lb := LC) (Ga := GM G am) (Gb := G) (rest := [cv G (vI x)]) hx hb hml hown hts hK hl.1 dL_law_666 ll_97 mk_X7_get mv_X7_get ⟨Nat.le_of_ble_eq_true rfl, Nat.le_of_ble_eq_true rfl⟩ pM_0 ⟨_, _, rfl⟩ rfl (Nat.le_of_ble_eq_true rfl) hc0 hs0 hok h2 hw.swap (fun H1 locs1 hr hw => ?_)
  refine lv_icmp_eq (tgt := 807) (x := Int32.ofInt x) (y := Int32.ofInt x) hx hb dL_law_669 (by decide) (fun _ => kk c' m' H1 locs1 hI2 hw.swap) (fun h => absurd rfl h)
set_option maxHeartbeats 4000000 in
theorem lo_20 {p : Program} {l : Launch} {e : Env} {s : State} {m : MethodId} {below : List Frame} {meth : Method} {c : Code} {H : Heap} {locs : List Loc} {cells slots : Nat} {Q : State → Prop} {b Ln i : Nat} {xs : Nat → Int32} {ls : Array Slot} {G : Gd} {am : Nat → Nat} {sc sm : SS} {I : SS → SS → Prop}
    (hx : p.tables.exec = Jvm.exec) (hb : c.code = code) (hml : c.maxLocals = 4) (hown : s.vm.findClass R_law = some m.cls) (hts : ∀ w ∈ gtb, w.before #[Value.ref b] s = true) (hK : va_K G.1 vwCl (tys G) s) (hX : va_X b Ln xs s s.heap) (hbl : b < s.heap.size) (hL : Ln ≤ 3072) (hi : i + 6 ≤ Ln)
    (hc0 : cells ≤ room_1.cells) (hs0 : slots ≤ room_1.slots) (hl : lv_has ls 4 [(0, .ref b), (1, .ref (G.2.2 0)), (2, .ref (am 0)), (3, .int (Int32.ofInt i))]) (hw : L2 LC LM G (GM G am) s sc sm H locs) (hI : I sc sm) (hS : SOK vI M_X6_copy M_X7_copy 5 I)
    (kk : ∀ (c' m' : SS) (H1 : Heap) (locs1 : List Loc), I c' m' → L2 LC LM G (GM G am) s c' m' H1 locs1 → W p l e room_1 s m #[Value.ref b] below meth c H1 locs1 cells slots Q (F0 m 807 ls [])) : W p l e room_1 s m #[Value.ref b] below meth c H locs cells slots Q (F0 m 674 ls []) := by
  have hokI : ∀ a ∈ [(xs (i + 1)).toInt, (xs (i + 2)).toInt, (xs (i + 3)).toInt, (xs (i + 4)).toInt, (xs (i + 5)).toInt], IR a := by
    intro a ha
    simp only [List.mem_cons, List.not_mem_nil, or_false] at ha
    rcases ha with rfl | rfl | rfl | rfl | rfl <;> exact IR_32 _
  have hok : ∀ v ∈ [(xs (i + 1)).toInt, (xs (i + 2)).toInt, (xs (i + 3)).toInt, (xs (i + 4)).toInt, (xs (i + 5)).toInt].map vI, okv v := by
    intro v hv
    obtain ⟨a, ha, rfl⟩ := List.mem_map.mp hv
    exact hokI a ha
  obtain ⟨x, c', m', h1, h2, hI2⟩ := hS sc sm [(xs (i + 1)).toInt, (xs (i + 2)).toInt, (xs (i + 3)).toInt, (xs (i + 4)).toInt, (xs (i + 5)).toInt] rfl hokI hw.2.2.2.2.2.2.1 hw.2.2.2.2.2.2.2 hI
  refine lv_aload_n hx hb dL_law_674 rfl (lv_at hl 1 rfl) ?_
  refine lw_arg (k := 1) (lv := []) hx hb hX hbl hw.2.2.2.2.2.1 (lv_at hl 0 rfl) (lv_at hl 3 rfl) (by omega) hL rfl dL_law_675 dL_law_676 dL_law_677 dL_law_678 dL_law_679 ?_
  refine lw_arg (k := 2) (lv := []) hx hb hX hbl hw.2.2.2.2.2.1 (lv_at hl 0 rfl) (lv_at hl 3 rfl) (by omega) hL rfl dL_law_680 dL_law_681 dL_law_682 dL_law_683 dL_law_684 ?_
  refine lw_arg (k := 3) (lv := []) hx hb hX hbl hw.2.2.2.2.2.1 (lv_at hl 0 rfl) (lv_at hl 3 rfl) (by omega) hL rfl dL_law_685 dL_law_686 dL_law_687 dL_law_688 dL_law_689 ?_
  refine lw_arg (k := 4) (lv := []) hx hb hX hbl hw.2.2.2.2.2.1 (lv_at hl 0 rfl) (lv_at hl 3 rfl) (by omega) hL rfl dL_law_690 dL_law_691 dL_law_692 dL_law_693 dL_law_694 ?_
  refine lw_arg (k := 5) (lv := []) hx hb hX hbl hw.2.2.2.2.2.1 (lv_at hl 0 rfl) (lv_at hl 3 rfl) (by omega) hL rfl dL_law_695 dL_law_696 dL_law_697 dL_law_698 dL_law_699 ?_
  refine lw_call (M2 := M_X6_copy) (ls := ls) (as := [(xs (i + 1)).toInt, (xs (i + 2)).toInt, (xs (i + 3)).toInt, (xs (i + 4)).toInt, (xs (i + 5)).toInt].map vI) (La := LC) (Lb := LM) (Ga := G) (Gb := GM G am) (rest := []) hx hb hml hown hts hK hl.1 dL_law_700 ll_98 mk_X6_copy mv_X6_copy ⟨Nat.le_of_ble_eq_true rfl, Nat.le_of_ble_eq_true rfl⟩ pC_0 ⟨_, _, rfl⟩ rfl (Nat.le_of_ble_eq_true rfl) hc0 hs0 hok h1 hw (fun H1 locs1 hr hw => ?_)
  refine lv_aload_n hx hb dL_law_703 rfl (lv_at hl 2 rfl) ?_
  refine lw_arg (k := 1) (lv := []) hx hb hX hbl hw.2.2.2.2.2.1 (lv_at hl 0 rfl) (lv_at hl 3 rfl) (by omega) hL rfl dL_law_704 dL_law_705 dL_law_706 dL_law_707 dL_law_708 ?_
  refine lw_arg (k := 2) (lv := []) hx hb hX hbl hw.2.2.2.2.2.1 (lv_at hl 0 rfl) (lv_at hl 3 rfl) (by omega) hL rfl dL_law_709 dL_law_710 dL_law_711 dL_law_712 dL_law_713 ?_
  refine lw_arg (k := 3) (lv := []) hx hb hX hbl hw.2.2.2.2.2.1 (lv_at hl 0 rfl) (lv_at hl 3 rfl) (by omega) hL rfl dL_law_714 dL_law_715 dL_law_716 dL_law_717 dL_law_718 ?_
  refine lw_arg (k := 4) (lv := []) hx hb hX hbl hw.2.2.2.2.2.1 (lv_at hl 0 rfl) (lv_at hl 3 rfl) (by omega) hL rfl dL_law_719 dL_law_720 dL_law_721 dL_law_722 dL_law_723 ?_
  refine lw_arg (k := 5) (lv := []) hx hb hX hbl hw.2.2.2.2.2.1 (lv_at hl 0 rfl) (lv_at hl 3 rfl) (by omega) hL rfl dL_law_724 dL_law_725 dL_law_726 dL_law_727 dL_law_728 ?_
  refine lw_call (M2 := M_X7_copy) (ls := ls) (as := [(xs (i + 1)).toInt, (xs (i + 2)).toInt, (xs (i + 3)).toInt, (xs (i + 4)).toInt, (xs (i + 5)).toInt].map vI) (La := LM) (Lb := LC) (Ga := GM G am) (Gb := G) (rest := [cv G (vI x)]) hx hb hml hown hts hK hl.1 dL_law_729 ll_102 mk_X7_copy mv_X7_copy ⟨Nat.le_of_ble_eq_true rfl, Nat.le_of_ble_eq_true rfl⟩ pM_0 ⟨_, _, rfl⟩ rfl (Nat.le_of_ble_eq_true rfl) hc0 hs0 hok h2 hw.swap (fun H1 locs1 hr hw => ?_)
  refine lv_icmp_eq (tgt := 807) (x := Int32.ofInt x) (y := Int32.ofInt x) hx hb dL_law_732 (by decide) (fun _ => kk c' m' H1 locs1 hI2 hw.swap) (fun h => absurd rfl h)
set_option maxHeartbeats 4000000 in
theorem lo_21 {p : Program} {l : Launch} {e : Env} {s : State} {m : MethodId} {below : List Frame} {meth : Method} {c : Code} {H : Heap} {locs : List Loc} {cells slots : Nat} {Q : State → Prop} {b Ln i : Nat} {xs : Nat → Int32} {ls : Array Slot} {G : Gd} {am : Nat → Nat} {sc sm : SS} {I : SS → SS → Prop}
    (hx : p.tables.exec = Jvm.exec) (hb : c.code = code) (hml : c.maxLocals = 4) (hown : s.vm.findClass R_law = some m.cls) (hts : ∀ w ∈ gtb, w.before #[Value.ref b] s = true) (hK : va_K G.1 vwCl (tys G) s) (hX : va_X b Ln xs s s.heap) (hbl : b < s.heap.size) (hL : Ln ≤ 3072) (hi : i + 6 ≤ Ln)
    (hc0 : cells ≤ room_1.cells) (hs0 : slots ≤ room_1.slots) (hl : lv_has ls 4 [(0, .ref b), (1, .ref (G.2.2 0)), (2, .ref (am 0)), (3, .int (Int32.ofInt i))]) (hw : L2 LC LM G (GM G am) s sc sm H locs) (hI : I sc sm) (hS : SOK vI M_X6_write M_X7_write 2 I)
    (kk : ∀ (c' m' : SS) (H1 : Heap) (locs1 : List Loc), I c' m' → L2 LC LM G (GM G am) s c' m' H1 locs1 → W p l e room_1 s m #[Value.ref b] below meth c H1 locs1 cells slots Q (F0 m 807 ls [])) : W p l e room_1 s m #[Value.ref b] below meth c H locs cells slots Q (F0 m 737 ls []) := by
  have hokI : ∀ a ∈ [(xs (i + 1)).toInt, (xs (i + 2)).toInt], IR a := by
    intro a ha
    simp only [List.mem_cons, List.not_mem_nil, or_false] at ha
    rcases ha with rfl | rfl <;> exact IR_32 _
  have hok : ∀ v ∈ [(xs (i + 1)).toInt, (xs (i + 2)).toInt].map vI, okv v := by
    intro v hv
    obtain ⟨a, ha, rfl⟩ := List.mem_map.mp hv
    exact hokI a ha
  obtain ⟨x, c', m', h1, h2, hI2⟩ := hS sc sm [(xs (i + 1)).toInt, (xs (i + 2)).toInt] rfl hokI hw.2.2.2.2.2.2.1 hw.2.2.2.2.2.2.2 hI
  refine lv_aload_n hx hb dL_law_737 rfl (lv_at hl 1 rfl) ?_
  refine lw_arg (k := 1) (lv := []) hx hb hX hbl hw.2.2.2.2.2.1 (lv_at hl 0 rfl) (lv_at hl 3 rfl) (by omega) hL rfl dL_law_738 dL_law_739 dL_law_740 dL_law_741 dL_law_742 ?_
  refine lw_arg (k := 2) (lv := []) hx hb hX hbl hw.2.2.2.2.2.1 (lv_at hl 0 rfl) (lv_at hl 3 rfl) (by omega) hL rfl dL_law_743 dL_law_744 dL_law_745 dL_law_746 dL_law_747 ?_
  refine lw_call (M2 := M_X6_write) (ls := ls) (as := [(xs (i + 1)).toInt, (xs (i + 2)).toInt].map vI) (La := LC) (Lb := LM) (Ga := G) (Gb := GM G am) (rest := []) hx hb hml hown hts hK hl.1 dL_law_748 ll_103 mk_X6_write mv_X6_write ⟨Nat.le_of_ble_eq_true rfl, Nat.le_of_ble_eq_true rfl⟩ pC_0 ⟨_, _, rfl⟩ rfl (Nat.le_of_ble_eq_true rfl) hc0 hs0 hok h1 hw (fun H1 locs1 hr hw => ?_)
  refine lv_aload_n hx hb dL_law_751 rfl (lv_at hl 2 rfl) ?_
  refine lw_arg (k := 1) (lv := []) hx hb hX hbl hw.2.2.2.2.2.1 (lv_at hl 0 rfl) (lv_at hl 3 rfl) (by omega) hL rfl dL_law_752 dL_law_753 dL_law_754 dL_law_755 dL_law_756 ?_
  refine lw_arg (k := 2) (lv := []) hx hb hX hbl hw.2.2.2.2.2.1 (lv_at hl 0 rfl) (lv_at hl 3 rfl) (by omega) hL rfl dL_law_757 dL_law_758 dL_law_759 dL_law_760 dL_law_761 ?_
  refine lw_call (M2 := M_X7_write) (ls := ls) (as := [(xs (i + 1)).toInt, (xs (i + 2)).toInt].map vI) (La := LM) (Lb := LC) (Ga := GM G am) (Gb := G) (rest := [cv G (vI x)]) hx hb hml hown hts hK hl.1 dL_law_762 ll_106 mk_X7_write mv_X7_write ⟨Nat.le_of_ble_eq_true rfl, Nat.le_of_ble_eq_true rfl⟩ pM_0 ⟨_, _, rfl⟩ rfl (Nat.le_of_ble_eq_true rfl) hc0 hs0 hok h2 hw.swap (fun H1 locs1 hr hw => ?_)
  refine lv_icmp_eq (tgt := 807) (x := Int32.ofInt x) (y := Int32.ofInt x) hx hb dL_law_765 (by decide) (fun _ => kk c' m' H1 locs1 hI2 hw.swap) (fun h => absurd rfl h)
set_option maxHeartbeats 4000000 in
theorem lo_22 {p : Program} {l : Launch} {e : Env} {s : State} {m : MethodId} {below : List Frame} {meth : Method} {c : Code} {H : Heap} {locs : List Loc} {cells slots : Nat} {Q : State → Prop} {b Ln i : Nat} {xs : Nat → Int32} {ls : Array Slot} {G : Gd} {am : Nat → Nat} {sc sm : SS} {I : SS → SS → Prop}
    (hx : p.tables.exec = Jvm.exec) (hb : c.code = code) (hml : c.maxLocals = 4) (hown : s.vm.findClass R_law = some m.cls) (hts : ∀ w ∈ gtb, w.before #[Value.ref b] s = true) (hK : va_K G.1 vwCl (tys G) s) (hX : va_X b Ln xs s s.heap) (hbl : b < s.heap.size) (hL : Ln ≤ 3072) (hi : i + 6 ≤ Ln)
    (hc0 : cells ≤ room_1.cells) (hs0 : slots ≤ room_1.slots) (hl : lv_has ls 4 [(0, .ref b), (1, .ref (G.2.2 0)), (2, .ref (am 0)), (3, .int (Int32.ofInt i))]) (hw : L2 LC LM G (GM G am) s sc sm H locs) (hI : I sc sm) (hS : SOK vI M_X6_count M_X7_count 1 I)
    (kk : ∀ (c' m' : SS) (H1 : Heap) (locs1 : List Loc), I c' m' → L2 LC LM G (GM G am) s c' m' H1 locs1 → W p l e room_1 s m #[Value.ref b] below meth c H1 locs1 cells slots Q (F0 m 807 ls [])) : W p l e room_1 s m #[Value.ref b] below meth c H locs cells slots Q (F0 m 770 ls []) := by
  have hokI : ∀ a ∈ [(xs (i + 1)).toInt], IR a := by
    intro a ha
    simp only [List.mem_cons, List.not_mem_nil, or_false] at ha
    subst ha; exact IR_32 _
  have hok : ∀ v ∈ [(xs (i + 1)).toInt].map vI, okv v := by
    intro v hv
    obtain ⟨a, ha, rfl⟩ := List.mem_map.mp hv
    exact hokI a ha
  obtain ⟨x, c', m', h1, h2, hI2⟩ := hS sc sm [(xs (i + 1)).toInt] rfl hokI hw.2.2.2.2.2.2.1 hw.2.2.2.2.2.2.2 hI
  refine lv_aload_n hx hb dL_law_770 rfl (lv_at hl 1 rfl) ?_
  refine lw_arg (k := 1) (lv := []) hx hb hX hbl hw.2.2.2.2.2.1 (lv_at hl 0 rfl) (lv_at hl 3 rfl) (by omega) hL rfl dL_law_771 dL_law_772 dL_law_773 dL_law_774 dL_law_775 ?_
  refine lw_call (M2 := M_X6_count) (ls := ls) (as := [(xs (i + 1)).toInt].map vI) (La := LC) (Lb := LM) (Ga := G) (Gb := GM G am) (rest := []) hx hb hml hown hts hK hl.1 dL_law_776 ll_107 mk_X6_count mv_X6_count ⟨Nat.le_of_ble_eq_true rfl, Nat.le_of_ble_eq_true rfl⟩ pC_0 ⟨_, _, rfl⟩ rfl (Nat.le_of_ble_eq_true rfl) hc0 hs0 hok h1 hw (fun H1 locs1 hr hw => ?_)
  refine lv_aload_n hx hb dL_law_779 rfl (lv_at hl 2 rfl) ?_
  refine lw_arg (k := 1) (lv := []) hx hb hX hbl hw.2.2.2.2.2.1 (lv_at hl 0 rfl) (lv_at hl 3 rfl) (by omega) hL rfl dL_law_780 dL_law_781 dL_law_782 dL_law_783 dL_law_784 ?_
  refine lw_call (M2 := M_X7_count) (ls := ls) (as := [(xs (i + 1)).toInt].map vI) (La := LM) (Lb := LC) (Ga := GM G am) (Gb := G) (rest := [cv G (vI x)]) hx hb hml hown hts hK hl.1 dL_law_785 ll_110 mk_X7_count mv_X7_count ⟨Nat.le_of_ble_eq_true rfl, Nat.le_of_ble_eq_true rfl⟩ pM_0 ⟨_, _, rfl⟩ rfl (Nat.le_of_ble_eq_true rfl) hc0 hs0 hok h2 hw.swap (fun H1 locs1 hr hw => ?_)
  refine lv_icmp_eq (tgt := 807) (x := Int32.ofInt x) (y := Int32.ofInt x) hx hb dL_law_788 (by decide) (fun _ => kk c' m' H1 locs1 hI2 hw.swap) (fun h => absurd rfl h)
set_option maxHeartbeats 4000000 in
theorem lo_23 {p : Program} {l : Launch} {e : Env} {s : State} {m : MethodId} {below : List Frame} {meth : Method} {c : Code} {H : Heap} {locs : List Loc} {cells slots : Nat} {Q : State → Prop} {b Ln i : Nat} {xs : Nat → Int32} {ls : Array Slot} {G : Gd} {am : Nat → Nat} {sc sm : SS} {I : SS → SS → Prop}
    (hx : p.tables.exec = Jvm.exec) (hb : c.code = code) (hml : c.maxLocals = 4) (hown : s.vm.findClass R_law = some m.cls) (hts : ∀ w ∈ gtb, w.before #[Value.ref b] s = true) (hK : va_K G.1 vwCl (tys G) s) (hX : va_X b Ln xs s s.heap) (hbl : b < s.heap.size) (hL : Ln ≤ 3072) (hi : i + 6 ≤ Ln)
    (hc0 : cells ≤ room_1.cells) (hs0 : slots ≤ room_1.slots) (hl : lv_has ls 4 [(0, .ref b), (1, .ref (G.2.2 0)), (2, .ref (am 0)), (3, .int (Int32.ofInt i))]) (hw : L2 LC LM G (GM G am) s sc sm H locs) (hI : I sc sm) (hS : SOK vL M_X6_digest M_X7_digest 0 I)
    (kk : ∀ (c' m' : SS) (H1 : Heap) (locs1 : List Loc), I c' m' → L2 LC LM G (GM G am) s c' m' H1 locs1 → W p l e room_1 s m #[Value.ref b] below meth c H1 locs1 cells slots Q (F0 m 807 ls [])) : W p l e room_1 s m #[Value.ref b] below meth c H locs cells slots Q (F0 m 793 ls []) := by
  have hokI : ∀ a ∈ ([] : List Int), IR a := by
    intro a ha
    skip
    cases ha
  have hok : ∀ v ∈ ([] : List Int).map vI, okv v := by
    intro v hv
    obtain ⟨a, ha, rfl⟩ := List.mem_map.mp hv
    exact hokI a ha
  obtain ⟨x, c', m', h1, h2, hI2⟩ := hS sc sm [] rfl hokI hw.2.2.2.2.2.2.1 hw.2.2.2.2.2.2.2 hI
  refine lv_aload_n hx hb dL_law_793 rfl (lv_at hl 1 rfl) ?_
  refine lw_call (M2 := M_X6_digest) (ls := ls) (as := [].map vI) (La := LC) (Lb := LM) (Ga := G) (Gb := GM G am) (rest := []) hx hb hml hown hts hK hl.1 dL_law_794 ll_111 mk_X6_digest mv_X6_digest ⟨Nat.le_of_ble_eq_true rfl, Nat.le_of_ble_eq_true rfl⟩ pC_0 ⟨_, _, rfl⟩ rfl (Nat.le_of_ble_eq_true rfl) hc0 hs0 hok h1 hw (fun H1 locs1 hr hw => ?_)
  refine lv_aload_n hx hb dL_law_797 rfl (lv_at hl 2 rfl) ?_
  refine lw_call (M2 := M_X7_digest) (ls := ls) (as := [].map vI) (La := LM) (Lb := LC) (Ga := GM G am) (Gb := G) (rest := [cv G (vL x)]) hx hb hml hown hts hK hl.1 dL_law_798 ll_115 mk_X7_digest mv_X7_digest ⟨Nat.le_of_ble_eq_true rfl, Nat.le_of_ble_eq_true rfl⟩ pM_0 ⟨_, _, rfl⟩ rfl (Nat.le_of_ble_eq_true rfl) hc0 hs0 hok h2 hw.swap (fun H1 locs1 hr hw => ?_)
  refine W.lcmp hx hb (x := Int64.ofInt x) (y := Int64.ofInt x) dL_law_801 ?_
  refine lv_if_eq (tgt := 807) hx hb dL_law_802 (by decide) (fun _ => kk c' m' H1 locs1 hI2 hw.swap) (fun h => absurd (by simp [lg_cmp]) h)
