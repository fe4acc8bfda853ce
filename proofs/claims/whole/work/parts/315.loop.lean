/-! ===== the law's loop, its start ===== -/
def ALLOK (I : SS → SS → Prop) : Prop := SOK vI M_X6_type M_X7_type 1 I ∧ SOK vI M_X6_wipe M_X7_wipe 0 I ∧ SOK vI M_X6_undo M_X7_undo 0 I ∧ SOK vI M_X6_fault M_X7_fault 0 I ∧ SOK vI M_X6_width M_X7_width 1 I ∧ SOK vI M_X6_read M_X7_read 1 I ∧ SOK vI M_X6_part M_X7_part 2 I ∧ SOK vI M_X6_frontier M_X7_frontier 3 I ∧ SOK vI M_X6_tried M_X7_tried 1 I ∧ SOK vI M_X6_best M_X7_best 1 I ∧ SOK vI M_X6_line M_X7_line 2 I ∧ SOK vI M_X6_way M_X7_way 2 I ∧ SOK vI M_X6_haste M_X7_haste 1 I ∧ SOK vI M_X6_enough M_X7_enough 0 I ∧ SOK vI M_X6_shrinks M_X7_shrinks 1 I ∧ SOK vI M_X6_spare M_X7_spare 0 I ∧ SOK vI M_X6_sheet M_X7_sheet 3 I ∧ SOK vI M_X6_lose M_X7_lose 1 I ∧ SOK vI M_X6_put M_X7_put 4 I ∧ SOK vI M_X6_get M_X7_get 3 I ∧ SOK vI M_X6_copy M_X7_copy 5 I ∧ SOK vI M_X6_write M_X7_write 2 I ∧ SOK vI M_X6_count M_X7_count 1 I ∧ SOK vL M_X6_digest M_X7_digest 0 I
theorem and31 (x : Int32) : ∃ v : Int, (x &&& 31) = Int32.ofInt v ∧ IR v := ⟨(x &&& 31).toInt, (Int32.ofInt_toInt _).symm, IR_32 _⟩
set_option maxHeartbeats 4000000 in
theorem law_loop {p : Program} {l : Launch} {e : Env} {s : State} {m : MethodId} {below : List Frame} {meth : Method} {c : Code} {b Ln : Nat} {xs : Nat → Int32} {G : Gd} {am : Nat → Nat} {I : SS → SS → Prop} {cells slots : Nat}
    (hx : p.tables.exec = Jvm.exec) (hb : c.code = code) (hr : meth.sig.returnType = ret) (hlocks : meth.locks = false) (hml : c.maxLocals = 4) (hown : s.vm.findClass R_law = some m.cls) (hts : ∀ w ∈ gtb, w.before #[Value.ref b] s = true) (hK : va_K G.1 vwCl (tys G) s) (hX : va_X b Ln xs s s.heap) (hbl : b < s.heap.size) (hL : Ln ≤ 3072)
    (hc0 : cells ≤ room_1.cells) (hs0 : slots ≤ room_1.slots) (hA : ALLOK I) : ∀ (n i : Nat) (sc sm : SS) (H : Heap) (locs : List Loc) (ls : Array Slot), Ln + 6 < n + i → i ≤ Ln + 6 → lv_has ls 4 [(0, .ref b), (1, .ref (G.2.2 0)), (2, .ref (am 0)), (3, .int (Int32.ofInt i))] → L2 LC LM G (GM G am) s sc sm H locs → I sc sm →
    W p l e room_1 s m #[Value.ref b] below meth c H locs cells slots (lw_Z below #[Value.ref b] s) (F0 m 18 ls []) := by
  have hbA : ¬ (fun q : Nat => s.heap.size ≤ q) b := Nat.not_le.mpr hbl
  intro n
  induction n with
  | zero => intro i sc sm H locs ls h1 h2; omega
  | succ n ih =>
    intro i sc sm H locs ls hn1 hn2 hl hw hI
    have hS := hw.2.2.2.2.2.1
    refine lv_iload_n hx hb dL_law_18 rfl (lv_at hl 3 rfl) ?_
    refine lv_aload_n hx hb dL_law_19 rfl (lv_at hl 0 rfl) ?_
    refine va_slen hx hb hX hbl hbA hS dL_law_20 ?_
    refine lv_bipush (v := 6) hx hb dL_law_21 (by decide) ?_
    refine lv_isub hx hb dL_law_23 ?_
    have e0 : Int32.ofNat Ln - 6 = Int32.ofInt ((Ln : Int) - 6) := by
      rw [← oi_sub, Int32.ofInt_eq_ofNat]
      rfl
    rw [e0]
    have hRi : IR (i : Int) := ⟨by omega, by omega⟩
    have hRl : IR ((Ln : Int) - 6) := ⟨by omega, by omega⟩
    refine lv_icmp_gt (tgt := 813) hx hb dL_law_24 (by decide) (fun h => ?_) (fun h => ?_)
    · refine va_forget (fun q hq => hS.2.2 q hq) ?_
      refine W.widen (k := 600000) (n := 7302250) hc0 hs0 ?_
      refine lv_iconst (v := 1) hx hb dL_law_813 (by decide) ?_
      exact lw_ret hx hb hr hlocks dL_law_814
    · have hi : i + 6 ≤ Ln := by
        have h3 : ¬ ((Ln : Int) - 6 < i) := fun q => h ((oi_lt hRl hRi).mpr q)
        omega
      have next : ∀ (c' m' : SS) (H1 : Heap) (locs1 : List Loc), I c' m' → L2 LC LM G (GM G am) s c' m' H1 locs1 → W p l e room_1 s m #[Value.ref b] below meth c H1 locs1 cells slots (lw_Z below #[Value.ref b] s) (F0 m 807 ls []) := by
        intro c' m' H1 locs1 hI1 hw1
        refine lv_iinc (v := Int32.ofInt ((i + 6 : Nat) : Int)) (lv' := [(3, .int (Int32.ofInt ((i + 6 : Nat) : Int))), (0, .ref b), (1, .ref (G.2.2 0)), (2, .ref (am 0))]) hx hb dL_law_807 hl (k := 3) rfl (by rw [oi_add]; rfl) (by decide) rfl (fun ls1 hl1 => ?_)
        refine lv_goto (tgt := 18) hx hb dL_law_810 (by decide) ?_
        exact ih (i + 6) c' m' H1 locs1 ls1 (by omega) (by omega) (lv_sub hl1 [1, 2, 3, 0] rfl) hw1 hI1
      refine lv_aload_n hx hb dL_law_27 rfl (lv_at hl 0 rfl) ?_
      refine lv_iload_n hx hb dL_law_28 rfl (lv_at hl 3 rfl) ?_
      refine va_sld hx hb hX hbl hbA hS (oi_in hRi (by omega)) dL_law_29 ?_
      refine lv_bipush (v := 31) hx hb dL_law_30 (by decide) ?_
      refine lv_iand hx hb dL_law_32 ?_
      obtain ⟨v, hv, hRv⟩ := and31 (xs (Int32.ofInt (i : Int)).toNatClampNeg)
      rw [hv]
      have hvt : (Int32.ofInt v).toInt = v := ti_of hRv
      by_cases h0 : v = 0
      · refine lv_tableIn (tgt := 144) hx hb dL_law_33 (by rw [hvt, h0]; decide) (by rw [hvt, h0]; decide) (by rw [hvt, h0]; rfl) (by decide) ?_
        exact lo_0 hx hb hml hown hts hK hX hbl hL hi hc0 hs0 hl hw hI hA.1 next
      by_cases h1 : v = 1
      · refine lv_tableIn (tgt := 167) hx hb dL_law_33 (by rw [hvt, h1]; decide) (by rw [hvt, h1]; decide) (by rw [hvt, h1]; rfl) (by decide) ?_
        exact lo_1 hx hb hml hown hts hK hX hbl hL hi hc0 hs0 hl hw hI hA.2.1 next
      by_cases h2 : v = 2
      · refine lv_tableIn (tgt := 180) hx hb dL_law_33 (by rw [hvt, h2]; decide) (by rw [hvt, h2]; decide) (by rw [hvt, h2]; rfl) (by decide) ?_
        exact lo_2 hx hb hml hown hts hK hX hbl hL hi hc0 hs0 hl hw hI hA.2.2.1 next
      by_cases h3 : v = 3
      · refine lv_tableIn (tgt := 193) hx hb dL_law_33 (by rw [hvt, h3]; decide) (by rw [hvt, h3]; decide) (by rw [hvt, h3]; rfl) (by decide) ?_
        exact lo_3 hx hb hml hown hts hK hX hbl hL hi hc0 hs0 hl hw hI hA.2.2.2.1 next
      by_cases h4 : v = 4
      · refine lv_tableIn (tgt := 206) hx hb dL_law_33 (by rw [hvt, h4]; decide) (by rw [hvt, h4]; decide) (by rw [hvt, h4]; rfl) (by decide) ?_
        exact lo_4 hx hb hml hown hts hK hX hbl hL hi hc0 hs0 hl hw hI hA.2.2.2.2.1 next
      by_cases h5 : v = 5
      · refine lv_tableIn (tgt := 229) hx hb dL_law_33 (by rw [hvt, h5]; decide) (by rw [hvt, h5]; decide) (by rw [hvt, h5]; rfl) (by decide) ?_
        exact lo_5 hx hb hml hown hts hK hX hbl hL hi hc0 hs0 hl hw hI hA.2.2.2.2.2.1 next
      by_cases h6 : v = 6
      · refine lv_tableIn (tgt := 252) hx hb dL_law_33 (by rw [hvt, h6]; decide) (by rw [hvt, h6]; decide) (by rw [hvt, h6]; rfl) (by decide) ?_
        exact lo_6 hx hb hml hown hts hK hX hbl hL hi hc0 hs0 hl hw hI hA.2.2.2.2.2.2.1 next
      by_cases h7 : v = 7
      · refine lv_tableIn (tgt := 285) hx hb dL_law_33 (by rw [hvt, h7]; decide) (by rw [hvt, h7]; decide) (by rw [hvt, h7]; rfl) (by decide) ?_
        exact lo_7 hx hb hml hown hts hK hX hbl hL hi hc0 hs0 hl hw hI hA.2.2.2.2.2.2.2.1 next
      by_cases h8 : v = 8
      · refine lv_tableIn (tgt := 328) hx hb dL_law_33 (by rw [hvt, h8]; decide) (by rw [hvt, h8]; decide) (by rw [hvt, h8]; rfl) (by decide) ?_
        exact lo_8 hx hb hml hown hts hK hX hbl hL hi hc0 hs0 hl hw hI hA.2.2.2.2.2.2.2.2.1 next
      by_cases h9 : v = 9
      · refine lv_tableIn (tgt := 351) hx hb dL_law_33 (by rw [hvt, h9]; decide) (by rw [hvt, h9]; decide) (by rw [hvt, h9]; rfl) (by decide) ?_
        exact lo_9 hx hb hml hown hts hK hX hbl hL hi hc0 hs0 hl hw hI hA.2.2.2.2.2.2.2.2.2.1 next
      by_cases h10 : v = 10
      · refine lv_tableIn (tgt := 374) hx hb dL_law_33 (by rw [hvt, h10]; decide) (by rw [hvt, h10]; decide) (by rw [hvt, h10]; rfl) (by decide) ?_
        exact lo_10 hx hb hml hown hts hK hX hbl hL hi hc0 hs0 hl hw hI hA.2.2.2.2.2.2.2.2.2.2.1 next
      by_cases h11 : v = 11
      · refine lv_tableIn (tgt := 407) hx hb dL_law_33 (by rw [hvt, h11]; decide) (by rw [hvt, h11]; decide) (by rw [hvt, h11]; rfl) (by decide) ?_
        exact lo_11 hx hb hml hown hts hK hX hbl hL hi hc0 hs0 hl hw hI hA.2.2.2.2.2.2.2.2.2.2.2.1 next
      by_cases h12 : v = 12
      · refine lv_tableIn (tgt := 440) hx hb dL_law_33 (by rw [hvt, h12]; decide) (by rw [hvt, h12]; decide) (by rw [hvt, h12]; rfl) (by decide) ?_
        exact lo_12 hx hb hml hown hts hK hX hbl hL hi hc0 hs0 hl hw hI hA.2.2.2.2.2.2.2.2.2.2.2.2.1 next
      by_cases h13 : v = 13
      · refine lv_tableIn (tgt := 463) hx hb dL_law_33 (by rw [hvt, h13]; decide) (by rw [hvt, h13]; decide) (by rw [hvt, h13]; rfl) (by decide) ?_
        exact lo_13 hx hb hml hown hts hK hX hbl hL hi hc0 hs0 hl hw hI hA.2.2.2.2.2.2.2.2.2.2.2.2.2.1 next
      by_cases h14 : v = 14
      · refine lv_tableIn (tgt := 476) hx hb dL_law_33 (by rw [hvt, h14]; decide) (by rw [hvt, h14]; decide) (by rw [hvt, h14]; rfl) (by decide) ?_
        exact lo_14 hx hb hml hown hts hK hX hbl hL hi hc0 hs0 hl hw hI hA.2.2.2.2.2.2.2.2.2.2.2.2.2.2.1 next
      by_cases h15 : v = 15
      · refine lv_tableIn (tgt := 499) hx hb dL_law_33 (by rw [hvt, h15]; decide) (by rw [hvt, h15]; decide) (by rw [hvt, h15]; rfl) (by decide) ?_
        exact lo_15 hx hb hml hown hts hK hX hbl hL hi hc0 hs0 hl hw hI hA.2.2.2.2.2.2.2.2.2.2.2.2.2.2.2.1 next
      by_cases h16 : v = 16
      · refine lv_tableIn (tgt := 512) hx hb dL_law_33 (by rw [hvt, h16]; decide) (by rw [hvt, h16]; decide) (by rw [hvt, h16]; rfl) (by decide) ?_
        exact lo_16 hx hb hml hown hts hK hX hbl hL hi hc0 hs0 hl hw hI hA.2.2.2.2.2.2.2.2.2.2.2.2.2.2.2.2.1 next
      by_cases h17 : v = 17
      · refine lv_tableIn (tgt := 555) hx hb dL_law_33 (by rw [hvt, h17]; decide) (by rw [hvt, h17]; decide) (by rw [hvt, h17]; rfl) (by decide) ?_
        exact lo_17 hx hb hml hown hts hK hX hbl hL hi hc0 hs0 hl hw hI hA.2.2.2.2.2.2.2.2.2.2.2.2.2.2.2.2.2.1 next
      by_cases h18 : v = 18
      · refine lv_tableIn (tgt := 578) hx hb dL_law_33 (by rw [hvt, h18]; decide) (by rw [hvt, h18]; decide) (by rw [hvt, h18]; rfl) (by decide) ?_
        exact lo_18 hx hb hml hown hts hK hX hbl hL hi hc0 hs0 hl hw hI hA.2.2.2.2.2.2.2.2.2.2.2.2.2.2.2.2.2.2.1 next
      by_cases h19 : v = 19
      · refine lv_tableIn (tgt := 631) hx hb dL_law_33 (by rw [hvt, h19]; decide) (by rw [hvt, h19]; decide) (by rw [hvt, h19]; rfl) (by decide) ?_
        exact lo_19 hx hb hml hown hts hK hX hbl hL hi hc0 hs0 hl hw hI hA.2.2.2.2.2.2.2.2.2.2.2.2.2.2.2.2.2.2.2.1 next
      by_cases h20 : v = 20
      · refine lv_tableIn (tgt := 674) hx hb dL_law_33 (by rw [hvt, h20]; decide) (by rw [hvt, h20]; decide) (by rw [hvt, h20]; rfl) (by decide) ?_
        exact lo_20 hx hb hml hown hts hK hX hbl hL hi hc0 hs0 hl hw hI hA.2.2.2.2.2.2.2.2.2.2.2.2.2.2.2.2.2.2.2.2.1 next
      by_cases h21 : v = 21
      · refine lv_tableIn (tgt := 737) hx hb dL_law_33 (by rw [hvt, h21]; decide) (by rw [hvt, h21]; decide) (by rw [hvt, h21]; rfl) (by decide) ?_
        exact lo_21 hx hb hml hown hts hK hX hbl hL hi hc0 hs0 hl hw hI hA.2.2.2.2.2.2.2.2.2.2.2.2.2.2.2.2.2.2.2.2.2.1 next
      by_cases h22 : v = 22
      · refine lv_tableIn (tgt := 770) hx hb dL_law_33 (by rw [hvt, h22]; decide) (by rw [hvt, h22]; decide) (by rw [hvt, h22]; rfl) (by decide) ?_
        exact lo_22 hx hb hml hown hts hK hX hbl hL hi hc0 hs0 hl hw hI hA.2.2.2.2.2.2.2.2.2.2.2.2.2.2.2.2.2.2.2.2.2.2.1 next
      by_cases h23 : v = 23
      · refine lv_tableIn (tgt := 793) hx hb dL_law_33 (by rw [hvt, h23]; decide) (by rw [hvt, h23]; decide) (by rw [hvt, h23]; rfl) (by decide) ?_
        exact lo_23 hx hb hml hown hts hK hX hbl hL hi hc0 hs0 hl hw hI hA.2.2.2.2.2.2.2.2.2.2.2.2.2.2.2.2.2.2.2.2.2.2.2 next
      refine lv_tableOut (tgt := 807) hx hb dL_law_33 (by rw [hvt]; omega) (by decide) ?_
      exact next sc sm H locs hI hw
