def g_X6_isByte_16 (z0 : Int) : Option Int :=
  gb z0 <|
  some z0
set_option maxHeartbeats 4000000 in
theorem t_X6_isByte_16  : ∀ (z0 : Int) (s0 : SS) (r : Int), g_X6_isByte_16 z0 = some r → AW LC M_X6_isByte (some (vI r), s0) 16 [none] [vI z0] s0 := by
  intro z0 s0 r h
  unfold g_X6_isByte_16 at h
  obtain ⟨hg1, h⟩ := gb_e h
  obtain rfl := Option.some.inj h
  exact aw_zret dX6_isByte_16 rfl hg1
def g_X6_isByte_15  : Option Int :=
  g_X6_isByte_16  0
set_option maxHeartbeats 4000000 in
theorem t_X6_isByte_15  : ∀ (s0 : SS) (r : Int), g_X6_isByte_15 = some r → AW LC M_X6_isByte (some (vI r), s0) 15 [none] [] s0 := by
  intro s0 r h
  unfold g_X6_isByte_15 at h
  refine aw_iconst dX6_isByte_15 ⟨by decide, by decide⟩ ?_
  exact (t_X6_isByte_16   0 s0 _ h)
def f_X6_isByte (x0 : Int) : Option Int :=
  if x0 < 0 then (
    g_X6_isByte_15  
  ) else (
    if 255 < x0 then (
      g_X6_isByte_15  
    ) else (
      g_X6_isByte_16  1
    )
  )
set_option maxHeartbeats 4000000 in
theorem t_X6_isByte_0  : ∀ (x0 : Int) (s0 : SS) (r : Int), f_X6_isByte x0 = some r → AW LC M_X6_isByte (some (vI r), s0) 0 [some (vI x0)] [] s0 := by
  intro x0 s0 r h
  unfold f_X6_isByte at h
  refine aw_iload_n dX6_isByte_0 rfl rfl ?_
  refine aw_if_lt (tgt := 15) dX6_isByte_1 (by decide) (fun hc => ?_) (fun hc => ?_)
  · replace h := ip hc h
    exact aw_less (ls' := [none]) (trivial) (t_X6_isByte_15   s0 _ h)
  · replace h := ic hc h
    refine aw_iload_n dX6_isByte_4 rfl rfl ?_
    refine aw_sipush dX6_isByte_5 ⟨by decide, by decide⟩ (by decide) ?_
    refine aw_icmp_gt (tgt := 15) dX6_isByte_8 (by decide) (fun hc => ?_) (fun hc => ?_)
    · replace h := ip hc h
      exact aw_less (ls' := [none]) (trivial) (t_X6_isByte_15   s0 _ h)
    · replace h := ic hc h
      refine aw_iconst dX6_isByte_11 ⟨by decide, by decide⟩ ?_
      refine aw_goto (tgt := 16) dX6_isByte_12 (by decide) ?_
      exact aw_less (ls' := [none]) (trivial) (t_X6_isByte_16   1 s0 _ h)
theorem c_X6_isByte {x0 : Int} {s0 : SS} {y : Int} (h : f_X6_isByte x0 = some y) : CT LC M_X6_isByte [vI x0] s0 (some (vI y), s0) :=
  ct_of (n := 0) (by decide) (Nat.le_of_ble_eq_true rfl) (t_X6_isByte_0 x0 s0  _ h)
def g_X0_append_19  (s0 : SS) : Option (Int × SS) :=
  some (0, s0)
set_option maxHeartbeats 4000000 in
theorem t_X0_append_19  : ∀ (s0 : SS) (r : (Int × SS)), g_X0_append_19 s0 = some r → AW LC M_X0_append (some (vI r.1), r.2) 19 [none, none] [] s0 := by
  intro s0 r h
  unfold g_X0_append_19 at h
  refine aw_iconst dX0_append_19 ⟨by decide, by decide⟩ ?_
  obtain rfl := Option.some.inj h
  exact aw_zret dX0_append_20 rfl (Or.inl rfl)
def f_X0_append (x1 : Int) (s0 : SS) : Option (Int × SS) :=
  if (s0 1 8) < 0 then (
    g_X0_append_19  s0
  ) else (
    if (s0 1 8) < 40 then (
      gx (s0 1 8) 40 <|
      sb (up s0 2 (s0 1 8).toNat x1) fun s1 =>
      sb (up s1 1 8 (wr ((s1 1 8) + 1))) fun s2 =>
      some (1, s2)
    ) else (
      g_X0_append_19  s0
    )
  )
set_option maxHeartbeats 4000000 in
theorem t_X0_append_0  : ∀ (x1 : Int) (s0 : SS) (r : (Int × SS)), f_X0_append x1 s0 = some r → AW LC M_X0_append (some (vI r.1), r.2) 0 [some (vR (some 1)), some (vI x1)] [] s0 := by
  intro x1 s0 r h
  unfold f_X0_append at h
  refine aw_aload_n dX0_append_0 rfl rfl ?_
  refine aw_getI dX0_append_1 fk_X0_43 pC_1 rfl ?_
  refine aw_if_lt (tgt := 19) dX0_append_4 (by decide) (fun hc => ?_) (fun hc => ?_)
  · replace h := ip hc h
    exact aw_less (ls' := [none, none]) (trivial) (t_X0_append_19   s0 _ h)
  · replace h := ic hc h
    refine aw_aload_n dX0_append_7 rfl rfl ?_
    refine aw_getI dX0_append_8 fk_X0_43 pC_1 rfl ?_
    refine aw_aload_n dX0_append_11 rfl rfl ?_
    refine aw_getR (t := 2) dX0_append_12 fk_X0_9 pC_1 rfl ?_
    refine aw_alen dX0_append_15 aC_2 (by decide) ⟨by decide, by decide⟩ ?_
    refine aw_icmp_lt (tgt := 21) dX0_append_16 (by decide) (fun hc => ?_) (fun hc => ?_)
    · replace h := ip hc h
      refine aw_aload_n dX0_append_21 rfl rfl ?_
      refine aw_getR (t := 2) dX0_append_22 fk_X0_9 pC_1 rfl ?_
      refine aw_aload_n dX0_append_25 rfl rfl ?_
      refine aw_getI dX0_append_26 fk_X0_43 pC_1 rfl ?_
      refine aw_iload_n dX0_append_29 rfl rfl ?_
      obtain ⟨hg1, h⟩ := gx_e h
      refine aw_iast dX0_append_30 aC_2 hg1 (fun s1 e => ?_)
      replace h := sb_e h e
      clear e
      refine aw_aload_n dX0_append_31 rfl rfl ?_
      refine aw_dup dX0_append_32 rfl ?_
      refine aw_getI dX0_append_33 fk_X0_43 pC_1 rfl ?_
      refine aw_iconst dX0_append_36 ⟨by decide, by decide⟩ ?_
      refine aw_iadd dX0_append_37 ?_
      refine aw_put dX0_append_38 fk_X0_43 pC_1 rfl ft_0_8 (nar_int _) (fun s2 e => ?_)
      replace h := sb_e h e
      clear e
      refine aw_iconst dX0_append_41 ⟨by decide, by decide⟩ ?_
      obtain rfl := Option.some.inj h
      exact aw_zret dX0_append_42 rfl (Or.inr rfl)
    · replace h := ic hc h
      exact aw_less (ls' := [none, none]) (trivial) (t_X0_append_19   s0 _ h)
theorem c_X0_append {x1 : Int} {s0 : SS} {y : Int} {s1 : SS} (h : f_X0_append x1 s0 = some (y, s1)) : CT LC M_X0_append [vR (some 1), vI x1] s0 (some (vI y), s1) :=
  ct_of (n := 0) (by decide) (Nat.le_of_ble_eq_true rfl) (t_X0_append_0 x1 s0  _ h)
def g_X0_hasPart_23 (z0 : Int) (s0 : SS) : Option Int :=
  gb z0 <|
  some z0
set_option maxHeartbeats 4000000 in
theorem t_X0_hasPart_23  : ∀ (z0 : Int) (s0 : SS) (r : Int), g_X0_hasPart_23 z0 s0 = some r → AW LC M_X0_hasPart (some (vI r), s0) 23 [none, none] [vI z0] s0 := by
  intro z0 s0 r h
  unfold g_X0_hasPart_23 at h
  obtain ⟨hg1, h⟩ := gb_e h
  obtain rfl := Option.some.inj h
  exact aw_zret dX0_hasPart_23 rfl hg1
def g_X0_hasPart_22  (s0 : SS) : Option Int :=
  g_X0_hasPart_23  0 s0
set_option maxHeartbeats 4000000 in
theorem t_X0_hasPart_22  : ∀ (s0 : SS) (r : Int), g_X0_hasPart_22 s0 = some r → AW LC M_X0_hasPart (some (vI r), s0) 22 [none, none] [] s0 := by
  intro s0 r h
  unfold g_X0_hasPart_22 at h
  refine aw_iconst dX0_hasPart_22 ⟨by decide, by decide⟩ ?_
  exact (t_X0_hasPart_23   0 s0 _ h)
def f_X0_hasPart (x1 : Int) (s0 : SS) : Option Int :=
  if x1 < 0 then (
    g_X0_hasPart_22  s0
  ) else (
    if (s0 1 9) ≤ x1 then (
      g_X0_hasPart_22  s0
    ) else (
      if 40 ≤ x1 then (
        g_X0_hasPart_22  s0
      ) else (
        g_X0_hasPart_23  1 s0
      )
    )
  )
set_option maxHeartbeats 4000000 in
theorem t_X0_hasPart_0  : ∀ (x1 : Int) (s0 : SS) (r : Int), f_X0_hasPart x1 s0 = some r → AW LC M_X0_hasPart (some (vI r), s0) 0 [some (vR (some 1)), some (vI x1)] [] s0 := by
  intro x1 s0 r h
  unfold f_X0_hasPart at h
  refine aw_iload_n dX0_hasPart_0 rfl rfl ?_
  refine aw_if_lt (tgt := 22) dX0_hasPart_1 (by decide) (fun hc => ?_) (fun hc => ?_)
  · replace h := ip hc h
    exact aw_less (ls' := [none, none]) (trivial) (t_X0_hasPart_22   s0 _ h)
  · replace h := ic hc h
    refine aw_iload_n dX0_hasPart_4 rfl rfl ?_
    refine aw_aload_n dX0_hasPart_5 rfl rfl ?_
    refine aw_getI dX0_hasPart_6 fk_X0_46 pC_1 rfl ?_
    refine aw_icmp_ge (tgt := 22) dX0_hasPart_9 (by decide) (fun hc => ?_) (fun hc => ?_)
    · replace h := ip hc h
      exact aw_less (ls' := [none, none]) (trivial) (t_X0_hasPart_22   s0 _ h)
    · replace h := ic hc h
      refine aw_iload_n dX0_hasPart_12 rfl rfl ?_
      refine aw_bipush dX0_hasPart_13 ⟨by decide, by decide⟩ (by decide) ?_
      refine aw_icmp_ge (tgt := 22) dX0_hasPart_15 (by decide) (fun hc => ?_) (fun hc => ?_)
      · replace h := ip hc h
        exact aw_less (ls' := [none, none]) (trivial) (t_X0_hasPart_22   s0 _ h)
      · replace h := ic hc h
        refine aw_iconst dX0_hasPart_18 ⟨by decide, by decide⟩ ?_
        refine aw_goto (tgt := 23) dX0_hasPart_19 (by decide) ?_
        exact aw_less (ls' := [none, none]) (trivial) (t_X0_hasPart_23   1 s0 _ h)
theorem c_X0_hasPart {x1 : Int} {s0 : SS} {y : Int} (h : f_X0_hasPart x1 s0 = some y) : CT LC M_X0_hasPart [vR (some 1), vI x1] s0 (some (vI y), s0) :=
  ct_of (n := 0) (by decide) (Nat.le_of_ble_eq_true rfl) (t_X0_hasPart_0 x1 s0  _ h)
def g_X0_takesFigure_12  (s0 : SS) : Option (Int × SS) :=
  some (0, s0)
set_option maxHeartbeats 4000000 in
theorem t_X0_takesFigure_12  : ∀ (s0 : SS) (r : (Int × SS)), g_X0_takesFigure_12 s0 = some r → AW LC M_X0_takesFigure (some (vI r.1), r.2) 12 [none, none] [] s0 := by
  intro s0 r h
  unfold g_X0_takesFigure_12 at h
  refine aw_iconst dX0_takesFigure_12 ⟨by decide, by decide⟩ ?_
  obtain rfl := Option.some.inj h
  exact aw_zret dX0_takesFigure_13 rfl (Or.inl rfl)
def f_X0_takesFigure (x1 : Int) (s0 : SS) : Option (Int × SS) :=
  if x1 < 49 then (
    g_X0_takesFigure_12  s0
  ) else (
    if x1 ≤ 57 then (
      gx (s0 1 12) 40 <|
      sb (up s0 9 (s0 1 12).toNat (wr (x1 - 48))) fun s1 =>
      some (1, s1)
    ) else (
      g_X0_takesFigure_12  s0
    )
  )
set_option maxHeartbeats 4000000 in
theorem t_X0_takesFigure_0  : ∀ (x1 : Int) (s0 : SS) (r : (Int × SS)), f_X0_takesFigure x1 s0 = some r → AW LC M_X0_takesFigure (some (vI r.1), r.2) 0 [some (vR (some 1)), some (vI x1)] [] s0 := by
  intro x1 s0 r h
  unfold f_X0_takesFigure at h
  refine aw_iload_n dX0_takesFigure_0 rfl rfl ?_
  refine aw_bipush dX0_takesFigure_1 ⟨by decide, by decide⟩ (by decide) ?_
  refine aw_icmp_lt (tgt := 12) dX0_takesFigure_3 (by decide) (fun hc => ?_) (fun hc => ?_)
  · replace h := ip hc h
    exact aw_less (ls' := [none, none]) (trivial) (t_X0_takesFigure_12   s0 _ h)
  · replace h := ic hc h
    refine aw_iload_n dX0_takesFigure_6 rfl rfl ?_
    refine aw_bipush dX0_takesFigure_7 ⟨by decide, by decide⟩ (by decide) ?_
    refine aw_icmp_le (tgt := 14) dX0_takesFigure_9 (by decide) (fun hc => ?_) (fun hc => ?_)
    · replace h := ip hc h
      refine aw_aload_n dX0_takesFigure_14 rfl rfl ?_
      refine aw_getR (t := 9) dX0_takesFigure_15 fk_X0_33 pC_1 rfl ?_
      refine aw_aload_n dX0_takesFigure_18 rfl rfl ?_
      refine aw_getI dX0_takesFigure_19 fk_X0_40 pC_1 rfl ?_
      refine aw_iload_n dX0_takesFigure_22 rfl rfl ?_
      refine aw_bipush dX0_takesFigure_23 ⟨by decide, by decide⟩ (by decide) ?_
      refine aw_isub dX0_takesFigure_25 ?_
      obtain ⟨hg1, h⟩ := gx_e h
      refine aw_iast dX0_takesFigure_26 aC_9 hg1 (fun s1 e => ?_)
      replace h := sb_e h e
      clear e
      refine aw_iconst dX0_takesFigure_27 ⟨by decide, by decide⟩ ?_
      obtain rfl := Option.some.inj h
      exact aw_zret dX0_takesFigure_28 rfl (Or.inr rfl)
    · replace h := ic hc h
      exact aw_less (ls' := [none, none]) (trivial) (t_X0_takesFigure_12   s0 _ h)
theorem c_X0_takesFigure {x1 : Int} {s0 : SS} {y : Int} {s1 : SS} (h : f_X0_takesFigure x1 s0 = some (y, s1)) : CT LC M_X0_takesFigure [vR (some 1), vI x1] s0 (some (vI y), s1) :=
  ct_of (n := 0) (by decide) (Nat.le_of_ble_eq_true rfl) (t_X0_takesFigure_0 x1 s0  _ h)
def g_X0_kindOf_79 (z0 : Int) : Option Int :=
  some z0
set_option maxHeartbeats 4000000 in
theorem t_X0_kindOf_79  : ∀ (z0 : Int) (s0 : SS) (r : Int), g_X0_kindOf_79 z0 = some r → AW LC M_X0_kindOf (some (vI r), s0) 79 [none] [vI z0] s0 := by
  intro z0 s0 r h
  unfold g_X0_kindOf_79 at h
  obtain rfl := Option.some.inj h
  exact aw_iret dX0_kindOf_79 rfl
def g_X0_kindOf_78  : Option Int :=
  g_X0_kindOf_79  (-1)
set_option maxHeartbeats 4000000 in
theorem t_X0_kindOf_78  : ∀ (s0 : SS) (r : Int), g_X0_kindOf_78 = some r → AW LC M_X0_kindOf (some (vI r), s0) 78 [none] [] s0 := by
  intro s0 r h
  unfold g_X0_kindOf_78 at h
  refine aw_iconst dX0_kindOf_78 ⟨by decide, by decide⟩ ?_
  exact (t_X0_kindOf_79   (-1) s0 _ h)
def f_X0_kindOf (x0 : Int) : Option Int :=
  if x0 = 67 then (
    some 3
  ) else (
  if x0 = 70 then (
    some 5
  ) else (
  if x0 = 72 then (
    some 1
  ) else (
  if x0 = 78 then (
    some 4
  ) else (
  if x0 = 86 then (
    some 2
  ) else (
    if x0 < 97 then (
      g_X0_kindOf_78  
    ) else (
      if 105 < x0 then (
        g_X0_kindOf_78  
      ) else (
        g_X0_kindOf_79  0
      )
    )
  )
  )
  )
  )
  )
set_option maxHeartbeats 4000000 in
theorem t_X0_kindOf_0  : ∀ (x0 : Int) (s0 : SS) (r : Int), f_X0_kindOf x0 = some r → AW LC M_X0_kindOf (some (vI r), s0) 0 [some (vI x0)] [] s0 := by
  intro x0 s0 r h
  unfold f_X0_kindOf at h
  refine aw_iload_n dX0_kindOf_0 rfl rfl ?_
  by_cases hc : x0 = 67
  · replace h := ip hc h
    refine aw_lookup (tgt := 56) dX0_kindOf_1 (by decide) (by rw [hc]) (by decide) ?_
    refine aw_iconst dX0_kindOf_56 ⟨by decide, by decide⟩ ?_
    obtain rfl := Option.some.inj h
    exact aw_iret dX0_kindOf_57 rfl
  replace h := ic hc h
  have hn67 := hc
  clear hc
  by_cases hc : x0 = 70
  · replace h := ip hc h
    refine aw_lookup (tgt := 60) dX0_kindOf_1 (by decide) (by rw [hc]) (by decide) ?_
    refine aw_iconst dX0_kindOf_60 ⟨by decide, by decide⟩ ?_
    obtain rfl := Option.some.inj h
    exact aw_iret dX0_kindOf_61 rfl
  replace h := ic hc h
  have hn70 := hc
  clear hc
  by_cases hc : x0 = 72
  · replace h := ip hc h
    refine aw_lookup (tgt := 52) dX0_kindOf_1 (by decide) (by rw [hc]) (by decide) ?_
    refine aw_iconst dX0_kindOf_52 ⟨by decide, by decide⟩ ?_
    obtain rfl := Option.some.inj h
    exact aw_iret dX0_kindOf_53 rfl
  replace h := ic hc h
  have hn72 := hc
  clear hc
  by_cases hc : x0 = 78
  · replace h := ip hc h
    refine aw_lookup (tgt := 58) dX0_kindOf_1 (by decide) (by rw [hc]) (by decide) ?_
    refine aw_iconst dX0_kindOf_58 ⟨by decide, by decide⟩ ?_
    obtain rfl := Option.some.inj h
    exact aw_iret dX0_kindOf_59 rfl
  replace h := ic hc h
  have hn78 := hc
  clear hc
  by_cases hc : x0 = 86
  · replace h := ip hc h
    refine aw_lookup (tgt := 54) dX0_kindOf_1 (by decide) (by rw [hc]) (by decide) ?_
    refine aw_iconst dX0_kindOf_54 ⟨by decide, by decide⟩ ?_
    obtain rfl := Option.some.inj h
    exact aw_iret dX0_kindOf_55 rfl
  replace h := ic hc h
  have hn86 := hc
  clear hc
  refine aw_lookup (tgt := 62) dX0_kindOf_1 (by decide) (off := 61) (by
      simp only [Op.lookupswitch.offset_cons]
      rw [if_neg (by omega), if_neg (by omega), if_neg (by omega), if_neg (by omega), if_neg (by omega)]
      rfl) (by decide) ?_
  refine aw_iload_n dX0_kindOf_62 rfl rfl ?_
  refine aw_bipush dX0_kindOf_63 ⟨by decide, by decide⟩ (by decide) ?_
  refine aw_icmp_lt (tgt := 78) dX0_kindOf_65 (by decide) (fun hc => ?_) (fun hc => ?_)
  · replace h := ip hc h
    exact aw_less (ls' := [none]) (trivial) (t_X0_kindOf_78   s0 _ h)
  · replace h := ic hc h
    refine aw_iload_n dX0_kindOf_68 rfl rfl ?_
    refine aw_bipush dX0_kindOf_69 ⟨by decide, by decide⟩ (by decide) ?_
    refine aw_icmp_gt (tgt := 78) dX0_kindOf_71 (by decide) (fun hc => ?_) (fun hc => ?_)
    · replace h := ip hc h
      exact aw_less (ls' := [none]) (trivial) (t_X0_kindOf_78   s0 _ h)
    · replace h := ic hc h
      refine aw_iconst dX0_kindOf_74 ⟨by decide, by decide⟩ ?_
      refine aw_goto (tgt := 79) dX0_kindOf_75 (by decide) ?_
      exact aw_less (ls' := [none]) (trivial) (t_X0_kindOf_79   0 s0 _ h)
theorem c_X0_kindOf {x0 : Int} {s0 : SS} {y : Int} (h : f_X0_kindOf x0 = some y) : CT LC M_X0_kindOf [vI x0] s0 (some (vI y), s0) :=
  ct_of (n := 0) (by decide) (Nat.le_of_ble_eq_true rfl) (t_X0_kindOf_0 x0 s0  _ h)
def g_X0_hangBelowOpen_48  (s0 : SS) : Option SS :=
  some s0
set_option maxHeartbeats 4000000 in
theorem t_X0_hangBelowOpen_48  : ∀ (s0 : SS) (r : SS), g_X0_hangBelowOpen_48 s0 = some r → AW LC M_X0_hangBelowOpen (none, r) 48 [none, none] [] s0 := by
  intro s0 r h
  unfold g_X0_hangBelowOpen_48 at h
  obtain rfl := Option.some.inj h
  exact aw_vret dX0_hangBelowOpen_48 rfl
def f_X0_hangBelowOpen (x1 : Int) (s0 : SS) : Option SS :=
  bn (f_X0_hasPart (s0 1 12) s0) fun y1 =>
  if y1 = 0 then (
    some s0
  ) else (
    gx (s0 1 12) 40 <|
    if (s0 7 (s0 1 12).toNat) = (-1) then (
      gx (s0 1 12) 40 <|
      sb (up s0 7 (s0 1 12).toNat x1) fun s1 =>
      g_X0_hangBelowOpen_48  s1
    ) else (
      gx (s0 1 12) 40 <|
      sb (up s0 8 (s0 1 12).toNat x1) fun s2 =>
      g_X0_hangBelowOpen_48  s2
    )
  )
set_option maxHeartbeats 4000000 in
theorem t_X0_hangBelowOpen_0  : ∀ (x1 : Int) (s0 : SS) (r : SS), f_X0_hangBelowOpen x1 s0 = some r → AW LC M_X0_hangBelowOpen (none, r) 0 [some (vR (some 1)), some (vI x1)] [] s0 := by
  intro x1 s0 r h
  unfold f_X0_hangBelowOpen at h
  refine aw_aload_n dX0_hangBelowOpen_0 rfl rfl ?_
  refine aw_aload_n dX0_hangBelowOpen_1 rfl rfl ?_
  refine aw_getI dX0_hangBelowOpen_2 fk_X0_40 pC_1 rfl ?_
  obtain ⟨y1, hg1, h⟩ := bn_e h
  refine aw_V1i (M2 := M_X0_hasPart) dX0_hangBelowOpen_5 lk_X0_59 mk_X0_hasPart mv_X0_hasPart ⟨by decide, by decide⟩ pC_1 ⟨_, _, rfl⟩ (Nat.le_of_ble_eq_true rfl) (c_X0_hasPart  hg1) ?_
  refine aw_if_ne (tgt := 12) dX0_hangBelowOpen_8 (by decide) (fun hc => ?_) (fun hc => ?_)
  rotate_left
  · replace h := ip hc h
    obtain rfl := Option.some.inj h
    exact aw_vret dX0_hangBelowOpen_11 rfl
  · replace h := ic hc h
    refine aw_aload_n dX0_hangBelowOpen_12 rfl rfl ?_
    refine aw_getR (t := 7) dX0_hangBelowOpen_13 fk_X0_27 pC_1 rfl ?_
    refine aw_aload_n dX0_hangBelowOpen_16 rfl rfl ?_
    refine aw_getI dX0_hangBelowOpen_17 fk_X0_40 pC_1 rfl ?_
    obtain ⟨hg2, h⟩ := gx_e h
    refine aw_iald dX0_hangBelowOpen_20 aC_7 hg2 ?_
    refine aw_iconst dX0_hangBelowOpen_21 ⟨by decide, by decide⟩ ?_
    refine aw_icmp_ne (tgt := 38) dX0_hangBelowOpen_22 (by decide) (fun hc => ?_) (fun hc => ?_)
    rotate_left
    · replace h := ip hc h
      refine aw_aload_n dX0_hangBelowOpen_25 rfl rfl ?_
      refine aw_getR (t := 7) dX0_hangBelowOpen_26 fk_X0_27 pC_1 rfl ?_
      refine aw_aload_n dX0_hangBelowOpen_29 rfl rfl ?_
      refine aw_getI dX0_hangBelowOpen_30 fk_X0_40 pC_1 rfl ?_
      refine aw_iload_n dX0_hangBelowOpen_33 rfl rfl ?_
      obtain ⟨hg3, h⟩ := gx_e h
      refine aw_iast dX0_hangBelowOpen_34 aC_7 hg3 (fun s1 e => ?_)
      replace h := sb_e h e
      clear e
      refine aw_goto (tgt := 48) dX0_hangBelowOpen_35 (by decide) ?_
      exact aw_less (ls' := [none, none]) (trivial) (t_X0_hangBelowOpen_48   s1 _ h)
    · replace h := ic hc h
      refine aw_aload_n dX0_hangBelowOpen_38 rfl rfl ?_
      refine aw_getR (t := 8) dX0_hangBelowOpen_39 fk_X0_30 pC_1 rfl ?_
      refine aw_aload_n dX0_hangBelowOpen_42 rfl rfl ?_
      refine aw_getI dX0_hangBelowOpen_43 fk_X0_40 pC_1 rfl ?_
      refine aw_iload_n dX0_hangBelowOpen_46 rfl rfl ?_
      obtain ⟨hg4, h⟩ := gx_e h
      refine aw_iast dX0_hangBelowOpen_47 aC_8 hg4 (fun s2 e => ?_)
      replace h := sb_e h e
      clear e
      exact aw_less (ls' := [none, none]) (trivial) (t_X0_hangBelowOpen_48   s2 _ h)
theorem c_X0_hangBelowOpen {x1 : Int} {s0 : SS} {s1 : SS} (h : f_X0_hangBelowOpen x1 s0 = some s1) : CT LC M_X0_hangBelowOpen [vR (some 1), vI x1] s0 (none, s1) :=
  ct_of (n := 0) (by decide) (Nat.le_of_ble_eq_true rfl) (t_X0_hangBelowOpen_0 x1 s0  _ h)
def g_X0_hasTwo_35 (z0 : Int) (s0 : SS) : Option Int :=
  gb z0 <|
  some z0
set_option maxHeartbeats 4000000 in
theorem t_X0_hasTwo_35  : ∀ (z0 : Int) (s0 : SS) (r : Int), g_X0_hasTwo_35 z0 s0 = some r → AW LC M_X0_hasTwo (some (vI r), s0) 35 [none, none] [vI z0] s0 := by
  intro z0 s0 r h
  unfold g_X0_hasTwo_35 at h
  obtain ⟨hg1, h⟩ := gb_e h
  obtain rfl := Option.some.inj h
  exact aw_zret dX0_hasTwo_35 rfl hg1
def g_X0_hasTwo_30  (s0 : SS) : Option Int :=
  g_X0_hasTwo_35  1 s0
set_option maxHeartbeats 4000000 in
theorem t_X0_hasTwo_30  : ∀ (s0 : SS) (r : Int), g_X0_hasTwo_30 s0 = some r → AW LC M_X0_hasTwo (some (vI r), s0) 30 [none, none] [] s0 := by
  intro s0 r h
  unfold g_X0_hasTwo_30 at h
  refine aw_iconst dX0_hasTwo_30 ⟨by decide, by decide⟩ ?_
  refine aw_goto (tgt := 35) dX0_hasTwo_31 (by decide) ?_
  exact (t_X0_hasTwo_35   1 s0 _ h)
def f_X0_hasTwo (x1 : Int) (s0 : SS) : Option Int :=
  gx x1 40 <|
  if (s0 3 x1.toNat) = 1 then (
    g_X0_hasTwo_30  s0
  ) else (
    gx x1 40 <|
    if (s0 3 x1.toNat) = 2 then (
      g_X0_hasTwo_30  s0
    ) else (
      gx x1 40 <|
      if (s0 3 x1.toNat) = 3 then (
        g_X0_hasTwo_30  s0
      ) else (
        g_X0_hasTwo_35  0 s0
      )
    )
  )
set_option maxHeartbeats 4000000 in
theorem t_X0_hasTwo_0  : ∀ (x1 : Int) (s0 : SS) (r : Int), f_X0_hasTwo x1 s0 = some r → AW LC M_X0_hasTwo (some (vI r), s0) 0 [some (vR (some 1)), some (vI x1)] [] s0 := by
  intro x1 s0 r h
  unfold f_X0_hasTwo at h
  refine aw_aload_n dX0_hasTwo_0 rfl rfl ?_
  refine aw_getR (t := 3) dX0_hasTwo_1 fk_X0_15 pC_1 rfl ?_
  refine aw_iload_n dX0_hasTwo_4 rfl rfl ?_
  obtain ⟨hg1, h⟩ := gx_e h
  refine aw_iald dX0_hasTwo_5 aC_3 hg1 ?_
  refine aw_iconst dX0_hasTwo_6 ⟨by decide, by decide⟩ ?_
  refine aw_icmp_eq (tgt := 30) dX0_hasTwo_7 (by decide) (fun hc => ?_) (fun hc => ?_)
  · replace h := ip hc h
    exact aw_less (ls' := [none, none]) (trivial) (t_X0_hasTwo_30   s0 _ h)
  · replace h := ic hc h
    refine aw_aload_n dX0_hasTwo_10 rfl rfl ?_
    refine aw_getR (t := 3) dX0_hasTwo_11 fk_X0_15 pC_1 rfl ?_
    refine aw_iload_n dX0_hasTwo_14 rfl rfl ?_
    obtain ⟨hg2, h⟩ := gx_e h
    refine aw_iald dX0_hasTwo_15 aC_3 hg2 ?_
    refine aw_iconst dX0_hasTwo_16 ⟨by decide, by decide⟩ ?_
    refine aw_icmp_eq (tgt := 30) dX0_hasTwo_17 (by decide) (fun hc => ?_) (fun hc => ?_)
    · replace h := ip hc h
      exact aw_less (ls' := [none, none]) (trivial) (t_X0_hasTwo_30   s0 _ h)
    · replace h := ic hc h
      refine aw_aload_n dX0_hasTwo_20 rfl rfl ?_
      refine aw_getR (t := 3) dX0_hasTwo_21 fk_X0_15 pC_1 rfl ?_
      refine aw_iload_n dX0_hasTwo_24 rfl rfl ?_
      obtain ⟨hg3, h⟩ := gx_e h
      refine aw_iald dX0_hasTwo_25 aC_3 hg3 ?_
      refine aw_iconst dX0_hasTwo_26 ⟨by decide, by decide⟩ ?_
      refine aw_icmp_ne (tgt := 34) dX0_hasTwo_27 (by decide) (fun hc => ?_) (fun hc => ?_)
      rotate_left
      · replace h := ip hc h
        exact aw_less (ls' := [none, none]) (trivial) (t_X0_hasTwo_30   s0 _ h)
      · replace h := ic hc h
        refine aw_iconst dX0_hasTwo_34 ⟨by decide, by decide⟩ ?_
        exact aw_less (ls' := [none, none]) (trivial) (t_X0_hasTwo_35   0 s0 _ h)
theorem c_X0_hasTwo {x1 : Int} {s0 : SS} {y : Int} (h : f_X0_hasTwo x1 s0 = some y) : CT LC M_X0_hasTwo [vR (some 1), vI x1] s0 (some (vI y), s0) :=
  ct_of (n := 0) (by decide) (Nat.le_of_ble_eq_true rfl) (t_X0_hasTwo_0 x1 s0  _ h)
def g_X0_closeFull_77  (s0 : SS) : Option SS :=
  some s0
set_option maxHeartbeats 4000000 in
theorem t_X0_closeFull_77  : ∀ (s0 : SS) (r : SS), g_X0_closeFull_77 s0 = some r → AW LC M_X0_closeFull (none, r) 77 [none, none, none] [] s0 := by
  intro s0 r h
  unfold g_X0_closeFull_77 at h
  obtain rfl := Option.some.inj h
  exact aw_vret dX0_closeFull_77 rfl
def g_X0_closeFull_57  (s0 : SS) : Option SS :=
  some s0
set_option maxHeartbeats 4000000 in
theorem t_X0_closeFull_57  : ∀ (s0 : SS) (r : SS), g_X0_closeFull_57 s0 = some r → AW LC M_X0_closeFull (none, r) 57 [none, none, none] [] s0 := by
  intro s0 r h
  unfold g_X0_closeFull_57 at h
  obtain rfl := Option.some.inj h
  exact aw_vret dX0_closeFull_57 rfl
def g_X0_closeFull_51 (k2 : Int → SS → Option SS) (x1 : Int) (z0 : Int) (s0 : SS) : Option SS :=
  if z0 = (-1) then (
    g_X0_closeFull_57  s0
  ) else (
    gx (s0 1 12) 40 <|
    sb (up s0 1 12 (s0 6 (s0 1 12).toNat)) fun s1 =>
    sb (wr (x1 + 1)) fun y1 =>
    k2 y1 s1
  )
set_option maxHeartbeats 4000000 in
theorem t_X0_closeFull_51 (k2 : Int → SS → Option SS) (hk2 : ∀ (x1 : Int) (s0 : SS) (r : SS), k2 x1 s0 = some r → AW LC M_X0_closeFull (none, r) 2 [some (vR (some 1)), some (vI x1), none] [] s0) : ∀ (x1 : Int) (z0 : Int) (s0 : SS) (r : SS), g_X0_closeFull_51 k2 x1 z0 s0 = some r → AW LC M_X0_closeFull (none, r) 51 [some (vR (some 1)), some (vI x1), none] [vI z0] s0 := by
  intro x1 z0 s0 r h
  unfold g_X0_closeFull_51 at h
  refine aw_istore_nA dX0_closeFull_51 rfl (by decide) rfl ?_
  show AW _ _ _ 52 [some (vR (some 1)), some (vI x1), some (vI z0)] _ _
  refine aw_iload_n dX0_closeFull_52 rfl rfl ?_
  refine aw_iconst dX0_closeFull_53 ⟨by decide, by decide⟩ ?_
  refine aw_icmp_ne (tgt := 58) dX0_closeFull_54 (by decide) (fun hc => ?_) (fun hc => ?_)
  rotate_left
  · replace h := ip hc h
    exact aw_less (ls' := [none, none, none]) (trivial) (t_X0_closeFull_57   s0 _ h)
  · replace h := ic hc h
    refine aw_aload_n dX0_closeFull_58 rfl rfl ?_
    refine aw_aload_n dX0_closeFull_59 rfl rfl ?_
    refine aw_getR (t := 6) dX0_closeFull_60 fk_X0_24 pC_1 rfl ?_
    refine aw_aload_n dX0_closeFull_63 rfl rfl ?_
    refine aw_getI dX0_closeFull_64 fk_X0_40 pC_1 rfl ?_
    obtain ⟨hg1, h⟩ := gx_e h
    refine aw_iald dX0_closeFull_67 aC_6 hg1 ?_
    refine aw_put dX0_closeFull_68 fk_X0_40 pC_1 rfl ft_0_12 (nar_int _) (fun s1 e => ?_)
    replace h := sb_e h e
    clear e
    refine aw_iinc dX0_closeFull_71 rfl (by decide) rfl (fun y1 e => ?_)
    replace h := sb_e h e
    clear e
    show AW _ _ _ 74 [some (vR (some 1)), some (vI y1), some (vI z0)] _ _
    refine aw_goto (tgt := 2) dX0_closeFull_74 (by decide) ?_
    exact aw_less (ls' := [some (vR (some 1)), some (vI y1), none]) (⟨rfl, ⟨rfl, trivial⟩⟩) (hk2 y1 s1 _ h)
def g_X0_closeFull_2 (k2 : Int → SS → Option SS) (x1 : Int) (s0 : SS) : Option SS :=
  if 40 ≤ x1 then (
    g_X0_closeFull_77  s0
  ) else (
    bn (f_X0_hasPart (s0 1 12) s0) fun y1 =>
    if y1 = 0 then (
      g_X0_closeFull_77  s0
    ) else (
      bn (f_X0_hasTwo (s0 1 12) s0) fun y2 =>
      if y2 = 0 then (
        gx (s0 1 12) 40 <|
        g_X0_closeFull_51 k2 x1 (s0 7 (s0 1 12).toNat) s0
      ) else (
        gx (s0 1 12) 40 <|
        g_X0_closeFull_51 k2 x1 (s0 8 (s0 1 12).toNat) s0
      )
    )
  )
set_option maxHeartbeats 4000000 in
theorem t_X0_closeFull_2 (k2 : Int → SS → Option SS) (hk2 : ∀ (x1 : Int) (s0 : SS) (r : SS), k2 x1 s0 = some r → AW LC M_X0_closeFull (none, r) 2 [some (vR (some 1)), some (vI x1), none] [] s0) : ∀ (x1 : Int) (s0 : SS) (r : SS), g_X0_closeFull_2 k2 x1 s0 = some r → AW LC M_X0_closeFull (none, r) 2 [some (vR (some 1)), some (vI x1), none] [] s0 := by
  intro x1 s0 r h
  unfold g_X0_closeFull_2 at h
  refine aw_iload_n dX0_closeFull_2 rfl rfl ?_
  refine aw_bipush dX0_closeFull_3 ⟨by decide, by decide⟩ (by decide) ?_
  refine aw_icmp_ge (tgt := 77) dX0_closeFull_5 (by decide) (fun hc => ?_) (fun hc => ?_)
  · replace h := ip hc h
    exact aw_less (ls' := [none, none, none]) (trivial) (t_X0_closeFull_77   s0 _ h)
  · replace h := ic hc h
    refine aw_aload_n dX0_closeFull_8 rfl rfl ?_
    refine aw_aload_n dX0_closeFull_9 rfl rfl ?_
    refine aw_getI dX0_closeFull_10 fk_X0_40 pC_1 rfl ?_
    obtain ⟨y1, hg1, h⟩ := bn_e h
    refine aw_V1i (M2 := M_X0_hasPart) dX0_closeFull_13 lk_X0_59 mk_X0_hasPart mv_X0_hasPart ⟨by decide, by decide⟩ pC_1 ⟨_, _, rfl⟩ (Nat.le_of_ble_eq_true rfl) (c_X0_hasPart  hg1) ?_
    refine aw_if_eq (tgt := 77) dX0_closeFull_16 (by decide) (fun hc => ?_) (fun hc => ?_)
    · replace h := ip hc h
      exact aw_less (ls' := [none, none, none]) (trivial) (t_X0_closeFull_77   s0 _ h)
    · replace h := ic hc h
      refine aw_aload_n dX0_closeFull_19 rfl rfl ?_
      refine aw_aload_n dX0_closeFull_20 rfl rfl ?_
      refine aw_getI dX0_closeFull_21 fk_X0_40 pC_1 rfl ?_
      obtain ⟨y2, hg2, h⟩ := bn_e h
      refine aw_V1i (M2 := M_X0_hasTwo) dX0_closeFull_24 lk_X0_81 mk_X0_hasTwo mv_X0_hasTwo ⟨by decide, by decide⟩ pC_1 ⟨_, _, rfl⟩ (Nat.le_of_ble_eq_true rfl) (c_X0_hasTwo  hg2) ?_
      refine aw_if_eq (tgt := 42) dX0_closeFull_27 (by decide) (fun hc => ?_) (fun hc => ?_)
      · replace h := ip hc h
        refine aw_aload_n dX0_closeFull_42 rfl rfl ?_
        refine aw_getR (t := 7) dX0_closeFull_43 fk_X0_27 pC_1 rfl ?_
        refine aw_aload_n dX0_closeFull_46 rfl rfl ?_
        refine aw_getI dX0_closeFull_47 fk_X0_40 pC_1 rfl ?_
        obtain ⟨hg3, h⟩ := gx_e h
        refine aw_iald dX0_closeFull_50 aC_7 hg3 ?_
        exact (t_X0_closeFull_51 k2 hk2 x1 (s0 7 (s0 1 12).toNat) s0 _ h)
      · replace h := ic hc h
        refine aw_aload_n dX0_closeFull_30 rfl rfl ?_
        refine aw_getR (t := 8) dX0_closeFull_31 fk_X0_30 pC_1 rfl ?_
        refine aw_aload_n dX0_closeFull_34 rfl rfl ?_
        refine aw_getI dX0_closeFull_35 fk_X0_40 pC_1 rfl ?_
        obtain ⟨hg4, h⟩ := gx_e h
        refine aw_iald dX0_closeFull_38 aC_8 hg4 ?_
        refine aw_goto (tgt := 51) dX0_closeFull_39 (by decide) ?_
        exact (t_X0_closeFull_51 k2 hk2 x1 (s0 8 (s0 1 12).toNat) s0 _ h)
def f_X0_closeFull_2 : Nat → Int → SS → Option SS
  | 0 => fun _ _ => none
  | n + 1 => g_X0_closeFull_2 (f_X0_closeFull_2  n)
theorem s_X0_closeFull_2  : ∀ (n : Nat), ∀ (x1 : Int) (s0 : SS) (r : SS), f_X0_closeFull_2 n x1 s0 = some r → AW LC M_X0_closeFull (none, r) 2 [some (vR (some 1)), some (vI x1), none] [] s0 := by
  intro n
  induction n with
  | zero =>
    intro x1 s0 r h
    cases h
  | succ n ih =>
    intro x1 s0 r h
    exact t_X0_closeFull_2 (f_X0_closeFull_2  n) ih x1 s0 r h
def f_X0_closeFull  (s0 : SS) : Option SS :=
  f_X0_closeFull_2  FU 0 s0
set_option maxHeartbeats 4000000 in
theorem t_X0_closeFull_0  : ∀ (s0 : SS) (r : SS), f_X0_closeFull s0 = some r → AW LC M_X0_closeFull (none, r) 0 [some (vR (some 1)), none, none] [] s0 := by
  intro s0 r h
  unfold f_X0_closeFull at h
  refine aw_iconst dX0_closeFull_0 ⟨by decide, by decide⟩ ?_
  refine aw_istore_nA dX0_closeFull_1 rfl (by decide) rfl ?_
  show AW _ _ _ 2 [some (vR (some 1)), some (vI 0), none] _ _
  exact (s_X0_closeFull_2   FU 0 s0 _ h)
theorem c_X0_closeFull {s0 : SS} {s1 : SS} (h : f_X0_closeFull s0 = some s1) : CT LC M_X0_closeFull [vR (some 1)] s0 (none, s1) :=
  ct_of (n := 2) (by decide) (Nat.le_of_ble_eq_true rfl) (t_X0_closeFull_0  s0  _ h)
def g_X0_begin_133  (s0 : SS) : Option SS :=
  some s0
set_option maxHeartbeats 4000000 in
theorem t_X0_begin_133  : ∀ (s0 : SS) (r : SS), g_X0_begin_133 s0 = some r → AW LC M_X0_begin (none, r) 133 [none, none, none, none, none] [] s0 := by
  intro s0 r h
  unfold g_X0_begin_133 at h
  obtain rfl := Option.some.inj h
  exact aw_vret dX0_begin_133 rfl
def g_X0_begin_110 (x2 : Int) (x4 : Int) (s0 : SS) : Option SS :=
  bn (f_X0_hangBelowOpen x4 s0) fun s1 =>
  if x2 = 0 then (
    bn (f_X0_closeFull s1) fun s2 =>
    g_X0_begin_133  s2
  ) else (
    sb (up s1 1 12 x4) fun s3 =>
    g_X0_begin_133  s3
  )
set_option maxHeartbeats 4000000 in
theorem t_X0_begin_110  : ∀ (x2 : Int) (x4 : Int) (s0 : SS) (r : SS), g_X0_begin_110 x2 x4 s0 = some r → AW LC M_X0_begin (none, r) 110 [some (vR (some 1)), none, some (vI x2), none, some (vI x4)] [] s0 := by
  intro x2 x4 s0 r h
  unfold g_X0_begin_110 at h
  refine aw_aload_n dX0_begin_110 rfl rfl ?_
  refine aw_iload dX0_begin_111 rfl ?_
  obtain ⟨s1, hg1, h⟩ := bn_e h
  refine aw_V1v (M2 := M_X0_hangBelowOpen) dX0_begin_113 lk_X0_74 mk_X0_hangBelowOpen mv_X0_hangBelowOpen ⟨by decide, by decide⟩ pC_1 ⟨_, _, rfl⟩ (Nat.le_of_ble_eq_true rfl) (c_X0_hangBelowOpen  hg1) ?_
  refine aw_iload_n dX0_begin_116 rfl rfl ?_
  refine aw_if_eq (tgt := 129) dX0_begin_117 (by decide) (fun hc => ?_) (fun hc => ?_)
  · replace h := ip hc h
    refine aw_aload_n dX0_begin_129 rfl rfl ?_
    obtain ⟨s2, hg2, h⟩ := bn_e h
    refine aw_V0v (M2 := M_X0_closeFull) dX0_begin_130 lk_X0_78 mk_X0_closeFull mv_X0_closeFull ⟨by decide, by decide⟩ pC_1 ⟨_, _, rfl⟩ (Nat.le_of_ble_eq_true rfl) (c_X0_closeFull  hg2) ?_
    exact aw_less (ls' := [none, none, none, none, none]) (trivial) (t_X0_begin_133   s2 _ h)
  · replace h := ic hc h
    refine aw_aload_n dX0_begin_120 rfl rfl ?_
    refine aw_iload dX0_begin_121 rfl ?_
    refine aw_put dX0_begin_123 fk_X0_40 pC_1 rfl ft_0_12 (nar_int _) (fun s3 e => ?_)
    replace h := sb_e h e
    clear e
    refine aw_goto (tgt := 133) dX0_begin_126 (by decide) ?_
    exact aw_less (ls' := [none, none, none, none, none]) (trivial) (t_X0_begin_133   s3 _ h)
def g_X0_begin_84 (x2 : Int) (x4 : Int) (s0 : SS) : Option SS :=
  if x2 = 3 then (
    gx x4 40 <|
    sb (up s0 9 x4.toNat (s0 1 10)) fun s1 =>
    sb (up s1 1 10 (wr ((s1 1 10) + 1))) fun s2 =>
    g_X0_begin_110  x2 x4 s2
  ) else (
    g_X0_begin_110  x2 x4 s0
  )
set_option maxHeartbeats 4000000 in
theorem t_X0_begin_84  : ∀ (x2 : Int) (x4 : Int) (s0 : SS) (r : SS), g_X0_begin_84 x2 x4 s0 = some r → AW LC M_X0_begin (none, r) 84 [some (vR (some 1)), none, some (vI x2), none, some (vI x4)] [] s0 := by
  intro x2 x4 s0 r h
  unfold g_X0_begin_84 at h
  refine aw_iload_n dX0_begin_84 rfl rfl ?_
  refine aw_iconst dX0_begin_85 ⟨by decide, by decide⟩ ?_
  refine aw_icmp_ne (tgt := 110) dX0_begin_86 (by decide) (fun hc => ?_) (fun hc => ?_)
  rotate_left
  · replace h := ip hc h
    refine aw_aload_n dX0_begin_89 rfl rfl ?_
    refine aw_getR (t := 9) dX0_begin_90 fk_X0_33 pC_1 rfl ?_
    refine aw_iload dX0_begin_93 rfl ?_
    refine aw_aload_n dX0_begin_95 rfl rfl ?_
    refine aw_getI dX0_begin_96 fk_X0_49 pC_1 rfl ?_
    obtain ⟨hg1, h⟩ := gx_e h
    refine aw_iast dX0_begin_99 aC_9 hg1 (fun s1 e => ?_)
    replace h := sb_e h e
    clear e
    refine aw_aload_n dX0_begin_100 rfl rfl ?_
    refine aw_dup dX0_begin_101 rfl ?_
    refine aw_getI dX0_begin_102 fk_X0_49 pC_1 rfl ?_
    refine aw_iconst dX0_begin_105 ⟨by decide, by decide⟩ ?_
    refine aw_iadd dX0_begin_106 ?_
    refine aw_put dX0_begin_107 fk_X0_49 pC_1 rfl ft_0_10 (nar_int _) (fun s2 e => ?_)
    replace h := sb_e h e
    clear e
    exact (t_X0_begin_110   x2 x4 s2 _ h)
  · replace h := ic hc h
    exact (t_X0_begin_110   x2 x4 s0 _ h)
def f_X0_begin (x1 : Int) (x2 : Int) (x3 : Int) (s0 : SS) : Option SS :=
  sb (s0 1 9) fun y1 =>
  sb (up s0 1 9 (wr ((s0 1 9) + 1))) fun s1 =>
  gx y1 40 <|
  sb (up s1 3 y1.toNat x2) fun s2 =>
  gx y1 40 <|
  sb (up s2 4 y1.toNat x1) fun s3 =>
  gx y1 40 <|
  sb (up s3 6 y1.toNat (s3 1 12)) fun s4 =>
  gx y1 40 <|
  sb (up s4 7 y1.toNat (-1)) fun s5 =>
  gx y1 40 <|
  sb (up s5 8 y1.toNat (-1)) fun s6 =>
  gx y1 40 <|
  sb (up s6 9 y1.toNat 0) fun s7 =>
  if x2 = 0 then (
    gx y1 40 <|
    sb (up s7 9 y1.toNat (wr ((wr (x3 - 97)) + 1))) fun s8 =>
    g_X0_begin_84  x2 y1 s8
  ) else (
    g_X0_begin_84  x2 y1 s7
  )
set_option maxHeartbeats 4000000 in
theorem t_X0_begin_0  : ∀ (x1 : Int) (x2 : Int) (x3 : Int) (s0 : SS) (r : SS), f_X0_begin x1 x2 x3 s0 = some r → AW LC M_X0_begin (none, r) 0 [some (vR (some 1)), some (vI x1), some (vI x2), some (vI x3), none] [] s0 := by
  intro x1 x2 x3 s0 r h
  unfold f_X0_begin at h
  refine aw_aload_n dX0_begin_0 rfl rfl ?_
  refine aw_getI dX0_begin_1 fk_X0_46 pC_1 rfl ?_
  refine aw_istore dX0_begin_4 (by decide) rfl (fun y1 e => ?_)
  replace h := sb_e h e
  clear e
  show AW _ _ _ 6 [some (vR (some 1)), some (vI x1), some (vI x2), some (vI x3), some (vI y1)] _ _
  refine aw_aload_n dX0_begin_6 rfl rfl ?_
  refine aw_dup dX0_begin_7 rfl ?_
  refine aw_getI dX0_begin_8 fk_X0_46 pC_1 rfl ?_
  refine aw_iconst dX0_begin_11 ⟨by decide, by decide⟩ ?_
  refine aw_iadd dX0_begin_12 ?_
  refine aw_put dX0_begin_13 fk_X0_46 pC_1 rfl ft_0_9 (nar_int _) (fun s1 e => ?_)
  replace h := sb_e h e
  clear e
  refine aw_aload_n dX0_begin_16 rfl rfl ?_
  refine aw_getR (t := 3) dX0_begin_17 fk_X0_15 pC_1 rfl ?_
  refine aw_iload dX0_begin_20 rfl ?_
  refine aw_iload_n dX0_begin_22 rfl rfl ?_
  obtain ⟨hg1, h⟩ := gx_e h
  refine aw_iast dX0_begin_23 aC_3 hg1 (fun s2 e => ?_)
  replace h := sb_e h e
  clear e
  refine aw_aload_n dX0_begin_24 rfl rfl ?_
  refine aw_getR (t := 4) dX0_begin_25 fk_X0_18 pC_1 rfl ?_
  refine aw_iload dX0_begin_28 rfl ?_
  refine aw_iload_n dX0_begin_30 rfl rfl ?_
  obtain ⟨hg2, h⟩ := gx_e h
  refine aw_iast dX0_begin_31 aC_4 hg2 (fun s3 e => ?_)
  replace h := sb_e h e
  clear e
  refine aw_aload_n dX0_begin_32 rfl rfl ?_
  refine aw_getR (t := 6) dX0_begin_33 fk_X0_24 pC_1 rfl ?_
  refine aw_iload dX0_begin_36 rfl ?_
  refine aw_aload_n dX0_begin_38 rfl rfl ?_
  refine aw_getI dX0_begin_39 fk_X0_40 pC_1 rfl ?_
  obtain ⟨hg3, h⟩ := gx_e h
  refine aw_iast dX0_begin_42 aC_6 hg3 (fun s4 e => ?_)
  replace h := sb_e h e
  clear e
  refine aw_aload_n dX0_begin_43 rfl rfl ?_
  refine aw_getR (t := 7) dX0_begin_44 fk_X0_27 pC_1 rfl ?_
  refine aw_iload dX0_begin_47 rfl ?_
  refine aw_iconst dX0_begin_49 ⟨by decide, by decide⟩ ?_
  obtain ⟨hg4, h⟩ := gx_e h
  refine aw_iast dX0_begin_50 aC_7 hg4 (fun s5 e => ?_)
  replace h := sb_e h e
  clear e
  refine aw_aload_n dX0_begin_51 rfl rfl ?_
  refine aw_getR (t := 8) dX0_begin_52 fk_X0_30 pC_1 rfl ?_
  refine aw_iload dX0_begin_55 rfl ?_
  refine aw_iconst dX0_begin_57 ⟨by decide, by decide⟩ ?_
  obtain ⟨hg5, h⟩ := gx_e h
  refine aw_iast dX0_begin_58 aC_8 hg5 (fun s6 e => ?_)
  replace h := sb_e h e
  clear e
  refine aw_aload_n dX0_begin_59 rfl rfl ?_
  refine aw_getR (t := 9) dX0_begin_60 fk_X0_33 pC_1 rfl ?_
  refine aw_iload dX0_begin_63 rfl ?_
  refine aw_iconst dX0_begin_65 ⟨by decide, by decide⟩ ?_
  obtain ⟨hg6, h⟩ := gx_e h
  refine aw_iast dX0_begin_66 aC_9 hg6 (fun s7 e => ?_)
  replace h := sb_e h e
  clear e
  refine aw_iload_n dX0_begin_67 rfl rfl ?_
  refine aw_if_ne (tgt := 84) dX0_begin_68 (by decide) (fun hc => ?_) (fun hc => ?_)
  rotate_left
  · replace h := ip hc h
    refine aw_aload_n dX0_begin_71 rfl rfl ?_
    refine aw_getR (t := 9) dX0_begin_72 fk_X0_33 pC_1 rfl ?_
    refine aw_iload dX0_begin_75 rfl ?_
    refine aw_iload_n dX0_begin_77 rfl rfl ?_
    refine aw_bipush dX0_begin_78 ⟨by decide, by decide⟩ (by decide) ?_
    refine aw_isub dX0_begin_80 ?_
    refine aw_iconst dX0_begin_81 ⟨by decide, by decide⟩ ?_
    refine aw_iadd dX0_begin_82 ?_
    obtain ⟨hg7, h⟩ := gx_e h
    refine aw_iast dX0_begin_83 aC_9 hg7 (fun s8 e => ?_)
    replace h := sb_e h e
    clear e
    exact aw_less (ls' := [some (vR (some 1)), none, some (vI x2), none, some (vI y1)]) (⟨rfl, ⟨rfl, ⟨rfl, trivial⟩⟩⟩) (t_X0_begin_84   x2 y1 s8 _ h)
  · replace h := ic hc h
    exact aw_less (ls' := [some (vR (some 1)), none, some (vI x2), none, some (vI y1)]) (⟨rfl, ⟨rfl, ⟨rfl, trivial⟩⟩⟩) (t_X0_begin_84   x2 y1 s7 _ h)
theorem c_X0_begin {x1 : Int} {x2 : Int} {x3 : Int} {s0 : SS} {s1 : SS} (h : f_X0_begin x1 x2 x3 s0 = some s1) : CT LC M_X0_begin [vR (some 1), vI x1, vI x2, vI x3] s0 (none, s1) :=
  ct_of (n := 1) (by decide) (Nat.le_of_ble_eq_true rfl) (t_X0_begin_0 x1 x2 x3 s0  _ h)
def g_X0_goesOn_105  (s0 : SS) : Option (Int × SS) :=
  some (0, s0)
set_option maxHeartbeats 4000000 in
theorem t_X0_goesOn_105  : ∀ (s0 : SS) (r : (Int × SS)), g_X0_goesOn_105 s0 = some r → AW LC M_X0_goesOn (some (vI r.1), r.2) 105 [none, none, none, none, none] [] s0 := by
  intro s0 r h
  unfold g_X0_goesOn_105 at h
  refine aw_iconst dX0_goesOn_105 ⟨by decide, by decide⟩ ?_
  obtain rfl := Option.some.inj h
  exact aw_zret dX0_goesOn_106 rfl (Or.inl rfl)
def g_X0_goesOn_107 (x1 : Int) (x2 : Int) (x4 : Int) (s0 : SS) : Option (Int × SS) :=
  bn (f_X0_begin x1 x4 x2 s0) fun s1 =>
  some (1, s1)
set_option maxHeartbeats 4000000 in
theorem t_X0_goesOn_107  : ∀ (x1 : Int) (x2 : Int) (x4 : Int) (s0 : SS) (r : (Int × SS)), g_X0_goesOn_107 x1 x2 x4 s0 = some r → AW LC M_X0_goesOn (some (vI r.1), r.2) 107 [some (vR (some 1)), some (vI x1), some (vI x2), none, some (vI x4)] [] s0 := by
  intro x1 x2 x4 s0 r h
  unfold g_X0_goesOn_107 at h
  refine aw_aload_n dX0_goesOn_107 rfl rfl ?_
  refine aw_iload_n dX0_goesOn_108 rfl rfl ?_
  refine aw_iload dX0_goesOn_109 rfl ?_
  refine aw_iload_n dX0_goesOn_111 rfl rfl ?_
  obtain ⟨s1, hg1, h⟩ := bn_e h
  refine aw_V3v (M2 := M_X0_begin) dX0_goesOn_112 lk_X0_70 mk_X0_begin mv_X0_begin ⟨by decide, by decide⟩ pC_1 ⟨_, _, rfl⟩ (Nat.le_of_ble_eq_true rfl) (c_X0_begin  hg1) ?_
  refine aw_iconst dX0_goesOn_115 ⟨by decide, by decide⟩ ?_
  obtain rfl := Option.some.inj h
  exact aw_zret dX0_goesOn_116 rfl (Or.inr rfl)
def g_X0_goesOn_69 (x1 : Int) (x2 : Int) (s0 : SS) : Option (Int × SS) :=
  bn (f_X0_kindOf x2) fun y1 =>
  if y1 = (-1) then (
    g_X0_goesOn_105  s0
  ) else (
    if 40 ≤ (s0 1 9) then (
      g_X0_goesOn_105  s0
    ) else (
      if y1 = 3 then (
        if (s0 1 10) = 6 then (
          g_X0_goesOn_105  s0
        ) else (
          g_X0_goesOn_107  x1 x2 y1 s0
        )
      ) else (
        g_X0_goesOn_107  x1 x2 y1 s0
      )
    )
  )
set_option maxHeartbeats 4000000 in
theorem t_X0_goesOn_69  : ∀ (x1 : Int) (x2 : Int) (s0 : SS) (r : (Int × SS)), g_X0_goesOn_69 x1 x2 s0 = some r → AW LC M_X0_goesOn (some (vI r.1), r.2) 69 [some (vR (some 1)), some (vI x1), some (vI x2), none, none] [] s0 := by
  intro x1 x2 s0 r h
  unfold g_X0_goesOn_69 at h
  refine aw_iload_n dX0_goesOn_69 rfl rfl ?_
  obtain ⟨y1, hg1, h⟩ := bn_e h
  refine aw_S1i (M2 := M_X0_kindOf) dX0_goesOn_70 lk_X0_66 mk_X0_kindOf ms_X0_kindOf ⟨by decide, by decide⟩ (Nat.le_of_ble_eq_true rfl) (c_X0_kindOf  hg1) ?_
  refine aw_istoreA dX0_goesOn_73 (by decide) rfl ?_
  show AW _ _ _ 75 [some (vR (some 1)), some (vI x1), some (vI x2), none, some (vI y1)] _ _
  refine aw_iload dX0_goesOn_75 rfl ?_
  refine aw_iconst dX0_goesOn_77 ⟨by decide, by decide⟩ ?_
  refine aw_icmp_eq (tgt := 105) dX0_goesOn_78 (by decide) (fun hc => ?_) (fun hc => ?_)
  · replace h := ip hc h
    exact aw_less (ls' := [none, none, none, none, none]) (trivial) (t_X0_goesOn_105   s0 _ h)
  · replace h := ic hc h
    refine aw_aload_n dX0_goesOn_81 rfl rfl ?_
    refine aw_getI dX0_goesOn_82 fk_X0_46 pC_1 rfl ?_
    refine aw_bipush dX0_goesOn_85 ⟨by decide, by decide⟩ (by decide) ?_
    refine aw_icmp_ge (tgt := 105) dX0_goesOn_87 (by decide) (fun hc => ?_) (fun hc => ?_)
    · replace h := ip hc h
      exact aw_less (ls' := [none, none, none, none, none]) (trivial) (t_X0_goesOn_105   s0 _ h)
    · replace h := ic hc h
      refine aw_iload dX0_goesOn_90 rfl ?_
      refine aw_iconst dX0_goesOn_92 ⟨by decide, by decide⟩ ?_
      refine aw_icmp_ne (tgt := 107) dX0_goesOn_93 (by decide) (fun hc => ?_) (fun hc => ?_)
      rotate_left
      · replace h := ip hc h
        refine aw_aload_n dX0_goesOn_96 rfl rfl ?_
        refine aw_getI dX0_goesOn_97 fk_X0_49 pC_1 rfl ?_
        refine aw_bipush dX0_goesOn_100 ⟨by decide, by decide⟩ (by decide) ?_
        refine aw_icmp_ne (tgt := 107) dX0_goesOn_102 (by decide) (fun hc => ?_) (fun hc => ?_)
        rotate_left
        · replace h := ip hc h
          exact aw_less (ls' := [none, none, none, none, none]) (trivial) (t_X0_goesOn_105   s0 _ h)
        · replace h := ic hc h
          exact (t_X0_goesOn_107   x1 x2 y1 s0 _ h)
      · replace h := ic hc h
        exact (t_X0_goesOn_107   x1 x2 y1 s0 _ h)
def g_X0_goesOn_20 (x1 : Int) (x2 : Int) (z0 : Int) (s0 : SS) : Option (Int × SS) :=
  if z0 = 0 then (
    bn (f_X0_hasPart (s0 1 12) s0) fun y1 =>
    if y1 = 0 then (
      g_X0_goesOn_69  x1 x2 s0
    ) else (
      gx (s0 1 12) 40 <|
      if (s0 3 (s0 1 12).toNat) = 4 then (
        gx (s0 1 12) 40 <|
        if (s0 9 (s0 1 12).toNat) = 0 then (
          cb (f_X0_takesFigure x2 s0) fun y2 s1 =>
          gb y2 <|
          some (y2, s1)
        ) else (
          g_X0_goesOn_69  x1 x2 s0
        )
      ) else (
        g_X0_goesOn_69  x1 x2 s0
      )
    )
  ) else (
    some (0, s0)
  )
set_option maxHeartbeats 4000000 in
theorem t_X0_goesOn_20  : ∀ (x1 : Int) (x2 : Int) (z0 : Int) (s0 : SS) (r : (Int × SS)), g_X0_goesOn_20 x1 x2 z0 s0 = some r → AW LC M_X0_goesOn (some (vI r.1), r.2) 20 [some (vR (some 1)), some (vI x1), some (vI x2), none, none] [vI z0] s0 := by
  intro x1 x2 z0 s0 r h
  unfold g_X0_goesOn_20 at h
  refine aw_istore_nA dX0_goesOn_20 rfl (by decide) rfl ?_
  show AW _ _ _ 21 [some (vR (some 1)), some (vI x1), some (vI x2), some (vI z0), none] _ _
  refine aw_iload_n dX0_goesOn_21 rfl rfl ?_
  refine aw_if_eq (tgt := 27) dX0_goesOn_22 (by decide) (fun hc => ?_) (fun hc => ?_)
  · replace h := ip hc h
    refine aw_aload_n dX0_goesOn_27 rfl rfl ?_
    refine aw_aload_n dX0_goesOn_28 rfl rfl ?_
    refine aw_getI dX0_goesOn_29 fk_X0_40 pC_1 rfl ?_
    obtain ⟨y1, hg1, h⟩ := bn_e h
    refine aw_V1i (M2 := M_X0_hasPart) dX0_goesOn_32 lk_X0_59 mk_X0_hasPart mv_X0_hasPart ⟨by decide, by decide⟩ pC_1 ⟨_, _, rfl⟩ (Nat.le_of_ble_eq_true rfl) (c_X0_hasPart  hg1) ?_
    refine aw_if_eq (tgt := 69) dX0_goesOn_35 (by decide) (fun hc => ?_) (fun hc => ?_)
    · replace h := ip hc h
      exact aw_less (ls' := [some (vR (some 1)), some (vI x1), some (vI x2), none, none]) (⟨rfl, ⟨rfl, ⟨rfl, trivial⟩⟩⟩) (t_X0_goesOn_69   x1 x2 s0 _ h)
    · replace h := ic hc h
      refine aw_aload_n dX0_goesOn_38 rfl rfl ?_
      refine aw_getR (t := 3) dX0_goesOn_39 fk_X0_15 pC_1 rfl ?_
      refine aw_aload_n dX0_goesOn_42 rfl rfl ?_
      refine aw_getI dX0_goesOn_43 fk_X0_40 pC_1 rfl ?_
      obtain ⟨hg2, h⟩ := gx_e h
      refine aw_iald dX0_goesOn_46 aC_3 hg2 ?_
      refine aw_iconst dX0_goesOn_47 ⟨by decide, by decide⟩ ?_
      refine aw_icmp_ne (tgt := 69) dX0_goesOn_48 (by decide) (fun hc => ?_) (fun hc => ?_)
      rotate_left
      · replace h := ip hc h
        refine aw_aload_n dX0_goesOn_51 rfl rfl ?_
        refine aw_getR (t := 9) dX0_goesOn_52 fk_X0_33 pC_1 rfl ?_
        refine aw_aload_n dX0_goesOn_55 rfl rfl ?_
        refine aw_getI dX0_goesOn_56 fk_X0_40 pC_1 rfl ?_
        obtain ⟨hg3, h⟩ := gx_e h
        refine aw_iald dX0_goesOn_59 aC_9 hg3 ?_
        refine aw_if_ne (tgt := 69) dX0_goesOn_60 (by decide) (fun hc => ?_) (fun hc => ?_)
        rotate_left
        · replace h := ip hc h
          refine aw_aload_n dX0_goesOn_63 rfl rfl ?_
          refine aw_iload_n dX0_goesOn_64 rfl rfl ?_
          obtain ⟨y2, s1, hg4, h⟩ := cb_e h
          refine aw_V1i (M2 := M_X0_takesFigure) dX0_goesOn_65 lk_X0_63 mk_X0_takesFigure mv_X0_takesFigure ⟨by decide, by decide⟩ pC_1 ⟨_, _, rfl⟩ (Nat.le_of_ble_eq_true rfl) (c_X0_takesFigure  hg4) ?_
          obtain ⟨hg5, h⟩ := gb_e h
          obtain rfl := Option.some.inj h
          exact aw_zret dX0_goesOn_68 rfl hg5
        · replace h := ic hc h
          exact aw_less (ls' := [some (vR (some 1)), some (vI x1), some (vI x2), none, none]) (⟨rfl, ⟨rfl, ⟨rfl, trivial⟩⟩⟩) (t_X0_goesOn_69   x1 x2 s0 _ h)
      · replace h := ic hc h
        exact aw_less (ls' := [some (vR (some 1)), some (vI x1), some (vI x2), none, none]) (⟨rfl, ⟨rfl, ⟨rfl, trivial⟩⟩⟩) (t_X0_goesOn_69   x1 x2 s0 _ h)
  · replace h := ic hc h
    refine aw_iconst dX0_goesOn_25 ⟨by decide, by decide⟩ ?_
    obtain rfl := Option.some.inj h
    exact aw_zret dX0_goesOn_26 rfl (Or.inl rfl)
def g_X0_goesOn_19 (x1 : Int) (x2 : Int) (s0 : SS) : Option (Int × SS) :=
  g_X0_goesOn_20  x1 x2 0 s0
set_option maxHeartbeats 4000000 in
theorem t_X0_goesOn_19  : ∀ (x1 : Int) (x2 : Int) (s0 : SS) (r : (Int × SS)), g_X0_goesOn_19 x1 x2 s0 = some r → AW LC M_X0_goesOn (some (vI r.1), r.2) 19 [some (vR (some 1)), some (vI x1), some (vI x2), none, none] [] s0 := by
  intro x1 x2 s0 r h
  unfold g_X0_goesOn_19 at h
  refine aw_iconst dX0_goesOn_19 ⟨by decide, by decide⟩ ?_
  exact (t_X0_goesOn_20   x1 x2 0 s0 _ h)
def f_X0_goesOn (x1 : Int) (x2 : Int) (s0 : SS) : Option (Int × SS) :=
  if (s0 1 9) ≤ 0 then (
    g_X0_goesOn_19  x1 x2 s0
  ) else (
    if (s0 1 12) = (-1) then (
      g_X0_goesOn_20  x1 x2 1 s0
    ) else (
      g_X0_goesOn_19  x1 x2 s0
    )
  )
set_option maxHeartbeats 4000000 in
theorem t_X0_goesOn_0  : ∀ (x1 : Int) (x2 : Int) (s0 : SS) (r : (Int × SS)), f_X0_goesOn x1 x2 s0 = some r → AW LC M_X0_goesOn (some (vI r.1), r.2) 0 [some (vR (some 1)), some (vI x1), some (vI x2), none, none] [] s0 := by
  intro x1 x2 s0 r h
  unfold f_X0_goesOn at h
  refine aw_aload_n dX0_goesOn_0 rfl rfl ?_
  refine aw_getI dX0_goesOn_1 fk_X0_46 pC_1 rfl ?_
  refine aw_if_le (tgt := 19) dX0_goesOn_4 (by decide) (fun hc => ?_) (fun hc => ?_)
  · replace h := ip hc h
    exact (t_X0_goesOn_19   x1 x2 s0 _ h)
  · replace h := ic hc h
    refine aw_aload_n dX0_goesOn_7 rfl rfl ?_
    refine aw_getI dX0_goesOn_8 fk_X0_40 pC_1 rfl ?_
    refine aw_iconst dX0_goesOn_11 ⟨by decide, by decide⟩ ?_
    refine aw_icmp_ne (tgt := 19) dX0_goesOn_12 (by decide) (fun hc => ?_) (fun hc => ?_)
    rotate_left
    · replace h := ip hc h
      refine aw_iconst dX0_goesOn_15 ⟨by decide, by decide⟩ ?_
      refine aw_goto (tgt := 20) dX0_goesOn_16 (by decide) ?_
      exact (t_X0_goesOn_20   x1 x2 1 s0 _ h)
    · replace h := ic hc h
      exact (t_X0_goesOn_19   x1 x2 s0 _ h)
theorem c_X0_goesOn {x1 : Int} {x2 : Int} {s0 : SS} {y : Int} {s1 : SS} (h : f_X0_goesOn x1 x2 s0 = some (y, s1)) : CT LC M_X0_goesOn [vR (some 1), vI x1, vI x2] s0 (some (vI y), s1) :=
  ct_of (n := 2) (by decide) (Nat.le_of_ble_eq_true rfl) (t_X0_goesOn_0 x1 x2 s0  _ h)
def g_X0_sizeBelow_18 (z0 : Int) (s0 : SS) : Option Int :=
  some z0
set_option maxHeartbeats 4000000 in
theorem t_X0_sizeBelow_18  : ∀ (z0 : Int) (s0 : SS) (r : Int), g_X0_sizeBelow_18 z0 s0 = some r → AW LC M_X0_sizeBelow (some (vI r), s0) 18 [none, none] [vI z0] s0 := by
  intro z0 s0 r h
  unfold g_X0_sizeBelow_18 at h
  obtain rfl := Option.some.inj h
  exact aw_iret dX0_sizeBelow_18 rfl
def f_X0_sizeBelow (x1 : Int) (s0 : SS) : Option Int :=
  bn (f_X0_hasPart x1 s0) fun y1 =>
  if y1 = 0 then (
    g_X0_sizeBelow_18  0 s0
  ) else (
    gx x1 40 <|
    g_X0_sizeBelow_18  (s0 5 x1.toNat) s0
  )
set_option maxHeartbeats 4000000 in
theorem t_X0_sizeBelow_0  : ∀ (x1 : Int) (s0 : SS) (r : Int), f_X0_sizeBelow x1 s0 = some r → AW LC M_X0_sizeBelow (some (vI r), s0) 0 [some (vR (some 1)), some (vI x1)] [] s0 := by
  intro x1 s0 r h
  unfold f_X0_sizeBelow at h
  refine aw_aload_n dX0_sizeBelow_0 rfl rfl ?_
  refine aw_iload_n dX0_sizeBelow_1 rfl rfl ?_
  obtain ⟨y1, hg1, h⟩ := bn_e h
  refine aw_V1i (M2 := M_X0_hasPart) dX0_sizeBelow_2 lk_X0_59 mk_X0_hasPart mv_X0_hasPart ⟨by decide, by decide⟩ pC_1 ⟨_, _, rfl⟩ (Nat.le_of_ble_eq_true rfl) (c_X0_hasPart  hg1) ?_
  refine aw_if_eq (tgt := 17) dX0_sizeBelow_5 (by decide) (fun hc => ?_) (fun hc => ?_)
  · replace h := ip hc h
    refine aw_iconst dX0_sizeBelow_17 ⟨by decide, by decide⟩ ?_
    exact aw_less (ls' := [none, none]) (trivial) (t_X0_sizeBelow_18   0 s0 _ h)
  · replace h := ic hc h
    refine aw_aload_n dX0_sizeBelow_8 rfl rfl ?_
    refine aw_getR (t := 5) dX0_sizeBelow_9 fk_X0_21 pC_1 rfl ?_
    refine aw_iload_n dX0_sizeBelow_12 rfl rfl ?_
    obtain ⟨hg2, h⟩ := gx_e h
    refine aw_iald dX0_sizeBelow_13 aC_5 hg2 ?_
    refine aw_goto (tgt := 18) dX0_sizeBelow_14 (by decide) ?_
    exact aw_less (ls' := [none, none]) (trivial) (t_X0_sizeBelow_18   (s0 5 x1.toNat) s0 _ h)
theorem c_X0_sizeBelow {x1 : Int} {s0 : SS} {y : Int} (h : f_X0_sizeBelow x1 s0 = some y) : CT LC M_X0_sizeBelow [vR (some 1), vI x1] s0 (some (vI y), s0) :=
  ct_of (n := 0) (by decide) (Nat.le_of_ble_eq_true rfl) (t_X0_sizeBelow_0 x1 s0  _ h)
def g_X0_measure_62  (s0 : SS) : Option SS :=
  some s0
set_option maxHeartbeats 4000000 in
theorem t_X0_measure_62  : ∀ (s0 : SS) (r : SS), g_X0_measure_62 s0 = some r → AW LC M_X0_measure (none, r) 62 [none, none, none] [] s0 := by
  intro s0 r h
  unfold g_X0_measure_62 at h
  obtain rfl := Option.some.inj h
  exact aw_vret dX0_measure_62 rfl
def g_X0_measure_26 (k7 : Int → SS → Option SS) (x1 : Int) (z0 : Int) (s0 : SS) : Option SS :=
  gx x1 40 <|
  bn (f_X0_sizeBelow (s0 7 x1.toNat) s0) fun y1 =>
  gx x1 40 <|
  bn (f_X0_sizeBelow (s0 8 x1.toNat) s0) fun y2 =>
  gx x1 40 <|
  sb (up s0 5 x1.toNat (wr ((wr (z0 + y1)) + y2))) fun s1 =>
  sb (wr (x1 + (-1))) fun y3 =>
  k7 y3 s1
set_option maxHeartbeats 4000000 in
theorem t_X0_measure_26 (k7 : Int → SS → Option SS) (hk7 : ∀ (x1 : Int) (s0 : SS) (r : SS), k7 x1 s0 = some r → AW LC M_X0_measure (none, r) 7 [some (vR (some 1)), some (vI x1), none] [] s0) : ∀ (x1 : Int) (z0 : Int) (s0 : SS) (r : SS), g_X0_measure_26 k7 x1 z0 s0 = some r → AW LC M_X0_measure (none, r) 26 [some (vR (some 1)), some (vI x1), none] [vI z0] s0 := by
  intro x1 z0 s0 r h
  unfold g_X0_measure_26 at h
  refine aw_istore_nA dX0_measure_26 rfl (by decide) rfl ?_
  show AW _ _ _ 27 [some (vR (some 1)), some (vI x1), some (vI z0)] _ _
  refine aw_aload_n dX0_measure_27 rfl rfl ?_
  refine aw_getR (t := 5) dX0_measure_28 fk_X0_21 pC_1 rfl ?_
  refine aw_iload_n dX0_measure_31 rfl rfl ?_
  refine aw_iload_n dX0_measure_32 rfl rfl ?_
  refine aw_aload_n dX0_measure_33 rfl rfl ?_
  refine aw_aload_n dX0_measure_34 rfl rfl ?_
  refine aw_getR (t := 7) dX0_measure_35 fk_X0_27 pC_1 rfl ?_
  refine aw_iload_n dX0_measure_38 rfl rfl ?_
  obtain ⟨hg1, h⟩ := gx_e h
  refine aw_iald dX0_measure_39 aC_7 hg1 ?_
  obtain ⟨y1, hg2, h⟩ := bn_e h
  refine aw_V1i (M2 := M_X0_sizeBelow) dX0_measure_40 lk_X0_84 mk_X0_sizeBelow mv_X0_sizeBelow ⟨by decide, by decide⟩ pC_1 ⟨_, _, rfl⟩ (Nat.le_of_ble_eq_true rfl) (c_X0_sizeBelow  hg2) ?_
  refine aw_iadd dX0_measure_43 ?_
  refine aw_aload_n dX0_measure_44 rfl rfl ?_
  refine aw_aload_n dX0_measure_45 rfl rfl ?_
  refine aw_getR (t := 8) dX0_measure_46 fk_X0_30 pC_1 rfl ?_
  refine aw_iload_n dX0_measure_49 rfl rfl ?_
  obtain ⟨hg3, h⟩ := gx_e h
  refine aw_iald dX0_measure_50 aC_8 hg3 ?_
  obtain ⟨y2, hg4, h⟩ := bn_e h
  refine aw_V1i (M2 := M_X0_sizeBelow) dX0_measure_51 lk_X0_84 mk_X0_sizeBelow mv_X0_sizeBelow ⟨by decide, by decide⟩ pC_1 ⟨_, _, rfl⟩ (Nat.le_of_ble_eq_true rfl) (c_X0_sizeBelow  hg4) ?_
  refine aw_iadd dX0_measure_54 ?_
  obtain ⟨hg5, h⟩ := gx_e h
  refine aw_iast dX0_measure_55 aC_5 hg5 (fun s1 e => ?_)
  replace h := sb_e h e
  clear e
  refine aw_iinc dX0_measure_56 rfl (by decide) rfl (fun y3 e => ?_)
  replace h := sb_e h e
  clear e
  show AW _ _ _ 59 [some (vR (some 1)), some (vI y3), some (vI z0)] _ _
  refine aw_goto (tgt := 7) dX0_measure_59 (by decide) ?_
  exact aw_less (ls' := [some (vR (some 1)), some (vI y3), none]) (⟨rfl, ⟨rfl, trivial⟩⟩) (hk7 y3 s1 _ h)
def g_X0_measure_7 (k7 : Int → SS → Option SS) (x1 : Int) (s0 : SS) : Option SS :=
  if x1 < 0 then (
    g_X0_measure_62  s0
  ) else (
    gx x1 40 <|
    if (s0 3 x1.toNat) = 4 then (
      g_X0_measure_26 k7 x1 2 s0
    ) else (
      g_X0_measure_26 k7 x1 1 s0
    )
  )
set_option maxHeartbeats 4000000 in
theorem t_X0_measure_7 (k7 : Int → SS → Option SS) (hk7 : ∀ (x1 : Int) (s0 : SS) (r : SS), k7 x1 s0 = some r → AW LC M_X0_measure (none, r) 7 [some (vR (some 1)), some (vI x1), none] [] s0) : ∀ (x1 : Int) (s0 : SS) (r : SS), g_X0_measure_7 k7 x1 s0 = some r → AW LC M_X0_measure (none, r) 7 [some (vR (some 1)), some (vI x1), none] [] s0 := by
  intro x1 s0 r h
  unfold g_X0_measure_7 at h
  refine aw_iload_n dX0_measure_7 rfl rfl ?_
  refine aw_if_lt (tgt := 62) dX0_measure_8 (by decide) (fun hc => ?_) (fun hc => ?_)
  · replace h := ip hc h
    exact aw_less (ls' := [none, none, none]) (trivial) (t_X0_measure_62   s0 _ h)
  · replace h := ic hc h
    refine aw_aload_n dX0_measure_11 rfl rfl ?_
    refine aw_getR (t := 3) dX0_measure_12 fk_X0_15 pC_1 rfl ?_
    refine aw_iload_n dX0_measure_15 rfl rfl ?_
    obtain ⟨hg1, h⟩ := gx_e h
    refine aw_iald dX0_measure_16 aC_3 hg1 ?_
    refine aw_iconst dX0_measure_17 ⟨by decide, by decide⟩ ?_
    refine aw_icmp_ne (tgt := 25) dX0_measure_18 (by decide) (fun hc => ?_) (fun hc => ?_)
    rotate_left
    · replace h := ip hc h
      refine aw_iconst dX0_measure_21 ⟨by decide, by decide⟩ ?_
      refine aw_goto (tgt := 26) dX0_measure_22 (by decide) ?_
      exact (t_X0_measure_26 k7 hk7 x1 2 s0 _ h)
    · replace h := ic hc h
      refine aw_iconst dX0_measure_25 ⟨by decide, by decide⟩ ?_
      exact (t_X0_measure_26 k7 hk7 x1 1 s0 _ h)
def f_X0_measure_7 : Nat → Int → SS → Option SS
  | 0 => fun _ _ => none
  | n + 1 => g_X0_measure_7 (f_X0_measure_7  n)
theorem s_X0_measure_7  : ∀ (n : Nat), ∀ (x1 : Int) (s0 : SS) (r : SS), f_X0_measure_7 n x1 s0 = some r → AW LC M_X0_measure (none, r) 7 [some (vR (some 1)), some (vI x1), none] [] s0 := by
  intro n
  induction n with
  | zero =>
    intro x1 s0 r h
    cases h
  | succ n ih =>
    intro x1 s0 r h
    exact t_X0_measure_7 (f_X0_measure_7  n) ih x1 s0 r h
def f_X0_measure  (s0 : SS) : Option SS :=
  sb (wr ((s0 1 9) - 1)) fun y1 =>
  f_X0_measure_7  FU y1 s0
set_option maxHeartbeats 4000000 in
theorem t_X0_measure_0  : ∀ (s0 : SS) (r : SS), f_X0_measure s0 = some r → AW LC M_X0_measure (none, r) 0 [some (vR (some 1)), none, none] [] s0 := by
  intro s0 r h
  unfold f_X0_measure at h
  refine aw_aload_n dX0_measure_0 rfl rfl ?_
  refine aw_getI dX0_measure_1 fk_X0_46 pC_1 rfl ?_
  refine aw_iconst dX0_measure_4 ⟨by decide, by decide⟩ ?_
  refine aw_isub dX0_measure_5 ?_
  refine aw_istore_n dX0_measure_6 rfl (by decide) rfl (fun y1 e => ?_)
  replace h := sb_e h e
  clear e
  show AW _ _ _ 7 [some (vR (some 1)), some (vI y1), none] _ _
  exact (s_X0_measure_7   FU y1 s0 _ h)
theorem c_X0_measure {s0 : SS} {s1 : SS} (h : f_X0_measure s0 = some s1) : CT LC M_X0_measure [vR (some 1)] s0 (none, s1) :=
  ct_of (n := 2) (by decide) (Nat.le_of_ble_eq_true rfl) (t_X0_measure_0  s0  _ h)
def g_X0_parse_114  (s0 : SS) : Option SS :=
  bn (f_X0_measure s0) fun s1 =>
  some s1
set_option maxHeartbeats 4000000 in
theorem t_X0_parse_114  : ∀ (s0 : SS) (r : SS), g_X0_parse_114 s0 = some r → AW LC M_X0_parse (none, r) 114 [some (vR (some 1)), none] [] s0 := by
  intro s0 r h
  unfold g_X0_parse_114 at h
  refine aw_aload_n dX0_parse_114 rfl rfl ?_
  obtain ⟨s1, hg1, h⟩ := bn_e h
  refine aw_V0v (M2 := M_X0_measure) dX0_parse_115 lk_X0_56 mk_X0_measure mv_X0_measure ⟨by decide, by decide⟩ pC_1 ⟨_, _, rfl⟩ (Nat.le_of_ble_eq_true rfl) (c_X0_measure  hg1) ?_
  obtain rfl := Option.some.inj h
  exact aw_vret dX0_parse_118 rfl
def g_X0_parse_96  (s0 : SS) : Option SS :=
  if (s0 1 11) = (-1) then (
    g_X0_parse_114  s0
  ) else (
    sb (up s0 1 9 0) fun s1 =>
    sb (up s1 1 10 0) fun s2 =>
    g_X0_parse_114  s2
  )
set_option maxHeartbeats 4000000 in
theorem t_X0_parse_96  : ∀ (s0 : SS) (r : SS), g_X0_parse_96 s0 = some r → AW LC M_X0_parse (none, r) 96 [some (vR (some 1)), none] [] s0 := by
  intro s0 r h
  unfold g_X0_parse_96 at h
  refine aw_aload_n dX0_parse_96 rfl rfl ?_
  refine aw_getI dX0_parse_97 fk_X0_36 pC_1 rfl ?_
  refine aw_iconst dX0_parse_100 ⟨by decide, by decide⟩ ?_
  refine aw_icmp_eq (tgt := 114) dX0_parse_101 (by decide) (fun hc => ?_) (fun hc => ?_)
  · replace h := ip hc h
    exact (t_X0_parse_114   s0 _ h)
  · replace h := ic hc h
    refine aw_aload_n dX0_parse_104 rfl rfl ?_
    refine aw_iconst dX0_parse_105 ⟨by decide, by decide⟩ ?_
    refine aw_put dX0_parse_106 fk_X0_46 pC_1 rfl ft_0_9 (nar_int _) (fun s1 e => ?_)
    replace h := sb_e h e
    clear e
    refine aw_aload_n dX0_parse_109 rfl rfl ?_
    refine aw_iconst dX0_parse_110 ⟨by decide, by decide⟩ ?_
    refine aw_put dX0_parse_111 fk_X0_49 pC_1 rfl ft_0_10 (nar_int _) (fun s2 e => ?_)
    replace h := sb_e h e
    clear e
    exact (t_X0_parse_114   s2 _ h)
def g_X0_parse_72  (s0 : SS) : Option SS :=
  if (s0 1 11) = (-1) then (
    if (s0 1 12) = (-1) then (
      g_X0_parse_96  s0
    ) else (
      sb (up s0 1 11 (s0 1 8)) fun s1 =>
      g_X0_parse_96  s1
    )
  ) else (
    g_X0_parse_96  s0
  )
set_option maxHeartbeats 4000000 in
theorem t_X0_parse_72  : ∀ (s0 : SS) (r : SS), g_X0_parse_72 s0 = some r → AW LC M_X0_parse (none, r) 72 [some (vR (some 1)), none] [] s0 := by
  intro s0 r h
  unfold g_X0_parse_72 at h
  refine aw_aload_n dX0_parse_72 rfl rfl ?_
  refine aw_getI dX0_parse_73 fk_X0_36 pC_1 rfl ?_
  refine aw_iconst dX0_parse_76 ⟨by decide, by decide⟩ ?_
  refine aw_icmp_ne (tgt := 96) dX0_parse_77 (by decide) (fun hc => ?_) (fun hc => ?_)
  rotate_left
  · replace h := ip hc h
    refine aw_aload_n dX0_parse_80 rfl rfl ?_
    refine aw_getI dX0_parse_81 fk_X0_40 pC_1 rfl ?_
    refine aw_iconst dX0_parse_84 ⟨by decide, by decide⟩ ?_
    refine aw_icmp_eq (tgt := 96) dX0_parse_85 (by decide) (fun hc => ?_) (fun hc => ?_)
    · replace h := ip hc h
      exact (t_X0_parse_96   s0 _ h)
    · replace h := ic hc h
      refine aw_aload_n dX0_parse_88 rfl rfl ?_
      refine aw_aload_n dX0_parse_89 rfl rfl ?_
      refine aw_getI dX0_parse_90 fk_X0_43 pC_1 rfl ?_
      refine aw_put dX0_parse_93 fk_X0_36 pC_1 rfl ft_0_11 (nar_int _) (fun s1 e => ?_)
      replace h := sb_e h e
      clear e
      exact (t_X0_parse_96   s1 _ h)
  · replace h := ic hc h
    exact (t_X0_parse_96   s0 _ h)
def g_X0_parse_66 (k22 : Int → SS → Option SS) (x1 : Int) (s0 : SS) : Option SS :=
  sb (wr (x1 + 1)) fun y1 =>
  k22 y1 s0
set_option maxHeartbeats 4000000 in
theorem t_X0_parse_66 (k22 : Int → SS → Option SS) (hk22 : ∀ (x1 : Int) (s0 : SS) (r : SS), k22 x1 s0 = some r → AW LC M_X0_parse (none, r) 22 [some (vR (some 1)), some (vI x1)] [] s0) : ∀ (x1 : Int) (s0 : SS) (r : SS), g_X0_parse_66 k22 x1 s0 = some r → AW LC M_X0_parse (none, r) 66 [some (vR (some 1)), some (vI x1)] [] s0 := by
  intro x1 s0 r h
  unfold g_X0_parse_66 at h
  refine aw_iinc dX0_parse_66 rfl (by decide) rfl (fun y1 e => ?_)
  replace h := sb_e h e
  clear e
  show AW _ _ _ 69 [some (vR (some 1)), some (vI y1)] _ _
  refine aw_goto (tgt := 22) dX0_parse_69 (by decide) ?_
  exact (hk22 y1 s0 _ h)
def g_X0_parse_22 (k22 : Int → SS → Option SS) (x1 : Int) (s0 : SS) : Option SS :=
  if (s0 1 8) ≤ x1 then (
    g_X0_parse_72  s0
  ) else (
    if 40 ≤ x1 then (
      g_X0_parse_72  s0
    ) else (
      if (s0 1 11) = (-1) then (
        gx x1 40 <|
        cb (f_X0_goesOn x1 (s0 2 x1.toNat) s0) fun y1 s1 =>
        if y1 = 0 then (
          sb (up s1 1 11 x1) fun s2 =>
          g_X0_parse_66 k22 x1 s2
        ) else (
          g_X0_parse_66 k22 x1 s1
        )
      ) else (
        g_X0_parse_72  s0
      )
    )
  )
set_option maxHeartbeats 4000000 in
theorem t_X0_parse_22 (k22 : Int → SS → Option SS) (hk22 : ∀ (x1 : Int) (s0 : SS) (r : SS), k22 x1 s0 = some r → AW LC M_X0_parse (none, r) 22 [some (vR (some 1)), some (vI x1)] [] s0) : ∀ (x1 : Int) (s0 : SS) (r : SS), g_X0_parse_22 k22 x1 s0 = some r → AW LC M_X0_parse (none, r) 22 [some (vR (some 1)), some (vI x1)] [] s0 := by
  intro x1 s0 r h
  unfold g_X0_parse_22 at h
  refine aw_iload_n dX0_parse_22 rfl rfl ?_
  refine aw_aload_n dX0_parse_23 rfl rfl ?_
  refine aw_getI dX0_parse_24 fk_X0_43 pC_1 rfl ?_
  refine aw_icmp_ge (tgt := 72) dX0_parse_27 (by decide) (fun hc => ?_) (fun hc => ?_)
  · replace h := ip hc h
    exact aw_less (ls' := [some (vR (some 1)), none]) (⟨rfl, trivial⟩) (t_X0_parse_72   s0 _ h)
  · replace h := ic hc h
    refine aw_iload_n dX0_parse_30 rfl rfl ?_
    refine aw_aload_n dX0_parse_31 rfl rfl ?_
    refine aw_getR (t := 2) dX0_parse_32 fk_X0_9 pC_1 rfl ?_
    refine aw_alen dX0_parse_35 aC_2 (by decide) ⟨by decide, by decide⟩ ?_
    refine aw_icmp_ge (tgt := 72) dX0_parse_36 (by decide) (fun hc => ?_) (fun hc => ?_)
    · replace h := ip hc h
      exact aw_less (ls' := [some (vR (some 1)), none]) (⟨rfl, trivial⟩) (t_X0_parse_72   s0 _ h)
    · replace h := ic hc h
      refine aw_aload_n dX0_parse_39 rfl rfl ?_
      refine aw_getI dX0_parse_40 fk_X0_36 pC_1 rfl ?_
      refine aw_iconst dX0_parse_43 ⟨by decide, by decide⟩ ?_
      refine aw_icmp_ne (tgt := 72) dX0_parse_44 (by decide) (fun hc => ?_) (fun hc => ?_)
      rotate_left
      · replace h := ip hc h
        refine aw_aload_n dX0_parse_47 rfl rfl ?_
        refine aw_iload_n dX0_parse_48 rfl rfl ?_
        refine aw_aload_n dX0_parse_49 rfl rfl ?_
        refine aw_getR (t := 2) dX0_parse_50 fk_X0_9 pC_1 rfl ?_
        refine aw_iload_n dX0_parse_53 rfl rfl ?_
        obtain ⟨hg1, h⟩ := gx_e h
        refine aw_iald dX0_parse_54 aC_2 hg1 ?_
        obtain ⟨y1, s1, hg2, h⟩ := cb_e h
        refine aw_V2i (M2 := M_X0_goesOn) dX0_parse_55 lk_X0_52 mk_X0_goesOn mv_X0_goesOn ⟨by decide, by decide⟩ pC_1 ⟨_, _, rfl⟩ (Nat.le_of_ble_eq_true rfl) (c_X0_goesOn  hg2) ?_
        refine aw_if_ne (tgt := 66) dX0_parse_58 (by decide) (fun hc => ?_) (fun hc => ?_)
        rotate_left
        · replace h := ip hc h
          refine aw_aload_n dX0_parse_61 rfl rfl ?_
          refine aw_iload_n dX0_parse_62 rfl rfl ?_
          refine aw_put dX0_parse_63 fk_X0_36 pC_1 rfl ft_0_11 (nar_int _) (fun s2 e => ?_)
          replace h := sb_e h e
          clear e
          exact (t_X0_parse_66 k22 hk22 x1 s2 _ h)
        · replace h := ic hc h
          exact (t_X0_parse_66 k22 hk22 x1 s1 _ h)
      · replace h := ic hc h
        exact aw_less (ls' := [some (vR (some 1)), none]) (⟨rfl, trivial⟩) (t_X0_parse_72   s0 _ h)
def f_X0_parse_22 : Nat → Int → SS → Option SS
  | 0 => fun _ _ => none
  | n + 1 => g_X0_parse_22 (f_X0_parse_22  n)
theorem s_X0_parse_22  : ∀ (n : Nat), ∀ (x1 : Int) (s0 : SS) (r : SS), f_X0_parse_22 n x1 s0 = some r → AW LC M_X0_parse (none, r) 22 [some (vR (some 1)), some (vI x1)] [] s0 := by
  intro n
  induction n with
  | zero =>
    intro x1 s0 r h
    cases h
  | succ n ih =>
    intro x1 s0 r h
    exact t_X0_parse_22 (f_X0_parse_22  n) ih x1 s0 r h
def f_X0_parse  (s0 : SS) : Option SS :=
  sb (up s0 1 9 0) fun s1 =>
  sb (up s1 1 10 0) fun s2 =>
  sb (up s2 1 11 (-1)) fun s3 =>
  sb (up s3 1 12 (-1)) fun s4 =>
  f_X0_parse_22  FU 0 s4
set_option maxHeartbeats 4000000 in
theorem t_X0_parse_0  : ∀ (s0 : SS) (r : SS), f_X0_parse s0 = some r → AW LC M_X0_parse (none, r) 0 [some (vR (some 1)), none] [] s0 := by
  intro s0 r h
  unfold f_X0_parse at h
  refine aw_aload_n dX0_parse_0 rfl rfl ?_
  refine aw_iconst dX0_parse_1 ⟨by decide, by decide⟩ ?_
  refine aw_put dX0_parse_2 fk_X0_46 pC_1 rfl ft_0_9 (nar_int _) (fun s1 e => ?_)
  replace h := sb_e h e
  clear e
  refine aw_aload_n dX0_parse_5 rfl rfl ?_
  refine aw_iconst dX0_parse_6 ⟨by decide, by decide⟩ ?_
  refine aw_put dX0_parse_7 fk_X0_49 pC_1 rfl ft_0_10 (nar_int _) (fun s2 e => ?_)
  replace h := sb_e h e
  clear e
  refine aw_aload_n dX0_parse_10 rfl rfl ?_
  refine aw_iconst dX0_parse_11 ⟨by decide, by decide⟩ ?_
  refine aw_put dX0_parse_12 fk_X0_36 pC_1 rfl ft_0_11 (nar_int _) (fun s3 e => ?_)
  replace h := sb_e h e
  clear e
  refine aw_aload_n dX0_parse_15 rfl rfl ?_
  refine aw_iconst dX0_parse_16 ⟨by decide, by decide⟩ ?_
  refine aw_put dX0_parse_17 fk_X0_40 pC_1 rfl ft_0_12 (nar_int _) (fun s4 e => ?_)
  replace h := sb_e h e
  clear e
  refine aw_iconst dX0_parse_20 ⟨by decide, by decide⟩ ?_
  refine aw_istore_nA dX0_parse_21 rfl (by decide) rfl ?_
  show AW _ _ _ 22 [some (vR (some 1)), some (vI 0)] _ _
  exact (s_X0_parse_22   FU 0 s4 _ h)
theorem c_X0_parse {s0 : SS} {s1 : SS} (h : f_X0_parse s0 = some s1) : CT LC M_X0_parse [vR (some 1)] s0 (none, s1) :=
  ct_of (n := 1) (by decide) (Nat.le_of_ble_eq_true rfl) (t_X0_parse_0  s0  _ h)
def g_X3_set_43  (s0 : SS) : Option SS :=
  some s0
set_option maxHeartbeats 4000000 in
theorem t_X3_set_43  : ∀ (s0 : SS) (r : SS), g_X3_set_43 s0 = some r → AW LC M_X3_set (none, r) 43 [none, none, none, none, none, none] [] s0 := by
  intro s0 r h
  unfold g_X3_set_43 at h
  obtain rfl := Option.some.inj h
  exact aw_vret dX3_set_43 rfl
def f_X3_set (q : Nat) (x1 : Int) (x2 : Int) (x3 : Int) (x4 : Int) (x5 : Int) (s0 : SS) : Option SS :=
  if x1 < 0 then (
    g_X3_set_43  s0
  ) else (
    if ((shl q : Int)) ≤ x1 then (
      g_X3_set_43  s0
    ) else (
      gx x1 (shl q) <|
      sb (up s0 (q + 1 + 0) x1.toNat x2) fun s1 =>
      gx x1 (shl q) <|
      sb (up s1 (q + 1 + 1) x1.toNat x3) fun s2 =>
      gx x1 (shl q) <|
      sb (up s2 (q + 1 + 2) x1.toNat x4) fun s3 =>
      gx x1 (shl q) <|
      sb (up s3 (q + 1 + 3) x1.toNat x5) fun s4 =>
      g_X3_set_43  s4
    )
  )
set_option maxHeartbeats 4000000 in
theorem t_X3_set_0  : ∀ (q : Nat) (x1 : Int) (x2 : Int) (x3 : Int) (x4 : Int) (x5 : Int) (s0 : SS) (hq : PL LC q 3) (r : SS), f_X3_set q x1 x2 x3 x4 x5 s0 = some r → AW LC M_X3_set (none, r) 0 [some (vR (some q)), some (vI x1), some (vI x2), some (vI x3), some (vI x4), some (vI x5)] [] s0 := by
  intro q x1 x2 x3 x4 x5 s0 hq r h
  unfold f_X3_set at h
  refine aw_iload_n dX3_set_0 rfl rfl ?_
  refine aw_if_lt (tgt := 43) dX3_set_1 (by decide) (fun hc => ?_) (fun hc => ?_)
  · replace h := ip hc h
    exact aw_less (ls' := [none, none, none, none, none, none]) (trivial) (t_X3_set_43   s0 _ h)
  · replace h := ic hc h
    refine aw_iload_n dX3_set_4 rfl rfl ?_
    refine aw_aload_n dX3_set_5 rfl rfl ?_
    refine aw_getR dX3_set_6 fk_X3_15 hq (sh_r hq (by decide)) ?_
    refine aw_alen dX3_set_9 (sh_a hq (k := 0) (by decide)) (by decide) (sh_l hq) ?_
    refine aw_icmp_ge (tgt := 43) dX3_set_10 (by decide) (fun hc => ?_) (fun hc => ?_)
    · replace h := ip hc h
      exact aw_less (ls' := [none, none, none, none, none, none]) (trivial) (t_X3_set_43   s0 _ h)
    · replace h := ic hc h
      refine aw_aload_n dX3_set_13 rfl rfl ?_
      refine aw_getR dX3_set_14 fk_X3_15 hq (sh_r hq (by decide)) ?_
      refine aw_iload_n dX3_set_17 rfl rfl ?_
      refine aw_iload_n dX3_set_18 rfl rfl ?_
      obtain ⟨hg1, h⟩ := gx_e h
      refine aw_iast dX3_set_19 (sh_a hq (k := 0) (by decide)) hg1 (fun s1 e => ?_)
      replace h := sb_e h e
      clear e
      refine aw_aload_n dX3_set_20 rfl rfl ?_
      refine aw_getR dX3_set_21 fk_X3_21 hq (sh_r hq (by decide)) ?_
      refine aw_iload_n dX3_set_24 rfl rfl ?_
      refine aw_iload_n dX3_set_25 rfl rfl ?_
      obtain ⟨hg2, h⟩ := gx_e h
      refine aw_iast dX3_set_26 (sh_a hq (k := 1) (by decide)) hg2 (fun s2 e => ?_)
      replace h := sb_e h e
      clear e
      refine aw_aload_n dX3_set_27 rfl rfl ?_
      refine aw_getR dX3_set_28 fk_X3_24 hq (sh_r hq (by decide)) ?_
      refine aw_iload_n dX3_set_31 rfl rfl ?_
      refine aw_iload dX3_set_32 rfl ?_
      obtain ⟨hg3, h⟩ := gx_e h
      refine aw_iast dX3_set_34 (sh_a hq (k := 2) (by decide)) hg3 (fun s3 e => ?_)
      replace h := sb_e h e
      clear e
      refine aw_aload_n dX3_set_35 rfl rfl ?_
      refine aw_getR dX3_set_36 fk_X3_27 hq (sh_r hq (by decide)) ?_
      refine aw_iload_n dX3_set_39 rfl rfl ?_
      refine aw_iload dX3_set_40 rfl ?_
      obtain ⟨hg4, h⟩ := gx_e h
      refine aw_iast dX3_set_42 (sh_a hq (k := 3) (by decide)) hg4 (fun s4 e => ?_)
      replace h := sb_e h e
      clear e
      exact aw_less (ls' := [none, none, none, none, none, none]) (trivial) (t_X3_set_43   s4 _ h)
theorem c_X3_set {q : Nat} {x1 : Int} {x2 : Int} {x3 : Int} {x4 : Int} {x5 : Int} {s0 : SS} {s1 : SS} (hq : PL LC q 3) (h : f_X3_set q x1 x2 x3 x4 x5 s0 = some s1) : CT LC M_X3_set [vR (some q), vI x1, vI x2, vI x3, vI x4, vI x5] s0 (none, s1) :=
  ct_of (n := 0) (by decide) (Nat.le_of_ble_eq_true rfl) (t_X3_set_0 q x1 x2 x3 x4 x5 s0 hq _ h)
def f_X3_setWord (q : Nat) (x1 : Int) (x2 : Int) (s0 : SS) : Option SS :=
  bn (f_X3_set q x1 1 x2 x2 0 s0) fun s1 =>
  some s1
set_option maxHeartbeats 4000000 in
theorem t_X3_setWord_0  : ∀ (q : Nat) (x1 : Int) (x2 : Int) (s0 : SS) (hq : PL LC q 3) (r : SS), f_X3_setWord q x1 x2 s0 = some r → AW LC M_X3_setWord (none, r) 0 [some (vR (some q)), some (vI x1), some (vI x2)] [] s0 := by
  intro q x1 x2 s0 hq r h
  unfold f_X3_setWord at h
  refine aw_aload_n dX3_setWord_0 rfl rfl ?_
  refine aw_iload_n dX3_setWord_1 rfl rfl ?_
  refine aw_iconst dX3_setWord_2 ⟨by decide, by decide⟩ ?_
  refine aw_iload_n dX3_setWord_3 rfl rfl ?_
  refine aw_iload_n dX3_setWord_4 rfl rfl ?_
  refine aw_iconst dX3_setWord_5 ⟨by decide, by decide⟩ ?_
  obtain ⟨s1, hg1, h⟩ := bn_e h
  refine aw_V5v (M2 := M_X3_set) dX3_setWord_6 lk_X3_30 mk_X3_set mv_X3_set ⟨by decide, by decide⟩ hq ⟨_, _, rfl⟩ (Nat.le_of_ble_eq_true rfl) (c_X3_set hq hg1) ?_
  obtain rfl := Option.some.inj h
  exact aw_vret dX3_setWord_9 rfl
theorem c_X3_setWord {q : Nat} {x1 : Int} {x2 : Int} {s0 : SS} {s1 : SS} (hq : PL LC q 3) (h : f_X3_setWord q x1 x2 s0 = some s1) : CT LC M_X3_setWord [vR (some q), vI x1, vI x2] s0 (none, s1) :=
  ct_of (n := 0) (by decide) (Nat.le_of_ble_eq_true rfl) (t_X3_setWord_0 q x1 x2 s0 hq _ h)
def g_X3_has_18 (z0 : Int) (s0 : SS) : Option Int :=
  gb z0 <|
  some z0
set_option maxHeartbeats 4000000 in
theorem t_X3_has_18  : ∀ (z0 : Int) (s0 : SS) (r : Int), g_X3_has_18 z0 s0 = some r → AW LC M_X3_has (some (vI r), s0) 18 [none, none] [vI z0] s0 := by
  intro z0 s0 r h
  unfold g_X3_has_18 at h
  obtain ⟨hg1, h⟩ := gb_e h
  obtain rfl := Option.some.inj h
  exact aw_zret dX3_has_18 rfl hg1
def g_X3_has_17  (s0 : SS) : Option Int :=
  g_X3_has_18  0 s0
set_option maxHeartbeats 4000000 in
theorem t_X3_has_17  : ∀ (s0 : SS) (r : Int), g_X3_has_17 s0 = some r → AW LC M_X3_has (some (vI r), s0) 17 [none, none] [] s0 := by
  intro s0 r h
  unfold g_X3_has_17 at h
  refine aw_iconst dX3_has_17 ⟨by decide, by decide⟩ ?_
  exact (t_X3_has_18   0 s0 _ h)
def f_X3_has (q : Nat) (x1 : Int) (s0 : SS) : Option Int :=
  if x1 < 0 then (
    g_X3_has_17  s0
  ) else (
    if ((shl q : Int)) ≤ x1 then (
      g_X3_has_17  s0
    ) else (
      g_X3_has_18  1 s0
    )
  )
set_option maxHeartbeats 4000000 in
theorem t_X3_has_0  : ∀ (q : Nat) (x1 : Int) (s0 : SS) (hq : PL LC q 3) (r : Int), f_X3_has q x1 s0 = some r → AW LC M_X3_has (some (vI r), s0) 0 [some (vR (some q)), some (vI x1)] [] s0 := by
  intro q x1 s0 hq r h
  unfold f_X3_has at h
  refine aw_iload_n dX3_has_0 rfl rfl ?_
  refine aw_if_lt (tgt := 17) dX3_has_1 (by decide) (fun hc => ?_) (fun hc => ?_)
  · replace h := ip hc h
    exact aw_less (ls' := [none, none]) (trivial) (t_X3_has_17   s0 _ h)
  · replace h := ic hc h
    refine aw_iload_n dX3_has_4 rfl rfl ?_
    refine aw_aload_n dX3_has_5 rfl rfl ?_
    refine aw_getR dX3_has_6 fk_X3_15 hq (sh_r hq (by decide)) ?_
    refine aw_alen dX3_has_9 (sh_a hq (k := 0) (by decide)) (by decide) (sh_l hq) ?_
    refine aw_icmp_ge (tgt := 17) dX3_has_10 (by decide) (fun hc => ?_) (fun hc => ?_)
    · replace h := ip hc h
      exact aw_less (ls' := [none, none]) (trivial) (t_X3_has_17   s0 _ h)
    · replace h := ic hc h
      refine aw_iconst dX3_has_13 ⟨by decide, by decide⟩ ?_
      refine aw_goto (tgt := 18) dX3_has_14 (by decide) ?_
      exact aw_less (ls' := [none, none]) (trivial) (t_X3_has_18   1 s0 _ h)
theorem c_X3_has {q : Nat} {x1 : Int} {s0 : SS} {y : Int} (hq : PL LC q 3) (h : f_X3_has q x1 s0 = some y) : CT LC M_X3_has [vR (some q), vI x1] s0 (some (vI y), s0) :=
  ct_of (n := 0) (by decide) (Nat.le_of_ble_eq_true rfl) (t_X3_has_0 q x1 s0 hq _ h)
