def g_X7_in_15 (z0 : Int) : Option Int :=
  gb z0 <|
  some z0
set_option maxHeartbeats 4000000 in
theorem t_X7_in_15  : ∀ (z0 : Int) (s0 : SS) (r : Int), g_X7_in_15 z0 = some r → AW LM M_X7_in (some (vI r), s0) 15 [none, none, none] [vI z0] s0 := by
  intro z0 s0 r h
  unfold g_X7_in_15 at h
  obtain ⟨hg1, h⟩ := gb_e h
  obtain rfl := Option.some.inj h
  exact aw_zret dX7_in_15 rfl hg1
def g_X7_in_14  : Option Int :=
  g_X7_in_15  0
set_option maxHeartbeats 4000000 in
theorem t_X7_in_14  : ∀ (s0 : SS) (r : Int), g_X7_in_14 = some r → AW LM M_X7_in (some (vI r), s0) 14 [none, none, none] [] s0 := by
  intro s0 r h
  unfold g_X7_in_14 at h
  refine aw_iconst dX7_in_14 ⟨by decide, by decide⟩ ?_
  exact (t_X7_in_15   0 s0 _ h)
def f_X7_in (x0 : Int) (x1 : Int) (x2 : Int) : Option Int :=
  if x0 < x1 then (
    g_X7_in_14  
  ) else (
    if x2 < x0 then (
      g_X7_in_14  
    ) else (
      g_X7_in_15  1
    )
  )
set_option maxHeartbeats 4000000 in
theorem t_X7_in_0  : ∀ (x0 : Int) (x1 : Int) (x2 : Int) (s0 : SS) (r : Int), f_X7_in x0 x1 x2 = some r → AW LM M_X7_in (some (vI r), s0) 0 [some (vI x0), some (vI x1), some (vI x2)] [] s0 := by
  intro x0 x1 x2 s0 r h
  unfold f_X7_in at h
  refine aw_iload_n dX7_in_0 rfl rfl ?_
  refine aw_iload_n dX7_in_1 rfl rfl ?_
  refine aw_icmp_lt (tgt := 14) dX7_in_2 (by decide) (fun hc => ?_) (fun hc => ?_)
  · replace h := ip hc h
    exact aw_less (ls' := [none, none, none]) (trivial) (t_X7_in_14   s0 _ h)
  · replace h := ic hc h
    refine aw_iload_n dX7_in_5 rfl rfl ?_
    refine aw_iload_n dX7_in_6 rfl rfl ?_
    refine aw_icmp_gt (tgt := 14) dX7_in_7 (by decide) (fun hc => ?_) (fun hc => ?_)
    · replace h := ip hc h
      exact aw_less (ls' := [none, none, none]) (trivial) (t_X7_in_14   s0 _ h)
    · replace h := ic hc h
      refine aw_iconst dX7_in_10 ⟨by decide, by decide⟩ ?_
      refine aw_goto (tgt := 15) dX7_in_11 (by decide) ?_
      exact aw_less (ls' := [none, none, none]) (trivial) (t_X7_in_15   1 s0 _ h)
theorem c_X7_in {x0 : Int} {x1 : Int} {x2 : Int} {s0 : SS} {y : Int} (h : f_X7_in x0 x1 x2 = some y) : CT LM M_X7_in [vI x0, vI x1, vI x2] s0 (some (vI y), s0) :=
  ct_of (n := 0) (by decide) (Nat.le_of_ble_eq_true rfl) (t_X7_in_0 x0 x1 x2 s0  _ h)
def g_X7_isIn_14 (z0 : Int) : Option Int :=
  gb z0 <|
  some z0
set_option maxHeartbeats 4000000 in
theorem t_X7_isIn_14  : ∀ (z0 : Int) (s0 : SS) (r : Int), g_X7_isIn_14 z0 = some r → AW LM M_X7_isIn (some (vI r), s0) 14 [none, none] [vI z0] s0 := by
  intro z0 s0 r h
  unfold g_X7_isIn_14 at h
  obtain ⟨hg1, h⟩ := gb_e h
  obtain rfl := Option.some.inj h
  exact aw_zret dX7_isIn_14 rfl hg1
def f_X7_isIn (x0 : Int) (x1 : Int) : Option Int :=
  if (i_and (i_shr x0 x1) 1) = 1 then (
    g_X7_isIn_14  1
  ) else (
    g_X7_isIn_14  0
  )
set_option maxHeartbeats 4000000 in
theorem t_X7_isIn_0  : ∀ (x0 : Int) (x1 : Int) (s0 : SS) (r : Int), f_X7_isIn x0 x1 = some r → AW LM M_X7_isIn (some (vI r), s0) 0 [some (vI x0), some (vI x1)] [] s0 := by
  intro x0 x1 s0 r h
  unfold f_X7_isIn at h
  refine aw_iload_n dX7_isIn_0 rfl rfl ?_
  refine aw_iload_n dX7_isIn_1 rfl rfl ?_
  refine aw_ishr dX7_isIn_2 ?_
  refine aw_iconst dX7_isIn_3 ⟨by decide, by decide⟩ ?_
  refine aw_iand dX7_isIn_4 ?_
  refine aw_iconst dX7_isIn_5 ⟨by decide, by decide⟩ ?_
  refine aw_icmp_ne (tgt := 13) dX7_isIn_6 (by decide) (fun hc => ?_) (fun hc => ?_)
  rotate_left
  · replace h := ip hc h
    refine aw_iconst dX7_isIn_9 ⟨by decide, by decide⟩ ?_
    refine aw_goto (tgt := 14) dX7_isIn_10 (by decide) ?_
    exact aw_less (ls' := [none, none]) (trivial) (t_X7_isIn_14   1 s0 _ h)
  · replace h := ic hc h
    refine aw_iconst dX7_isIn_13 ⟨by decide, by decide⟩ ?_
    exact aw_less (ls' := [none, none]) (trivial) (t_X7_isIn_14   0 s0 _ h)
theorem c_X7_isIn {x0 : Int} {x1 : Int} {s0 : SS} {y : Int} (h : f_X7_isIn x0 x1 = some y) : CT LM M_X7_isIn [vI x0, vI x1] s0 (some (vI y), s0) :=
  ct_of (n := 0) (by decide) (Nat.le_of_ble_eq_true rfl) (t_X7_isIn_0 x0 x1 s0  _ h)
def f_X7_type (x1 : Int) (s0 : SS) : Option (Int × SS) :=
  bn (f_X7_in x1 0 255) fun y1 =>
  if y1 = 0 then (
    some ((-2), s0)
  ) else (
    if (s0 0 0) = 40 then (
      some ((-4), s0)
    ) else (
      gx (s0 0 0) 40 <|
      sb (up s0 1 (s0 0 0).toNat x1) fun s1 =>
      sb (up s1 0 0 (wr ((s1 0 0) + 1))) fun s2 =>
      some (s2 0 0, s2)
    )
  )
set_option maxHeartbeats 4000000 in
theorem t_X7_type_0  : ∀ (x1 : Int) (s0 : SS) (r : (Int × SS)), f_X7_type x1 s0 = some r → AW LM M_X7_type (some (vI r.1), r.2) 0 [some (vR (some 0)), some (vI x1)] [] s0 := by
  intro x1 s0 r h
  unfold f_X7_type at h
  refine aw_iload_n dX7_type_0 rfl rfl ?_
  refine aw_iconst dX7_type_1 ⟨by decide, by decide⟩ ?_
  refine aw_sipush dX7_type_2 ⟨by decide, by decide⟩ (by decide) ?_
  obtain ⟨y1, hg1, h⟩ := bn_e h
  refine aw_S3i (M2 := M_X7_in) dX7_type_5 lk_X7_75 mk_X7_in ms_X7_in ⟨by decide, by decide⟩ (Nat.le_of_ble_eq_true rfl) (c_X7_in  hg1) ?_
  refine aw_if_ne (tgt := 14) dX7_type_8 (by decide) (fun hc => ?_) (fun hc => ?_)
  rotate_left
  · replace h := ip hc h
    refine aw_bipush dX7_type_11 ⟨by decide, by decide⟩ (by decide) ?_
    obtain rfl := Option.some.inj h
    exact aw_iret dX7_type_13 rfl
  · replace h := ic hc h
    refine aw_aload_n dX7_type_14 rfl rfl ?_
    refine aw_getI dX7_type_15 fk_X7_79 pM_0 rfl ?_
    refine aw_bipush dX7_type_18 ⟨by decide, by decide⟩ (by decide) ?_
    refine aw_icmp_ne (tgt := 26) dX7_type_20 (by decide) (fun hc => ?_) (fun hc => ?_)
    rotate_left
    · replace h := ip hc h
      refine aw_bipush dX7_type_23 ⟨by decide, by decide⟩ (by decide) ?_
      obtain rfl := Option.some.inj h
      exact aw_iret dX7_type_25 rfl
    · replace h := ic hc h
      refine aw_aload_n dX7_type_26 rfl rfl ?_
      refine aw_getR (t := 1) dX7_type_27 fk_X7_7 pM_0 rfl ?_
      refine aw_aload_n dX7_type_30 rfl rfl ?_
      refine aw_getI dX7_type_31 fk_X7_79 pM_0 rfl ?_
      refine aw_iload_n dX7_type_34 rfl rfl ?_
      obtain ⟨hg2, h⟩ := gx_e h
      refine aw_iast dX7_type_35 aM_1 hg2 (fun s1 e => ?_)
      replace h := sb_e h e
      clear e
      refine aw_aload_n dX7_type_36 rfl rfl ?_
      refine aw_dup dX7_type_37 rfl ?_
      refine aw_getI dX7_type_38 fk_X7_79 pM_0 rfl ?_
      refine aw_iconst dX7_type_41 ⟨by decide, by decide⟩ ?_
      refine aw_iadd dX7_type_42 ?_
      refine aw_put dX7_type_43 fk_X7_79 pM_0 rfl ft_7_0 (nar_int _) (fun s2 e => ?_)
      replace h := sb_e h e
      clear e
      refine aw_aload_n dX7_type_46 rfl rfl ?_
      refine aw_getI dX7_type_47 fk_X7_79 pM_0 rfl ?_
      obtain rfl := Option.some.inj h
      exact aw_iret dX7_type_50 rfl
theorem c_X7_type {x1 : Int} {s0 : SS} {y : Int} {s1 : SS} (h : f_X7_type x1 s0 = some (y, s1)) : CT LM M_X7_type [vR (some 0), vI x1] s0 (some (vI y), s1) :=
  ct_of (n := 0) (by decide) (Nat.le_of_ble_eq_true rfl) (t_X7_type_0 x1 s0  _ h)
def f_X7_wipe  (s0 : SS) : Option (Int × SS) :=
  sb (s0 0 0) fun y1 =>
  sb (up s0 0 0 0) fun s1 =>
  some (y1, s1)
set_option maxHeartbeats 4000000 in
theorem t_X7_wipe_0  : ∀ (s0 : SS) (r : (Int × SS)), f_X7_wipe s0 = some r → AW LM M_X7_wipe (some (vI r.1), r.2) 0 [some (vR (some 0)), none] [] s0 := by
  intro s0 r h
  unfold f_X7_wipe at h
  refine aw_aload_n dX7_wipe_0 rfl rfl ?_
  refine aw_getI dX7_wipe_1 fk_X7_79 pM_0 rfl ?_
  refine aw_istore_n dX7_wipe_4 rfl (by decide) rfl (fun y1 e => ?_)
  replace h := sb_e h e
  clear e
  show AW _ _ _ 5 [some (vR (some 0)), some (vI y1)] _ _
  refine aw_aload_n dX7_wipe_5 rfl rfl ?_
  refine aw_iconst dX7_wipe_6 ⟨by decide, by decide⟩ ?_
  refine aw_put dX7_wipe_7 fk_X7_79 pM_0 rfl ft_7_0 (nar_int _) (fun s1 e => ?_)
  replace h := sb_e h e
  clear e
  refine aw_iload_n dX7_wipe_10 rfl rfl ?_
  obtain rfl := Option.some.inj h
  exact aw_iret dX7_wipe_11 rfl
theorem c_X7_wipe {s0 : SS} {y : Int} {s1 : SS} (h : f_X7_wipe s0 = some (y, s1)) : CT LM M_X7_wipe [vR (some 0)] s0 (some (vI y), s1) :=
  ct_of (n := 1) (by decide) (Nat.le_of_ble_eq_true rfl) (t_X7_wipe_0  s0  _ h)
def f_X7_undo  (s0 : SS) : Option (Int × SS) :=
  if (s0 0 0) = 0 then (
    some ((-3), s0)
  ) else (
    sb (up s0 0 0 (wr ((s0 0 0) - 1))) fun s1 =>
    some (s1 0 0, s1)
  )
set_option maxHeartbeats 4000000 in
theorem t_X7_undo_0  : ∀ (s0 : SS) (r : (Int × SS)), f_X7_undo s0 = some r → AW LM M_X7_undo (some (vI r.1), r.2) 0 [some (vR (some 0))] [] s0 := by
  intro s0 r h
  unfold f_X7_undo at h
  refine aw_aload_n dX7_undo_0 rfl rfl ?_
  refine aw_getI dX7_undo_1 fk_X7_79 pM_0 rfl ?_
  refine aw_if_ne (tgt := 10) dX7_undo_4 (by decide) (fun hc => ?_) (fun hc => ?_)
  rotate_left
  · replace h := ip hc h
    refine aw_bipush dX7_undo_7 ⟨by decide, by decide⟩ (by decide) ?_
    obtain rfl := Option.some.inj h
    exact aw_iret dX7_undo_9 rfl
  · replace h := ic hc h
    refine aw_aload_n dX7_undo_10 rfl rfl ?_
    refine aw_dup dX7_undo_11 rfl ?_
    refine aw_getI dX7_undo_12 fk_X7_79 pM_0 rfl ?_
    refine aw_iconst dX7_undo_15 ⟨by decide, by decide⟩ ?_
    refine aw_isub dX7_undo_16 ?_
    refine aw_put dX7_undo_17 fk_X7_79 pM_0 rfl ft_7_0 (nar_int _) (fun s1 e => ?_)
    replace h := sb_e h e
    clear e
    refine aw_aload_n dX7_undo_20 rfl rfl ?_
    refine aw_getI dX7_undo_21 fk_X7_79 pM_0 rfl ?_
    obtain rfl := Option.some.inj h
    exact aw_iret dX7_undo_24 rfl
theorem c_X7_undo {s0 : SS} {y : Int} {s1 : SS} (h : f_X7_undo s0 = some (y, s1)) : CT LM M_X7_undo [vR (some 0)] s0 (some (vI y), s1) :=
  ct_of (n := 0) (by decide) (Nat.le_of_ble_eq_true rfl) (t_X7_undo_0  s0  _ h)
def f_X7_width (x1 : Int) (s0 : SS) : Option (Int × SS) :=
  bn (f_X7_in x1 1 99) fun y1 =>
  if y1 = 0 then (
    some ((-2), s0)
  ) else (
    sb (s0 0 2) fun y2 =>
    sb (up s0 0 2 x1) fun s1 =>
    some (y2, s1)
  )
set_option maxHeartbeats 4000000 in
theorem t_X7_width_0  : ∀ (x1 : Int) (s0 : SS) (r : (Int × SS)), f_X7_width x1 s0 = some r → AW LM M_X7_width (some (vI r.1), r.2) 0 [some (vR (some 0)), some (vI x1), none] [] s0 := by
  intro x1 s0 r h
  unfold f_X7_width at h
  refine aw_iload_n dX7_width_0 rfl rfl ?_
  refine aw_iconst dX7_width_1 ⟨by decide, by decide⟩ ?_
  refine aw_bipush dX7_width_2 ⟨by decide, by decide⟩ (by decide) ?_
  obtain ⟨y1, hg1, h⟩ := bn_e h
  refine aw_S3i (M2 := M_X7_in) dX7_width_4 lk_X7_75 mk_X7_in ms_X7_in ⟨by decide, by decide⟩ (Nat.le_of_ble_eq_true rfl) (c_X7_in  hg1) ?_
  refine aw_if_ne (tgt := 13) dX7_width_7 (by decide) (fun hc => ?_) (fun hc => ?_)
  rotate_left
  · replace h := ip hc h
    refine aw_bipush dX7_width_10 ⟨by decide, by decide⟩ (by decide) ?_
    obtain rfl := Option.some.inj h
    exact aw_iret dX7_width_12 rfl
  · replace h := ic hc h
    refine aw_aload_n dX7_width_13 rfl rfl ?_
    refine aw_getI dX7_width_14 fk_X7_13 pM_0 rfl ?_
    refine aw_istore_n dX7_width_17 rfl (by decide) rfl (fun y2 e => ?_)
    replace h := sb_e h e
    clear e
    show AW _ _ _ 18 [some (vR (some 0)), some (vI x1), some (vI y2)] _ _
    refine aw_aload_n dX7_width_18 rfl rfl ?_
    refine aw_iload_n dX7_width_19 rfl rfl ?_
    refine aw_put dX7_width_20 fk_X7_13 pM_0 rfl ft_7_2 (nar_int _) (fun s1 e => ?_)
    replace h := sb_e h e
    clear e
    refine aw_iload_n dX7_width_23 rfl rfl ?_
    obtain rfl := Option.some.inj h
    exact aw_iret dX7_width_24 rfl
theorem c_X7_width {x1 : Int} {s0 : SS} {y : Int} {s1 : SS} (h : f_X7_width x1 s0 = some (y, s1)) : CT LM M_X7_width [vR (some 0), vI x1] s0 (some (vI y), s1) :=
  ct_of (n := 1) (by decide) (Nat.le_of_ble_eq_true rfl) (t_X7_width_0 x1 s0  _ h)
def f_X7_isSheet (x0 : Int) : Option Int :=
  bn (f_X7_in x0 0 3) fun y1 =>
  gb y1 <|
  some y1
set_option maxHeartbeats 4000000 in
theorem t_X7_isSheet_0  : ∀ (x0 : Int) (s0 : SS) (r : Int), f_X7_isSheet x0 = some r → AW LM M_X7_isSheet (some (vI r), s0) 0 [some (vI x0)] [] s0 := by
  intro x0 s0 r h
  unfold f_X7_isSheet at h
  refine aw_iload_n dX7_isSheet_0 rfl rfl ?_
  refine aw_iconst dX7_isSheet_1 ⟨by decide, by decide⟩ ?_
  refine aw_iconst dX7_isSheet_2 ⟨by decide, by decide⟩ ?_
  obtain ⟨y1, hg1, h⟩ := bn_e h
  refine aw_S3i (M2 := M_X7_in) dX7_isSheet_3 lk_X7_75 mk_X7_in ms_X7_in ⟨by decide, by decide⟩ (Nat.le_of_ble_eq_true rfl) (c_X7_in  hg1) ?_
  obtain ⟨hg2, h⟩ := gb_e h
  obtain rfl := Option.some.inj h
  exact aw_zret dX7_isSheet_6 rfl hg2
theorem c_X7_isSheet {x0 : Int} {s0 : SS} {y : Int} (h : f_X7_isSheet x0 = some y) : CT LM M_X7_isSheet [vI x0] s0 (some (vI y), s0) :=
  ct_of (n := 0) (by decide) (Nat.le_of_ble_eq_true rfl) (t_X7_isSheet_0 x0 s0  _ h)
def f_X7_meets (x1 : Int) (s0 : SS) : Option (Int × SS) :=
  sb (up s0 0 30 x1) fun s1 =>
  some (wr ((-10) - x1), s1)
set_option maxHeartbeats 4000000 in
theorem t_X7_meets_0  : ∀ (x1 : Int) (s0 : SS) (r : (Int × SS)), f_X7_meets x1 s0 = some r → AW LM M_X7_meets (some (vI r.1), r.2) 0 [some (vR (some 0)), some (vI x1)] [] s0 := by
  intro x1 s0 r h
  unfold f_X7_meets at h
  refine aw_aload_n dX7_meets_0 rfl rfl ?_
  refine aw_iload_n dX7_meets_1 rfl rfl ?_
  refine aw_put dX7_meets_2 fk_X7_276 pM_0 rfl ft_7_30 (nar_int _) (fun s1 e => ?_)
  replace h := sb_e h e
  clear e
  refine aw_bipush dX7_meets_5 ⟨by decide, by decide⟩ (by decide) ?_
  refine aw_iload_n dX7_meets_7 rfl rfl ?_
  refine aw_isub dX7_meets_8 ?_
  obtain rfl := Option.some.inj h
  exact aw_iret dX7_meets_9 rfl
theorem c_X7_meets {x1 : Int} {s0 : SS} {y : Int} {s1 : SS} (h : f_X7_meets x1 s0 = some (y, s1)) : CT LM M_X7_meets [vR (some 0), vI x1] s0 (some (vI y), s1) :=
  ct_of (n := 0) (by decide) (Nat.le_of_ble_eq_true rfl) (t_X7_meets_0 x1 s0  _ h)
def g_X7_read_61 (x2 : Int) (s0 : SS) : Option (Int × SS) :=
  some (x2, s0)
set_option maxHeartbeats 4000000 in
theorem t_X7_read_61  : ∀ (x2 : Int) (s0 : SS) (r : (Int × SS)), g_X7_read_61 x2 s0 = some r → AW LM M_X7_read (some (vI r.1), r.2) 61 [none, none, some (vI x2)] [] s0 := by
  intro x2 s0 r h
  unfold g_X7_read_61 at h
  refine aw_iload_n dX7_read_61 rfl rfl ?_
  obtain rfl := Option.some.inj h
  exact aw_iret dX7_read_62 rfl
def g_X7_read_27 (k27 : Int → Int → SS → Option (Int × SS)) (x1 : Int) (x2 : Int) (s0 : SS) : Option (Int × SS) :=
  gx x1 4 <|
  if (s0 18 x1.toNat) ≤ x2 then (
    g_X7_read_61  x2 s0
  ) else (
    gx (wr ((wr (60 * x1)) + x2)) 240 <|
    cb (f_X7_type (s0 19 (wr ((wr (60 * x1)) + x2)).toNat) s0) fun y1 s1 =>
    if y1 ≤ 0 then (
      g_X7_read_61  x2 s1
    ) else (
      sb (wr (x2 + 1)) fun y2 =>
      k27 x1 y2 s1
    )
  )
set_option maxHeartbeats 4000000 in
theorem t_X7_read_27 (k27 : Int → Int → SS → Option (Int × SS)) (hk27 : ∀ (x1 : Int) (x2 : Int) (s0 : SS) (r : (Int × SS)), k27 x1 x2 s0 = some r → AW LM M_X7_read (some (vI r.1), r.2) 27 [some (vR (some 0)), some (vI x1), some (vI x2)] [] s0) : ∀ (x1 : Int) (x2 : Int) (s0 : SS) (r : (Int × SS)), g_X7_read_27 k27 x1 x2 s0 = some r → AW LM M_X7_read (some (vI r.1), r.2) 27 [some (vR (some 0)), some (vI x1), some (vI x2)] [] s0 := by
  intro x1 x2 s0 r h
  unfold g_X7_read_27 at h
  refine aw_iload_n dX7_read_27 rfl rfl ?_
  refine aw_aload_n dX7_read_28 rfl rfl ?_
  refine aw_getR (t := 18) dX7_read_29 fk_X7_66 pM_0 rfl ?_
  refine aw_iload_n dX7_read_32 rfl rfl ?_
  obtain ⟨hg1, h⟩ := gx_e h
  refine aw_iald dX7_read_33 aM_18 hg1 ?_
  refine aw_icmp_ge (tgt := 61) dX7_read_34 (by decide) (fun hc => ?_) (fun hc => ?_)
  · replace h := ip hc h
    exact aw_less (ls' := [none, none, some (vI x2)]) (⟨rfl, trivial⟩) (t_X7_read_61   x2 s0 _ h)
  · replace h := ic hc h
    refine aw_aload_n dX7_read_37 rfl rfl ?_
    refine aw_aload_n dX7_read_38 rfl rfl ?_
    refine aw_getR (t := 19) dX7_read_39 fk_X7_69 pM_0 rfl ?_
    refine aw_bipush dX7_read_42 ⟨by decide, by decide⟩ (by decide) ?_
    refine aw_iload_n dX7_read_44 rfl rfl ?_
    refine aw_imul dX7_read_45 ?_
    refine aw_iload_n dX7_read_46 rfl rfl ?_
    refine aw_iadd dX7_read_47 ?_
    obtain ⟨hg2, h⟩ := gx_e h
    refine aw_iald dX7_read_48 aM_19 hg2 ?_
    obtain ⟨y1, s1, hg3, h⟩ := cb_e h
    refine aw_V1i (M2 := M_X7_type) dX7_read_49 lk_X7_90 mk_X7_type mv_X7_type ⟨by decide, by decide⟩ pM_0 ⟨_, _, rfl⟩ (Nat.le_of_ble_eq_true rfl) (c_X7_type  hg3) ?_
    refine aw_if_le (tgt := 61) dX7_read_52 (by decide) (fun hc => ?_) (fun hc => ?_)
    · replace h := ip hc h
      exact aw_less (ls' := [none, none, some (vI x2)]) (⟨rfl, trivial⟩) (t_X7_read_61   x2 s1 _ h)
    · replace h := ic hc h
      refine aw_iinc dX7_read_55 rfl (by decide) rfl (fun y2 e => ?_)
      replace h := sb_e h e
      clear e
      show AW _ _ _ 58 [some (vR (some 0)), some (vI x1), some (vI y2)] _ _
      refine aw_goto (tgt := 27) dX7_read_58 (by decide) ?_
      exact (hk27 x1 y2 s1 _ h)
def f_X7_read_27 : Nat → Int → Int → SS → Option (Int × SS)
  | 0 => fun _ _ _ => none
  | n + 1 => g_X7_read_27 (f_X7_read_27  n)
theorem s_X7_read_27  : ∀ (n : Nat), ∀ (x1 : Int) (x2 : Int) (s0 : SS) (r : (Int × SS)), f_X7_read_27 n x1 x2 s0 = some r → AW LM M_X7_read (some (vI r.1), r.2) 27 [some (vR (some 0)), some (vI x1), some (vI x2)] [] s0 := by
  intro n
  induction n with
  | zero =>
    intro x1 x2 s0 r h
    cases h
  | succ n ih =>
    intro x1 x2 s0 r h
    exact t_X7_read_27 (f_X7_read_27  n) ih x1 x2 s0 r h
def f_X7_read (x1 : Int) (s0 : SS) : Option (Int × SS) :=
  bn (f_X7_isSheet x1) fun y1 =>
  if y1 = 0 then (
    some ((-2), s0)
  ) else (
    gx x1 4 <|
    if (s0 16 x1.toNat) = 0 then (
      cb (f_X7_meets 1 s0) fun y2 s1 =>
      some (y2, s1)
    ) else (
      f_X7_read_27  FU x1 0 s0
    )
  )
set_option maxHeartbeats 4000000 in
theorem t_X7_read_0  : ∀ (x1 : Int) (s0 : SS) (r : (Int × SS)), f_X7_read x1 s0 = some r → AW LM M_X7_read (some (vI r.1), r.2) 0 [some (vR (some 0)), some (vI x1), none] [] s0 := by
  intro x1 s0 r h
  unfold f_X7_read at h
  refine aw_iload_n dX7_read_0 rfl rfl ?_
  obtain ⟨y1, hg1, h⟩ := bn_e h
  refine aw_S1i (M2 := M_X7_isSheet) dX7_read_1 lk_X7_82 mk_X7_isSheet ms_X7_isSheet ⟨by decide, by decide⟩ (Nat.le_of_ble_eq_true rfl) (c_X7_isSheet  hg1) ?_
  refine aw_if_ne (tgt := 10) dX7_read_4 (by decide) (fun hc => ?_) (fun hc => ?_)
  rotate_left
  · replace h := ip hc h
    refine aw_bipush dX7_read_7 ⟨by decide, by decide⟩ (by decide) ?_
    obtain rfl := Option.some.inj h
    exact aw_iret dX7_read_9 rfl
  · replace h := ic hc h
    refine aw_aload_n dX7_read_10 rfl rfl ?_
    refine aw_getR (t := 16) dX7_read_11 fk_X7_59 pM_0 rfl ?_
    refine aw_iload_n dX7_read_14 rfl rfl ?_
    obtain ⟨hg2, h⟩ := gx_e h
    refine aw_zald dX7_read_15 aM_16 hg2 ?_
    refine aw_if_ne (tgt := 25) dX7_read_16 (by decide) (fun hc => ?_) (fun hc => ?_)
    rotate_left
    · replace h := ip hc h
      refine aw_aload_n dX7_read_19 rfl rfl ?_
      refine aw_iconst dX7_read_20 ⟨by decide, by decide⟩ ?_
      obtain ⟨y2, s1, hg3, h⟩ := cb_e h
      refine aw_V1i (M2 := M_X7_meets) dX7_read_21 lk_X7_86 mk_X7_meets mv_X7_meets ⟨by decide, by decide⟩ pM_0 ⟨_, _, rfl⟩ (Nat.le_of_ble_eq_true rfl) (c_X7_meets  hg3) ?_
      obtain rfl := Option.some.inj h
      exact aw_iret dX7_read_24 rfl
    · replace h := ic hc h
      refine aw_iconst dX7_read_25 ⟨by decide, by decide⟩ ?_
      refine aw_istore_nA dX7_read_26 rfl (by decide) rfl ?_
      show AW _ _ _ 27 [some (vR (some 0)), some (vI x1), some (vI 0)] _ _
      exact (s_X7_read_27   FU x1 0 s0 _ h)
theorem c_X7_read {x1 : Int} {s0 : SS} {y : Int} {s1 : SS} (h : f_X7_read x1 s0 = some (y, s1)) : CT LM M_X7_read [vR (some 0), vI x1] s0 (some (vI y), s1) :=
  ct_of (n := 1) (by decide) (Nat.le_of_ble_eq_true rfl) (t_X7_read_0 x1 s0  _ h)
def g_X7_kindOf_66 (z0 : Int) : Option Int :=
  some z0
set_option maxHeartbeats 4000000 in
theorem t_X7_kindOf_66  : ∀ (z0 : Int) (s0 : SS) (r : Int), g_X7_kindOf_66 z0 = some r → AW LM M_X7_kindOf (some (vI r), s0) 66 [none] [vI z0] s0 := by
  intro z0 s0 r h
  unfold g_X7_kindOf_66 at h
  obtain rfl := Option.some.inj h
  exact aw_iret dX7_kindOf_66 rfl
def f_X7_kindOf (x0 : Int) : Option Int :=
  bn (f_X7_in x0 97 105) fun y1 =>
  if y1 = 0 then (
    if x0 = 72 then (
      g_X7_kindOf_66  1
    ) else (
      if x0 = 86 then (
        g_X7_kindOf_66  2
      ) else (
        if x0 = 67 then (
          g_X7_kindOf_66  3
        ) else (
          if x0 = 78 then (
            g_X7_kindOf_66  4
          ) else (
            if x0 = 70 then (
              g_X7_kindOf_66  5
            ) else (
              g_X7_kindOf_66  (-1)
            )
          )
        )
      )
    )
  ) else (
    g_X7_kindOf_66  0
  )
set_option maxHeartbeats 4000000 in
theorem t_X7_kindOf_0  : ∀ (x0 : Int) (s0 : SS) (r : Int), f_X7_kindOf x0 = some r → AW LM M_X7_kindOf (some (vI r), s0) 0 [some (vI x0)] [] s0 := by
  intro x0 s0 r h
  unfold f_X7_kindOf at h
  refine aw_iload_n dX7_kindOf_0 rfl rfl ?_
  refine aw_bipush dX7_kindOf_1 ⟨by decide, by decide⟩ (by decide) ?_
  refine aw_bipush dX7_kindOf_3 ⟨by decide, by decide⟩ (by decide) ?_
  obtain ⟨y1, hg1, h⟩ := bn_e h
  refine aw_S3i (M2 := M_X7_in) dX7_kindOf_5 lk_X7_75 mk_X7_in ms_X7_in ⟨by decide, by decide⟩ (Nat.le_of_ble_eq_true rfl) (c_X7_in  hg1) ?_
  refine aw_if_eq (tgt := 15) dX7_kindOf_8 (by decide) (fun hc => ?_) (fun hc => ?_)
  · replace h := ip hc h
    refine aw_iload_n dX7_kindOf_15 rfl rfl ?_
    refine aw_bipush dX7_kindOf_16 ⟨by decide, by decide⟩ (by decide) ?_
    refine aw_icmp_ne (tgt := 25) dX7_kindOf_18 (by decide) (fun hc => ?_) (fun hc => ?_)
    rotate_left
    · replace h := ip hc h
      refine aw_iconst dX7_kindOf_21 ⟨by decide, by decide⟩ ?_
      refine aw_goto (tgt := 66) dX7_kindOf_22 (by decide) ?_
      exact aw_less (ls' := [none]) (trivial) (t_X7_kindOf_66   1 s0 _ h)
    · replace h := ic hc h
      refine aw_iload_n dX7_kindOf_25 rfl rfl ?_
      refine aw_bipush dX7_kindOf_26 ⟨by decide, by decide⟩ (by decide) ?_
      refine aw_icmp_ne (tgt := 35) dX7_kindOf_28 (by decide) (fun hc => ?_) (fun hc => ?_)
      rotate_left
      · replace h := ip hc h
        refine aw_iconst dX7_kindOf_31 ⟨by decide, by decide⟩ ?_
        refine aw_goto (tgt := 66) dX7_kindOf_32 (by decide) ?_
        exact aw_less (ls' := [none]) (trivial) (t_X7_kindOf_66   2 s0 _ h)
      · replace h := ic hc h
        refine aw_iload_n dX7_kindOf_35 rfl rfl ?_
        refine aw_bipush dX7_kindOf_36 ⟨by decide, by decide⟩ (by decide) ?_
        refine aw_icmp_ne (tgt := 45) dX7_kindOf_38 (by decide) (fun hc => ?_) (fun hc => ?_)
        rotate_left
        · replace h := ip hc h
          refine aw_iconst dX7_kindOf_41 ⟨by decide, by decide⟩ ?_
          refine aw_goto (tgt := 66) dX7_kindOf_42 (by decide) ?_
          exact aw_less (ls' := [none]) (trivial) (t_X7_kindOf_66   3 s0 _ h)
        · replace h := ic hc h
          refine aw_iload_n dX7_kindOf_45 rfl rfl ?_
          refine aw_bipush dX7_kindOf_46 ⟨by decide, by decide⟩ (by decide) ?_
          refine aw_icmp_ne (tgt := 55) dX7_kindOf_48 (by decide) (fun hc => ?_) (fun hc => ?_)
          rotate_left
          · replace h := ip hc h
            refine aw_iconst dX7_kindOf_51 ⟨by decide, by decide⟩ ?_
            refine aw_goto (tgt := 66) dX7_kindOf_52 (by decide) ?_
            exact aw_less (ls' := [none]) (trivial) (t_X7_kindOf_66   4 s0 _ h)
          · replace h := ic hc h
            refine aw_iload_n dX7_kindOf_55 rfl rfl ?_
            refine aw_bipush dX7_kindOf_56 ⟨by decide, by decide⟩ (by decide) ?_
            refine aw_icmp_ne (tgt := 65) dX7_kindOf_58 (by decide) (fun hc => ?_) (fun hc => ?_)
            rotate_left
            · replace h := ip hc h
              refine aw_iconst dX7_kindOf_61 ⟨by decide, by decide⟩ ?_
              refine aw_goto (tgt := 66) dX7_kindOf_62 (by decide) ?_
              exact aw_less (ls' := [none]) (trivial) (t_X7_kindOf_66   5 s0 _ h)
            · replace h := ic hc h
              refine aw_iconst dX7_kindOf_65 ⟨by decide, by decide⟩ ?_
              exact aw_less (ls' := [none]) (trivial) (t_X7_kindOf_66   (-1) s0 _ h)
  · replace h := ic hc h
    refine aw_iconst dX7_kindOf_11 ⟨by decide, by decide⟩ ?_
    refine aw_goto (tgt := 66) dX7_kindOf_12 (by decide) ?_
    exact aw_less (ls' := [none]) (trivial) (t_X7_kindOf_66   0 s0 _ h)
theorem c_X7_kindOf {x0 : Int} {s0 : SS} {y : Int} (h : f_X7_kindOf x0 = some y) : CT LM M_X7_kindOf [vI x0] s0 (some (vI y), s0) :=
  ct_of (n := 0) (by decide) (Nat.le_of_ble_eq_true rfl) (t_X7_kindOf_0 x0 s0  _ h)
def f_X7_isTwofold (x0 : Int) : Option Int :=
  bn (f_X7_in x0 1 3) fun y1 =>
  gb y1 <|
  some y1
set_option maxHeartbeats 4000000 in
theorem t_X7_isTwofold_0  : ∀ (x0 : Int) (s0 : SS) (r : Int), f_X7_isTwofold x0 = some r → AW LM M_X7_isTwofold (some (vI r), s0) 0 [some (vI x0)] [] s0 := by
  intro x0 s0 r h
  unfold f_X7_isTwofold at h
  refine aw_iload_n dX7_isTwofold_0 rfl rfl ?_
  refine aw_iconst dX7_isTwofold_1 ⟨by decide, by decide⟩ ?_
  refine aw_iconst dX7_isTwofold_2 ⟨by decide, by decide⟩ ?_
  obtain ⟨y1, hg1, h⟩ := bn_e h
  refine aw_S3i (M2 := M_X7_in) dX7_isTwofold_3 lk_X7_75 mk_X7_in ms_X7_in ⟨by decide, by decide⟩ (Nat.le_of_ble_eq_true rfl) (c_X7_in  hg1) ?_
  obtain ⟨hg2, h⟩ := gb_e h
  obtain rfl := Option.some.inj h
  exact aw_zret dX7_isTwofold_6 rfl hg2
theorem c_X7_isTwofold {x0 : Int} {s0 : SS} {y : Int} (h : f_X7_isTwofold x0 = some y) : CT LM M_X7_isTwofold [vI x0] s0 (some (vI y), s0) :=
  ct_of (n := 0) (by decide) (Nat.le_of_ble_eq_true rfl) (t_X7_isTwofold_0 x0 s0  _ h)
def g_X7_readsText_253 (z0 : Int) (s0 : SS) : Option (Int × SS) :=
  some (z0, s0)
set_option maxHeartbeats 4000000 in
theorem t_X7_readsText_253  : ∀ (z0 : Int) (s0 : SS) (r : (Int × SS)), g_X7_readsText_253 z0 s0 = some r → AW LM M_X7_readsText (some (vI r.1), r.2) 253 [none, none, none, none, none] [vI z0] s0 := by
  intro z0 s0 r h
  unfold g_X7_readsText_253 at h
  obtain rfl := Option.some.inj h
  exact aw_iret dX7_readsText_253 rfl
def g_X7_readsText_241 (x1 : Int) (s0 : SS) : Option (Int × SS) :=
  if x1 ≤ 0 then (
    g_X7_readsText_253  (-1) s0
  ) else (
    g_X7_readsText_253  (s0 0 0) s0
  )
set_option maxHeartbeats 4000000 in
theorem t_X7_readsText_241  : ∀ (x1 : Int) (s0 : SS) (r : (Int × SS)), g_X7_readsText_241 x1 s0 = some r → AW LM M_X7_readsText (some (vI r.1), r.2) 241 [some (vR (some 0)), some (vI x1), none, none, none] [] s0 := by
  intro x1 s0 r h
  unfold g_X7_readsText_241 at h
  refine aw_iload_n dX7_readsText_241 rfl rfl ?_
  refine aw_if_le (tgt := 252) dX7_readsText_242 (by decide) (fun hc => ?_) (fun hc => ?_)
  · replace h := ip hc h
    refine aw_iconst dX7_readsText_252 ⟨by decide, by decide⟩ ?_
    exact aw_less (ls' := [none, none, none, none, none]) (trivial) (t_X7_readsText_253   (-1) s0 _ h)
  · replace h := ic hc h
    refine aw_aload_n dX7_readsText_245 rfl rfl ?_
    refine aw_getI dX7_readsText_246 fk_X7_79 pM_0 rfl ?_
    refine aw_goto (tgt := 253) dX7_readsText_249 (by decide) ?_
    exact aw_less (ls' := [none, none, none, none, none]) (trivial) (t_X7_readsText_253   (s0 0 0) s0 _ h)
def g_X7_readsText_66 (x2 : Int) (s0 : SS) : Option (Int × SS) :=
  some (x2, s0)
set_option maxHeartbeats 4000000 in
theorem t_X7_readsText_66  : ∀ (x2 : Int) (s0 : SS) (r : (Int × SS)), g_X7_readsText_66 x2 s0 = some r → AW LM M_X7_readsText (some (vI r.1), r.2) 66 [none, none, some (vI x2), none, none] [] s0 := by
  intro x2 s0 r h
  unfold g_X7_readsText_66 at h
  refine aw_iload_n dX7_readsText_66 rfl rfl ?_
  obtain rfl := Option.some.inj h
  exact aw_iret dX7_readsText_67 rfl
def g_X7_readsText_212 (x2 : Int) (s0 : SS) : Option (Int × SS) :=
  some (x2, s0)
set_option maxHeartbeats 4000000 in
theorem t_X7_readsText_212  : ∀ (x2 : Int) (s0 : SS) (r : (Int × SS)), g_X7_readsText_212 x2 s0 = some r → AW LM M_X7_readsText (some (vI r.1), r.2) 212 [none, none, some (vI x2), none, none] [] s0 := by
  intro x2 s0 r h
  unfold g_X7_readsText_212 at h
  refine aw_iload_n dX7_readsText_212 rfl rfl ?_
  obtain rfl := Option.some.inj h
  exact aw_iret dX7_readsText_213 rfl
def g_X7_readsText_228 (k25 : Int → Int → SS → Option (Int × SS)) (x1 : Int) (x2 : Int) (s0 : SS) : Option (Int × SS) :=
  sb (up s0 0 4 (wr ((s0 0 4) + 1))) fun s1 =>
  k25 x1 x2 s1
set_option maxHeartbeats 4000000 in
theorem t_X7_readsText_228 (k25 : Int → Int → SS → Option (Int × SS)) (hk25 : ∀ (x1 : Int) (x2 : Int) (s0 : SS) (r : (Int × SS)), k25 x1 x2 s0 = some r → AW LM M_X7_readsText (some (vI r.1), r.2) 25 [some (vR (some 0)), some (vI x1), some (vI x2), none, none] [] s0) : ∀ (x1 : Int) (x2 : Int) (s0 : SS) (r : (Int × SS)), g_X7_readsText_228 k25 x1 x2 s0 = some r → AW LM M_X7_readsText (some (vI r.1), r.2) 228 [some (vR (some 0)), some (vI x1), some (vI x2), none, none] [] s0 := by
  intro x1 x2 s0 r h
  unfold g_X7_readsText_228 at h
  refine aw_aload_n dX7_readsText_228 rfl rfl ?_
  refine aw_dup dX7_readsText_229 rfl ?_
  refine aw_getI dX7_readsText_230 fk_X7_93 pM_0 rfl ?_
  refine aw_iconst dX7_readsText_233 ⟨by decide, by decide⟩ ?_
  refine aw_iadd dX7_readsText_234 ?_
  refine aw_put dX7_readsText_235 fk_X7_93 pM_0 rfl ft_7_4 (nar_int _) (fun s1 e => ?_)
  replace h := sb_e h e
  clear e
  refine aw_goto (tgt := 25) dX7_readsText_238 (by decide) ?_
  exact (hk25 x1 x2 s1 _ h)
def g_X7_readsText_199 (k25 : Int → Int → SS → Option (Int × SS)) (x1 : Int) (x2 : Int) (z0 : Int) (s0 : SS) : Option (Int × SS) :=
  bn (f_X7_in z0 1 9) fun y1 =>
  if y1 = 0 then (
    g_X7_readsText_212  x2 s0
  ) else (
    gx (s0 0 4) 40 <|
    sb (up s0 3 (s0 0 4).toNat z0) fun s1 =>
    sb (wr (x2 + 1)) fun y2 =>
    g_X7_readsText_228 k25 x1 y2 s1
  )
set_option maxHeartbeats 4000000 in
theorem t_X7_readsText_199 (k25 : Int → Int → SS → Option (Int × SS)) (hk25 : ∀ (x1 : Int) (x2 : Int) (s0 : SS) (r : (Int × SS)), k25 x1 x2 s0 = some r → AW LM M_X7_readsText (some (vI r.1), r.2) 25 [some (vR (some 0)), some (vI x1), some (vI x2), none, none] [] s0) : ∀ (x1 : Int) (x2 : Int) (z0 : Int) (s0 : SS) (r : (Int × SS)), g_X7_readsText_199 k25 x1 x2 z0 s0 = some r → AW LM M_X7_readsText (some (vI r.1), r.2) 199 [some (vR (some 0)), some (vI x1), some (vI x2), none, none] [vI z0] s0 := by
  intro x1 x2 z0 s0 r h
  unfold g_X7_readsText_199 at h
  refine aw_istoreA dX7_readsText_199 (by decide) rfl ?_
  show AW _ _ _ 201 [some (vR (some 0)), some (vI x1), some (vI x2), none, some (vI z0)] _ _
  refine aw_iload dX7_readsText_201 rfl ?_
  refine aw_iconst dX7_readsText_203 ⟨by decide, by decide⟩ ?_
  refine aw_bipush dX7_readsText_204 ⟨by decide, by decide⟩ (by decide) ?_
  obtain ⟨y1, hg1, h⟩ := bn_e h
  refine aw_S3i (M2 := M_X7_in) dX7_readsText_206 lk_X7_75 mk_X7_in ms_X7_in ⟨by decide, by decide⟩ (Nat.le_of_ble_eq_true rfl) (c_X7_in  hg1) ?_
  refine aw_if_ne (tgt := 214) dX7_readsText_209 (by decide) (fun hc => ?_) (fun hc => ?_)
  rotate_left
  · replace h := ip hc h
    exact aw_less (ls' := [none, none, some (vI x2), none, none]) (⟨rfl, trivial⟩) (t_X7_readsText_212   x2 s0 _ h)
  · replace h := ic hc h
    refine aw_aload_n dX7_readsText_214 rfl rfl ?_
    refine aw_getR (t := 3) dX7_readsText_215 fk_X7_20 pM_0 rfl ?_
    refine aw_aload_n dX7_readsText_218 rfl rfl ?_
    refine aw_getI dX7_readsText_219 fk_X7_93 pM_0 rfl ?_
    refine aw_iload dX7_readsText_222 rfl ?_
    obtain ⟨hg2, h⟩ := gx_e h
    refine aw_iast dX7_readsText_224 aM_3 hg2 (fun s1 e => ?_)
    replace h := sb_e h e
    clear e
    refine aw_iinc dX7_readsText_225 rfl (by decide) rfl (fun y2 e => ?_)
    replace h := sb_e h e
    clear e
    show AW _ _ _ 228 [some (vR (some 0)), some (vI x1), some (vI y2), none, some (vI z0)] _ _
    exact aw_less (ls' := [some (vR (some 0)), some (vI x1), some (vI y2), none, none]) (⟨rfl, ⟨rfl, ⟨rfl, trivial⟩⟩⟩) (t_X7_readsText_228 k25 hk25 x1 y2 s1 _ h)
def g_X7_readsText_168 (k25 : Int → Int → SS → Option (Int × SS)) (x2 : Int) (x3 : Int) (z0 : Int) (z1 : Int) (s0 : SS) : Option (Int × SS) :=
  sb (wr (z1 + z0)) fun y1 =>
  sb (wr (x2 + 1)) fun y2 =>
  if x3 = 4 then (
    if (s0 0 0) ≤ y2 then (
      g_X7_readsText_199 k25 y1 y2 (-1) s0
    ) else (
      gx y2 40 <|
      g_X7_readsText_199 k25 y1 y2 (wr ((s0 1 y2.toNat) - 48)) s0
    )
  ) else (
    g_X7_readsText_228 k25 y1 y2 s0
  )
set_option maxHeartbeats 4000000 in
theorem t_X7_readsText_168 (k25 : Int → Int → SS → Option (Int × SS)) (hk25 : ∀ (x1 : Int) (x2 : Int) (s0 : SS) (r : (Int × SS)), k25 x1 x2 s0 = some r → AW LM M_X7_readsText (some (vI r.1), r.2) 25 [some (vR (some 0)), some (vI x1), some (vI x2), none, none] [] s0) : ∀ (x2 : Int) (x3 : Int) (z0 : Int) (z1 : Int) (s0 : SS) (r : (Int × SS)), g_X7_readsText_168 k25 x2 x3 z0 z1 s0 = some r → AW LM M_X7_readsText (some (vI r.1), r.2) 168 [some (vR (some 0)), none, some (vI x2), some (vI x3), none] [vI z0, vI z1] s0 := by
  intro x2 x3 z0 z1 s0 r h
  unfold g_X7_readsText_168 at h
  refine aw_iadd dX7_readsText_168 ?_
  refine aw_istore_n dX7_readsText_169 rfl (by decide) rfl (fun y1 e => ?_)
  replace h := sb_e h e
  clear e
  show AW _ _ _ 170 [some (vR (some 0)), some (vI y1), some (vI x2), some (vI x3), none] _ _
  refine aw_iinc dX7_readsText_170 rfl (by decide) rfl (fun y2 e => ?_)
  replace h := sb_e h e
  clear e
  show AW _ _ _ 173 [some (vR (some 0)), some (vI y1), some (vI y2), some (vI x3), none] _ _
  refine aw_iload_n dX7_readsText_173 rfl rfl ?_
  refine aw_iconst dX7_readsText_174 ⟨by decide, by decide⟩ ?_
  refine aw_icmp_ne (tgt := 228) dX7_readsText_175 (by decide) (fun hc => ?_) (fun hc => ?_)
  rotate_left
  · replace h := ip hc h
    refine aw_iload_n dX7_readsText_178 rfl rfl ?_
    refine aw_aload_n dX7_readsText_179 rfl rfl ?_
    refine aw_getI dX7_readsText_180 fk_X7_79 pM_0 rfl ?_
    refine aw_icmp_ge (tgt := 198) dX7_readsText_183 (by decide) (fun hc => ?_) (fun hc => ?_)
    · replace h := ip hc h
      refine aw_iconst dX7_readsText_198 ⟨by decide, by decide⟩ ?_
      exact aw_less (ls' := [some (vR (some 0)), some (vI y1), some (vI y2), none, none]) (⟨rfl, ⟨rfl, ⟨rfl, trivial⟩⟩⟩) (t_X7_readsText_199 k25 hk25 y1 y2 (-1) s0 _ h)
    · replace h := ic hc h
      refine aw_aload_n dX7_readsText_186 rfl rfl ?_
      refine aw_getR (t := 1) dX7_readsText_187 fk_X7_7 pM_0 rfl ?_
      refine aw_iload_n dX7_readsText_190 rfl rfl ?_
      obtain ⟨hg1, h⟩ := gx_e h
      refine aw_iald dX7_readsText_191 aM_1 hg1 ?_
      refine aw_bipush dX7_readsText_192 ⟨by decide, by decide⟩ (by decide) ?_
      refine aw_isub dX7_readsText_194 ?_
      refine aw_goto (tgt := 199) dX7_readsText_195 (by decide) ?_
      exact aw_less (ls' := [some (vR (some 0)), some (vI y1), some (vI y2), none, none]) (⟨rfl, ⟨rfl, ⟨rfl, trivial⟩⟩⟩) (t_X7_readsText_199 k25 hk25 y1 y2 (wr ((s0 1 y2.toNat) - 48)) s0 _ h)
  · replace h := ic hc h
    exact aw_less (ls' := [some (vR (some 0)), some (vI y1), some (vI y2), none, none]) (⟨rfl, ⟨rfl, ⟨rfl, trivial⟩⟩⟩) (t_X7_readsText_228 k25 hk25 y1 y2 s0 _ h)
def g_X7_readsText_143 (k25 : Int → Int → SS → Option (Int × SS)) (x1 : Int) (x2 : Int) (x3 : Int) (z0 : Int) (z1 : Int) (s0 : SS) : Option (Int × SS) :=
  sb (up s0 0 5 (wr (z1 + z0))) fun s1 =>
  if x3 = 0 then (
    g_X7_readsText_168 k25 x2 x3 (-1) x1 s1
  ) else (
    bn (f_X7_isTwofold x3) fun y1 =>
    if y1 = 0 then (
      g_X7_readsText_168 k25 x2 x3 0 x1 s1
    ) else (
      g_X7_readsText_168 k25 x2 x3 1 x1 s1
    )
  )
set_option maxHeartbeats 4000000 in
theorem t_X7_readsText_143 (k25 : Int → Int → SS → Option (Int × SS)) (hk25 : ∀ (x1 : Int) (x2 : Int) (s0 : SS) (r : (Int × SS)), k25 x1 x2 s0 = some r → AW LM M_X7_readsText (some (vI r.1), r.2) 25 [some (vR (some 0)), some (vI x1), some (vI x2), none, none] [] s0) : ∀ (x1 : Int) (x2 : Int) (x3 : Int) (z0 : Int) (z1 : Int) (s0 : SS) (r : (Int × SS)), g_X7_readsText_143 k25 x1 x2 x3 z0 z1 s0 = some r → AW LM M_X7_readsText (some (vI r.1), r.2) 143 [some (vR (some 0)), some (vI x1), some (vI x2), some (vI x3), none] [vI z0, vI z1, vR (some 0)] s0 := by
  intro x1 x2 x3 z0 z1 s0 r h
  unfold g_X7_readsText_143 at h
  refine aw_iadd dX7_readsText_143 ?_
  refine aw_put dX7_readsText_144 fk_X7_96 pM_0 rfl ft_7_5 (nar_int _) (fun s1 e => ?_)
  replace h := sb_e h e
  clear e
  refine aw_iload_n dX7_readsText_147 rfl rfl ?_
  refine aw_iload_n dX7_readsText_148 rfl rfl ?_
  refine aw_if_ne (tgt := 156) dX7_readsText_149 (by decide) (fun hc => ?_) (fun hc => ?_)
  rotate_left
  · replace h := ip hc h
    refine aw_iconst dX7_readsText_152 ⟨by decide, by decide⟩ ?_
    refine aw_goto (tgt := 168) dX7_readsText_153 (by decide) ?_
    exact aw_less (ls' := [some (vR (some 0)), none, some (vI x2), some (vI x3), none]) (⟨rfl, ⟨rfl, ⟨rfl, trivial⟩⟩⟩) (t_X7_readsText_168 k25 hk25 x2 x3 (-1) x1 s1 _ h)
  · replace h := ic hc h
    refine aw_iload_n dX7_readsText_156 rfl rfl ?_
    obtain ⟨y1, hg1, h⟩ := bn_e h
    refine aw_S1i (M2 := M_X7_isTwofold) dX7_readsText_157 lk_X7_102 mk_X7_isTwofold ms_X7_isTwofold ⟨by decide, by decide⟩ (Nat.le_of_ble_eq_true rfl) (c_X7_isTwofold  hg1) ?_
    refine aw_if_eq (tgt := 167) dX7_readsText_160 (by decide) (fun hc => ?_) (fun hc => ?_)
    · replace h := ip hc h
      refine aw_iconst dX7_readsText_167 ⟨by decide, by decide⟩ ?_
      exact aw_less (ls' := [some (vR (some 0)), none, some (vI x2), some (vI x3), none]) (⟨rfl, ⟨rfl, ⟨rfl, trivial⟩⟩⟩) (t_X7_readsText_168 k25 hk25 x2 x3 0 x1 s1 _ h)
    · replace h := ic hc h
      refine aw_iconst dX7_readsText_163 ⟨by decide, by decide⟩ ?_
      refine aw_goto (tgt := 168) dX7_readsText_164 (by decide) ?_
      exact aw_less (ls' := [some (vR (some 0)), none, some (vI x2), some (vI x3), none]) (⟨rfl, ⟨rfl, ⟨rfl, trivial⟩⟩⟩) (t_X7_readsText_168 k25 hk25 x2 x3 1 x1 s1 _ h)
def g_X7_readsText_127 (k25 : Int → Int → SS → Option (Int × SS)) (x1 : Int) (x2 : Int) (x3 : Int) (z0 : Int) (z1 : Int) (s0 : SS) : Option (Int × SS) :=
  gx z1 40 <|
  sb (up s0 3 z1.toNat z0) fun s1 =>
  if x3 = 3 then (
    g_X7_readsText_143 k25 x1 x2 x3 1 (s1 0 5) s1
  ) else (
    g_X7_readsText_143 k25 x1 x2 x3 0 (s1 0 5) s1
  )
set_option maxHeartbeats 4000000 in
theorem t_X7_readsText_127 (k25 : Int → Int → SS → Option (Int × SS)) (hk25 : ∀ (x1 : Int) (x2 : Int) (s0 : SS) (r : (Int × SS)), k25 x1 x2 s0 = some r → AW LM M_X7_readsText (some (vI r.1), r.2) 25 [some (vR (some 0)), some (vI x1), some (vI x2), none, none] [] s0) : ∀ (x1 : Int) (x2 : Int) (x3 : Int) (z0 : Int) (z1 : Int) (s0 : SS) (r : (Int × SS)), g_X7_readsText_127 k25 x1 x2 x3 z0 z1 s0 = some r → AW LM M_X7_readsText (some (vI r.1), r.2) 127 [some (vR (some 0)), some (vI x1), some (vI x2), some (vI x3), none] [vI z0, vI z1, vR (some 3)] s0 := by
  intro x1 x2 x3 z0 z1 s0 r h
  unfold g_X7_readsText_127 at h
  obtain ⟨hg1, h⟩ := gx_e h
  refine aw_iast dX7_readsText_127 aM_3 hg1 (fun s1 e => ?_)
  replace h := sb_e h e
  clear e
  refine aw_aload_n dX7_readsText_128 rfl rfl ?_
  refine aw_dup dX7_readsText_129 rfl ?_
  refine aw_getI dX7_readsText_130 fk_X7_96 pM_0 rfl ?_
  refine aw_iload_n dX7_readsText_133 rfl rfl ?_
  refine aw_iconst dX7_readsText_134 ⟨by decide, by decide⟩ ?_
  refine aw_icmp_ne (tgt := 142) dX7_readsText_135 (by decide) (fun hc => ?_) (fun hc => ?_)
  rotate_left
  · replace h := ip hc h
    refine aw_iconst dX7_readsText_138 ⟨by decide, by decide⟩ ?_
    refine aw_goto (tgt := 143) dX7_readsText_139 (by decide) ?_
    exact (t_X7_readsText_143 k25 hk25 x1 x2 x3 1 (s1 0 5) s1 _ h)
  · replace h := ic hc h
    refine aw_iconst dX7_readsText_142 ⟨by decide, by decide⟩ ?_
    exact (t_X7_readsText_143 k25 hk25 x1 x2 x3 0 (s1 0 5) s1 _ h)
def g_X7_readsText_68 (k25 : Int → Int → SS → Option (Int × SS)) (x1 : Int) (x2 : Int) (x3 : Int) (s0 : SS) : Option (Int × SS) :=
  gx (s0 0 4) 40 <|
  sb (up s0 2 (s0 0 4).toNat x3) fun s1 =>
  gx (s1 0 4) 40 <|
  sb (up s1 4 (s1 0 4).toNat x2) fun s2 =>
  if x3 = 0 then (
    gx x2 40 <|
    g_X7_readsText_127 k25 x1 x2 x3 (wr ((wr ((s2 1 x2.toNat) - 97)) + 1)) (s2 0 4) s2
  ) else (
    if x3 = 3 then (
      g_X7_readsText_127 k25 x1 x2 x3 (s2 0 5) (s2 0 4) s2
    ) else (
      g_X7_readsText_127 k25 x1 x2 x3 0 (s2 0 4) s2
    )
  )
set_option maxHeartbeats 4000000 in
theorem t_X7_readsText_68 (k25 : Int → Int → SS → Option (Int × SS)) (hk25 : ∀ (x1 : Int) (x2 : Int) (s0 : SS) (r : (Int × SS)), k25 x1 x2 s0 = some r → AW LM M_X7_readsText (some (vI r.1), r.2) 25 [some (vR (some 0)), some (vI x1), some (vI x2), none, none] [] s0) : ∀ (x1 : Int) (x2 : Int) (x3 : Int) (s0 : SS) (r : (Int × SS)), g_X7_readsText_68 k25 x1 x2 x3 s0 = some r → AW LM M_X7_readsText (some (vI r.1), r.2) 68 [some (vR (some 0)), some (vI x1), some (vI x2), some (vI x3), none] [] s0 := by
  intro x1 x2 x3 s0 r h
  unfold g_X7_readsText_68 at h
  refine aw_aload_n dX7_readsText_68 rfl rfl ?_
  refine aw_getR (t := 2) dX7_readsText_69 fk_X7_17 pM_0 rfl ?_
  refine aw_aload_n dX7_readsText_72 rfl rfl ?_
  refine aw_getI dX7_readsText_73 fk_X7_93 pM_0 rfl ?_
  refine aw_iload_n dX7_readsText_76 rfl rfl ?_
  obtain ⟨hg1, h⟩ := gx_e h
  refine aw_iast dX7_readsText_77 aM_2 hg1 (fun s1 e => ?_)
  replace h := sb_e h e
  clear e
  refine aw_aload_n dX7_readsText_78 rfl rfl ?_
  refine aw_getR (t := 4) dX7_readsText_79 fk_X7_23 pM_0 rfl ?_
  refine aw_aload_n dX7_readsText_82 rfl rfl ?_
  refine aw_getI dX7_readsText_83 fk_X7_93 pM_0 rfl ?_
  refine aw_iload_n dX7_readsText_86 rfl rfl ?_
  obtain ⟨hg2, h⟩ := gx_e h
  refine aw_iast dX7_readsText_87 aM_4 hg2 (fun s2 e => ?_)
  replace h := sb_e h e
  clear e
  refine aw_aload_n dX7_readsText_88 rfl rfl ?_
  refine aw_getR (t := 3) dX7_readsText_89 fk_X7_20 pM_0 rfl ?_
  refine aw_aload_n dX7_readsText_92 rfl rfl ?_
  refine aw_getI dX7_readsText_93 fk_X7_93 pM_0 rfl ?_
  refine aw_iload_n dX7_readsText_96 rfl rfl ?_
  refine aw_if_ne (tgt := 114) dX7_readsText_97 (by decide) (fun hc => ?_) (fun hc => ?_)
  rotate_left
  · replace h := ip hc h
    refine aw_aload_n dX7_readsText_100 rfl rfl ?_
    refine aw_getR (t := 1) dX7_readsText_101 fk_X7_7 pM_0 rfl ?_
    refine aw_iload_n dX7_readsText_104 rfl rfl ?_
    obtain ⟨hg3, h⟩ := gx_e h
    refine aw_iald dX7_readsText_105 aM_1 hg3 ?_
    refine aw_bipush dX7_readsText_106 ⟨by decide, by decide⟩ (by decide) ?_
    refine aw_isub dX7_readsText_108 ?_
    refine aw_iconst dX7_readsText_109 ⟨by decide, by decide⟩ ?_
    refine aw_iadd dX7_readsText_110 ?_
    refine aw_goto (tgt := 127) dX7_readsText_111 (by decide) ?_
    exact (t_X7_readsText_127 k25 hk25 x1 x2 x3 (wr ((wr ((s2 1 x2.toNat) - 97)) + 1)) (s2 0 4) s2 _ h)
  · replace h := ic hc h
    refine aw_iload_n dX7_readsText_114 rfl rfl ?_
    refine aw_iconst dX7_readsText_115 ⟨by decide, by decide⟩ ?_
    refine aw_icmp_ne (tgt := 126) dX7_readsText_116 (by decide) (fun hc => ?_) (fun hc => ?_)
    rotate_left
    · replace h := ip hc h
      refine aw_aload_n dX7_readsText_119 rfl rfl ?_
      refine aw_getI dX7_readsText_120 fk_X7_96 pM_0 rfl ?_
      refine aw_goto (tgt := 127) dX7_readsText_123 (by decide) ?_
      exact (t_X7_readsText_127 k25 hk25 x1 x2 x3 (s2 0 5) (s2 0 4) s2 _ h)
    · replace h := ic hc h
      refine aw_iconst dX7_readsText_126 ⟨by decide, by decide⟩ ?_
      exact (t_X7_readsText_127 k25 hk25 x1 x2 x3 0 (s2 0 4) s2 _ h)
def g_X7_readsText_25 (k25 : Int → Int → SS → Option (Int × SS)) (x1 : Int) (x2 : Int) (s0 : SS) : Option (Int × SS) :=
  if (s0 0 0) ≤ x2 then (
    g_X7_readsText_241  x1 s0
  ) else (
    gx x2 40 <|
    bn (f_X7_kindOf (s0 1 x2.toNat)) fun y1 =>
    if x1 = 0 then (
      g_X7_readsText_66  x2 s0
    ) else (
      if y1 = (-1) then (
        g_X7_readsText_66  x2 s0
      ) else (
        if y1 = 3 then (
          if (s0 0 5) = 6 then (
            g_X7_readsText_66  x2 s0
          ) else (
            g_X7_readsText_68 k25 x1 x2 y1 s0
          )
        ) else (
          g_X7_readsText_68 k25 x1 x2 y1 s0
        )
      )
    )
  )
set_option maxHeartbeats 4000000 in
theorem t_X7_readsText_25 (k25 : Int → Int → SS → Option (Int × SS)) (hk25 : ∀ (x1 : Int) (x2 : Int) (s0 : SS) (r : (Int × SS)), k25 x1 x2 s0 = some r → AW LM M_X7_readsText (some (vI r.1), r.2) 25 [some (vR (some 0)), some (vI x1), some (vI x2), none, none] [] s0) : ∀ (x1 : Int) (x2 : Int) (s0 : SS) (r : (Int × SS)), g_X7_readsText_25 k25 x1 x2 s0 = some r → AW LM M_X7_readsText (some (vI r.1), r.2) 25 [some (vR (some 0)), some (vI x1), some (vI x2), none, none] [] s0 := by
  intro x1 x2 s0 r h
  unfold g_X7_readsText_25 at h
  refine aw_iload_n dX7_readsText_25 rfl rfl ?_
  refine aw_aload_n dX7_readsText_26 rfl rfl ?_
  refine aw_getI dX7_readsText_27 fk_X7_79 pM_0 rfl ?_
  refine aw_icmp_ge (tgt := 241) dX7_readsText_30 (by decide) (fun hc => ?_) (fun hc => ?_)
  · replace h := ip hc h
    exact aw_less (ls' := [some (vR (some 0)), some (vI x1), none, none, none]) (⟨rfl, ⟨rfl, trivial⟩⟩) (t_X7_readsText_241   x1 s0 _ h)
  · replace h := ic hc h
    refine aw_aload_n dX7_readsText_33 rfl rfl ?_
    refine aw_getR (t := 1) dX7_readsText_34 fk_X7_7 pM_0 rfl ?_
    refine aw_iload_n dX7_readsText_37 rfl rfl ?_
    obtain ⟨hg1, h⟩ := gx_e h
    refine aw_iald dX7_readsText_38 aM_1 hg1 ?_
    obtain ⟨y1, hg2, h⟩ := bn_e h
    refine aw_S1i (M2 := M_X7_kindOf) dX7_readsText_39 lk_X7_99 mk_X7_kindOf ms_X7_kindOf ⟨by decide, by decide⟩ (Nat.le_of_ble_eq_true rfl) (c_X7_kindOf  hg2) ?_
    refine aw_istore_nA dX7_readsText_42 rfl (by decide) rfl ?_
    show AW _ _ _ 43 [some (vR (some 0)), some (vI x1), some (vI x2), some (vI y1), none] _ _
    refine aw_iload_n dX7_readsText_43 rfl rfl ?_
    refine aw_if_eq (tgt := 66) dX7_readsText_44 (by decide) (fun hc => ?_) (fun hc => ?_)
    · replace h := ip hc h
      exact aw_less (ls' := [none, none, some (vI x2), none, none]) (⟨rfl, trivial⟩) (t_X7_readsText_66   x2 s0 _ h)
    · replace h := ic hc h
      refine aw_iload_n dX7_readsText_47 rfl rfl ?_
      refine aw_iconst dX7_readsText_48 ⟨by decide, by decide⟩ ?_
      refine aw_icmp_eq (tgt := 66) dX7_readsText_49 (by decide) (fun hc => ?_) (fun hc => ?_)
      · replace h := ip hc h
        exact aw_less (ls' := [none, none, some (vI x2), none, none]) (⟨rfl, trivial⟩) (t_X7_readsText_66   x2 s0 _ h)
      · replace h := ic hc h
        refine aw_iload_n dX7_readsText_52 rfl rfl ?_
        refine aw_iconst dX7_readsText_53 ⟨by decide, by decide⟩ ?_
        refine aw_icmp_ne (tgt := 68) dX7_readsText_54 (by decide) (fun hc => ?_) (fun hc => ?_)
        rotate_left
        · replace h := ip hc h
          refine aw_aload_n dX7_readsText_57 rfl rfl ?_
          refine aw_getI dX7_readsText_58 fk_X7_96 pM_0 rfl ?_
          refine aw_bipush dX7_readsText_61 ⟨by decide, by decide⟩ (by decide) ?_
          refine aw_icmp_ne (tgt := 68) dX7_readsText_63 (by decide) (fun hc => ?_) (fun hc => ?_)
          rotate_left
          · replace h := ip hc h
            exact aw_less (ls' := [none, none, some (vI x2), none, none]) (⟨rfl, trivial⟩) (t_X7_readsText_66   x2 s0 _ h)
          · replace h := ic hc h
            exact (t_X7_readsText_68 k25 hk25 x1 x2 y1 s0 _ h)
        · replace h := ic hc h
          exact (t_X7_readsText_68 k25 hk25 x1 x2 y1 s0 _ h)
def f_X7_readsText_25 : Nat → Int → Int → SS → Option (Int × SS)
  | 0 => fun _ _ _ => none
  | n + 1 => g_X7_readsText_25 (f_X7_readsText_25  n)
theorem s_X7_readsText_25  : ∀ (n : Nat), ∀ (x1 : Int) (x2 : Int) (s0 : SS) (r : (Int × SS)), f_X7_readsText_25 n x1 x2 s0 = some r → AW LM M_X7_readsText (some (vI r.1), r.2) 25 [some (vR (some 0)), some (vI x1), some (vI x2), none, none] [] s0 := by
  intro n
  induction n with
  | zero =>
    intro x1 x2 s0 r h
    cases h
  | succ n ih =>
    intro x1 x2 s0 r h
    exact t_X7_readsText_25 (f_X7_readsText_25  n) ih x1 x2 s0 r h
def g_X7_readsText_22 (z0 : Int) (s0 : SS) : Option (Int × SS) :=
  f_X7_readsText_25  FU z0 0 s0
set_option maxHeartbeats 4000000 in
theorem t_X7_readsText_22  : ∀ (z0 : Int) (s0 : SS) (r : (Int × SS)), g_X7_readsText_22 z0 s0 = some r → AW LM M_X7_readsText (some (vI r.1), r.2) 22 [some (vR (some 0)), none, none, none, none] [vI z0] s0 := by
  intro z0 s0 r h
  unfold g_X7_readsText_22 at h
  refine aw_istore_nA dX7_readsText_22 rfl (by decide) rfl ?_
  show AW _ _ _ 23 [some (vR (some 0)), some (vI z0), none, none, none] _ _
  refine aw_iconst dX7_readsText_23 ⟨by decide, by decide⟩ ?_
  refine aw_istore_nA dX7_readsText_24 rfl (by decide) rfl ?_
  show AW _ _ _ 25 [some (vR (some 0)), some (vI z0), some (vI 0), none, none] _ _
  exact (s_X7_readsText_25   FU z0 0 s0 _ h)
def f_X7_readsText  (s0 : SS) : Option (Int × SS) :=
  sb (up s0 0 4 0) fun s1 =>
  sb (up s1 0 5 0) fun s2 =>
  if (s2 0 0) ≤ 0 then (
    g_X7_readsText_22  0 s2
  ) else (
    g_X7_readsText_22  1 s2
  )
set_option maxHeartbeats 4000000 in
theorem t_X7_readsText_0  : ∀ (s0 : SS) (r : (Int × SS)), f_X7_readsText s0 = some r → AW LM M_X7_readsText (some (vI r.1), r.2) 0 [some (vR (some 0)), none, none, none, none] [] s0 := by
  intro s0 r h
  unfold f_X7_readsText at h
  refine aw_aload_n dX7_readsText_0 rfl rfl ?_
  refine aw_iconst dX7_readsText_1 ⟨by decide, by decide⟩ ?_
  refine aw_put dX7_readsText_2 fk_X7_93 pM_0 rfl ft_7_4 (nar_int _) (fun s1 e => ?_)
  replace h := sb_e h e
  clear e
  refine aw_aload_n dX7_readsText_5 rfl rfl ?_
  refine aw_iconst dX7_readsText_6 ⟨by decide, by decide⟩ ?_
  refine aw_put dX7_readsText_7 fk_X7_96 pM_0 rfl ft_7_5 (nar_int _) (fun s2 e => ?_)
  replace h := sb_e h e
  clear e
  refine aw_aload_n dX7_readsText_10 rfl rfl ?_
  refine aw_getI dX7_readsText_11 fk_X7_79 pM_0 rfl ?_
  refine aw_if_le (tgt := 21) dX7_readsText_14 (by decide) (fun hc => ?_) (fun hc => ?_)
  · replace h := ip hc h
    refine aw_iconst dX7_readsText_21 ⟨by decide, by decide⟩ ?_
    exact (t_X7_readsText_22   0 s2 _ h)
  · replace h := ic hc h
    refine aw_iconst dX7_readsText_17 ⟨by decide, by decide⟩ ?_
    refine aw_goto (tgt := 22) dX7_readsText_18 (by decide) ?_
    exact (t_X7_readsText_22   1 s2 _ h)
theorem c_X7_readsText {s0 : SS} {y : Int} {s1 : SS} (h : f_X7_readsText s0 = some (y, s1)) : CT LM M_X7_readsText [vR (some 0)] s0 (some (vI y), s1) :=
  ct_of (n := 4) (by decide) (Nat.le_of_ble_eq_true rfl) (t_X7_readsText_0  s0  _ h)
def g_X7_reads_202  (s0 : SS) : Option SS :=
  gx 0 40 <|
  sb (up s0 8 (0 : Int).toNat (-1)) fun s1 =>
  some s1
set_option maxHeartbeats 4000000 in
theorem t_X7_reads_202  : ∀ (s0 : SS) (r : SS), g_X7_reads_202 s0 = some r → AW LM M_X7_reads (none, r) 202 [some (vR (some 0)), none, none, none] [] s0 := by
  intro s0 r h
  unfold g_X7_reads_202 at h
  refine aw_aload_n dX7_reads_202 rfl rfl ?_
  refine aw_getR (t := 8) dX7_reads_203 fk_X7_35 pM_0 rfl ?_
  refine aw_iconst dX7_reads_206 ⟨by decide, by decide⟩ ?_
  refine aw_iconst dX7_reads_207 ⟨by decide, by decide⟩ ?_
  obtain ⟨hg1, h⟩ := gx_e h
  refine aw_iast dX7_reads_208 aM_8 hg1 (fun s1 e => ?_)
  replace h := sb_e h e
  clear e
  obtain rfl := Option.some.inj h
  exact aw_vret dX7_reads_209 rfl
def g_X7_reads_196 (k55 : Int → SS → Option SS) (x1 : Int) (s0 : SS) : Option SS :=
  sb (wr (x1 + (-1))) fun y1 =>
  k55 y1 s0
set_option maxHeartbeats 4000000 in
theorem t_X7_reads_196 (k55 : Int → SS → Option SS) (hk55 : ∀ (x1 : Int) (s0 : SS) (r : SS), k55 x1 s0 = some r → AW LM M_X7_reads (none, r) 55 [some (vR (some 0)), some (vI x1), none, none] [] s0) : ∀ (x1 : Int) (s0 : SS) (r : SS), g_X7_reads_196 k55 x1 s0 = some r → AW LM M_X7_reads (none, r) 196 [some (vR (some 0)), some (vI x1), none, none] [] s0 := by
  intro x1 s0 r h
  unfold g_X7_reads_196 at h
  refine aw_iinc dX7_reads_196 rfl (by decide) rfl (fun y1 e => ?_)
  replace h := sb_e h e
  clear e
  show AW _ _ _ 199 [some (vR (some 0)), some (vI y1), none, none] _ _
  refine aw_goto (tgt := 55) dX7_reads_199 (by decide) ?_
  exact (hk55 y1 s0 _ h)
def g_X7_reads_136 (k55 : Int → SS → Option SS) (x1 : Int) (x2 : Int) (s0 : SS) : Option SS :=
  bn (f_X7_isTwofold x2) fun y1 =>
  if y1 = 0 then (
    g_X7_reads_196 k55 x1 s0
  ) else (
    gx x1 40 <|
    sb (wr (x1 + (s0 6 x1.toNat))) fun y2 =>
    gx x1 40 <|
    sb (up s0 7 x1.toNat y2) fun s1 =>
    gx y2 40 <|
    sb (up s1 8 y2.toNat x1) fun s2 =>
    gx x1 40 <|
    gx y2 40 <|
    gx x1 40 <|
    sb (up s2 5 x1.toNat (wr ((s2 5 x1.toNat) + (s2 5 y2.toNat)))) fun s3 =>
    gx x1 40 <|
    gx y2 40 <|
    gx x1 40 <|
    sb (up s3 6 x1.toNat (wr ((s3 6 x1.toNat) + (s3 6 y2.toNat)))) fun s4 =>
    g_X7_reads_196 k55 x1 s4
  )
set_option maxHeartbeats 4000000 in
theorem t_X7_reads_136 (k55 : Int → SS → Option SS) (hk55 : ∀ (x1 : Int) (s0 : SS) (r : SS), k55 x1 s0 = some r → AW LM M_X7_reads (none, r) 55 [some (vR (some 0)), some (vI x1), none, none] [] s0) : ∀ (x1 : Int) (x2 : Int) (s0 : SS) (r : SS), g_X7_reads_136 k55 x1 x2 s0 = some r → AW LM M_X7_reads (none, r) 136 [some (vR (some 0)), some (vI x1), some (vI x2), none] [] s0 := by
  intro x1 x2 s0 r h
  unfold g_X7_reads_136 at h
  refine aw_iload_n dX7_reads_136 rfl rfl ?_
  obtain ⟨y1, hg1, h⟩ := bn_e h
  refine aw_S1i (M2 := M_X7_isTwofold) dX7_reads_137 lk_X7_102 mk_X7_isTwofold ms_X7_isTwofold ⟨by decide, by decide⟩ (Nat.le_of_ble_eq_true rfl) (c_X7_isTwofold  hg1) ?_
  refine aw_if_eq (tgt := 196) dX7_reads_140 (by decide) (fun hc => ?_) (fun hc => ?_)
  · replace h := ip hc h
    exact aw_less (ls' := [some (vR (some 0)), some (vI x1), none, none]) (⟨rfl, ⟨rfl, trivial⟩⟩) (t_X7_reads_196 k55 hk55 x1 s0 _ h)
  · replace h := ic hc h
    refine aw_iload_n dX7_reads_143 rfl rfl ?_
    refine aw_aload_n dX7_reads_144 rfl rfl ?_
    refine aw_getR (t := 6) dX7_reads_145 fk_X7_29 pM_0 rfl ?_
    refine aw_iload_n dX7_reads_148 rfl rfl ?_
    obtain ⟨hg2, h⟩ := gx_e h
    refine aw_iald dX7_reads_149 aM_6 hg2 ?_
    refine aw_iadd dX7_reads_150 ?_
    refine aw_istore_n dX7_reads_151 rfl (by decide) rfl (fun y2 e => ?_)
    replace h := sb_e h e
    clear e
    show AW _ _ _ 152 [some (vR (some 0)), some (vI x1), some (vI x2), some (vI y2)] _ _
    refine aw_aload_n dX7_reads_152 rfl rfl ?_
    refine aw_getR (t := 7) dX7_reads_153 fk_X7_32 pM_0 rfl ?_
    refine aw_iload_n dX7_reads_156 rfl rfl ?_
    refine aw_iload_n dX7_reads_157 rfl rfl ?_
    obtain ⟨hg3, h⟩ := gx_e h
    refine aw_iast dX7_reads_158 aM_7 hg3 (fun s1 e => ?_)
    replace h := sb_e h e
    clear e
    refine aw_aload_n dX7_reads_159 rfl rfl ?_
    refine aw_getR (t := 8) dX7_reads_160 fk_X7_35 pM_0 rfl ?_
    refine aw_iload_n dX7_reads_163 rfl rfl ?_
    refine aw_iload_n dX7_reads_164 rfl rfl ?_
    obtain ⟨hg4, h⟩ := gx_e h
    refine aw_iast dX7_reads_165 aM_8 hg4 (fun s2 e => ?_)
    replace h := sb_e h e
    clear e
    refine aw_aload_n dX7_reads_166 rfl rfl ?_
    refine aw_getR (t := 5) dX7_reads_167 fk_X7_26 pM_0 rfl ?_
    refine aw_iload_n dX7_reads_170 rfl rfl ?_
    refine aw_dup2 dX7_reads_171 rfl rfl ?_
    obtain ⟨hg5, h⟩ := gx_e h
    refine aw_iald dX7_reads_172 aM_5 hg5 ?_
    refine aw_aload_n dX7_reads_173 rfl rfl ?_
    refine aw_getR (t := 5) dX7_reads_174 fk_X7_26 pM_0 rfl ?_
    refine aw_iload_n dX7_reads_177 rfl rfl ?_
    obtain ⟨hg6, h⟩ := gx_e h
    refine aw_iald dX7_reads_178 aM_5 hg6 ?_
    refine aw_iadd dX7_reads_179 ?_
    obtain ⟨hg7, h⟩ := gx_e h
    refine aw_iast dX7_reads_180 aM_5 hg7 (fun s3 e => ?_)
    replace h := sb_e h e
    clear e
    refine aw_aload_n dX7_reads_181 rfl rfl ?_
    refine aw_getR (t := 6) dX7_reads_182 fk_X7_29 pM_0 rfl ?_
    refine aw_iload_n dX7_reads_185 rfl rfl ?_
    refine aw_dup2 dX7_reads_186 rfl rfl ?_
    obtain ⟨hg8, h⟩ := gx_e h
    refine aw_iald dX7_reads_187 aM_6 hg8 ?_
    refine aw_aload_n dX7_reads_188 rfl rfl ?_
    refine aw_getR (t := 6) dX7_reads_189 fk_X7_29 pM_0 rfl ?_
    refine aw_iload_n dX7_reads_192 rfl rfl ?_
    obtain ⟨hg9, h⟩ := gx_e h
    refine aw_iald dX7_reads_193 aM_6 hg9 ?_
    refine aw_iadd dX7_reads_194 ?_
    obtain ⟨hg10, h⟩ := gx_e h
    refine aw_iast dX7_reads_195 aM_6 hg10 (fun s4 e => ?_)
    replace h := sb_e h e
    clear e
    exact aw_less (ls' := [some (vR (some 0)), some (vI x1), none, none]) (⟨rfl, ⟨rfl, trivial⟩⟩) (t_X7_reads_196 k55 hk55 x1 s4 _ h)
def g_X7_reads_81 (k55 : Int → SS → Option SS) (x1 : Int) (x2 : Int) (z0 : Int) (z1 : Int) (s0 : SS) : Option SS :=
  gx z1 40 <|
  sb (up s0 5 z1.toNat z0) fun s1 =>
  gx x1 40 <|
  sb (up s1 6 x1.toNat 1) fun s2 =>
  if x2 = 0 then (
    g_X7_reads_136 k55 x1 x2 s2
  ) else (
    gx (wr (x1 + 1)) 40 <|
    sb (up s2 8 (wr (x1 + 1)).toNat x1) fun s3 =>
    gx x1 40 <|
    gx (wr (x1 + 1)) 40 <|
    gx x1 40 <|
    sb (up s3 5 x1.toNat (wr ((s3 5 x1.toNat) + (s3 5 (wr (x1 + 1)).toNat)))) fun s4 =>
    gx x1 40 <|
    gx (wr (x1 + 1)) 40 <|
    gx x1 40 <|
    sb (up s4 6 x1.toNat (wr ((s4 6 x1.toNat) + (s4 6 (wr (x1 + 1)).toNat)))) fun s5 =>
    g_X7_reads_136 k55 x1 x2 s5
  )
set_option maxHeartbeats 4000000 in
theorem t_X7_reads_81 (k55 : Int → SS → Option SS) (hk55 : ∀ (x1 : Int) (s0 : SS) (r : SS), k55 x1 s0 = some r → AW LM M_X7_reads (none, r) 55 [some (vR (some 0)), some (vI x1), none, none] [] s0) : ∀ (x1 : Int) (x2 : Int) (z0 : Int) (z1 : Int) (s0 : SS) (r : SS), g_X7_reads_81 k55 x1 x2 z0 z1 s0 = some r → AW LM M_X7_reads (none, r) 81 [some (vR (some 0)), some (vI x1), some (vI x2), none] [vI z0, vI z1, vR (some 5)] s0 := by
  intro x1 x2 z0 z1 s0 r h
  unfold g_X7_reads_81 at h
  obtain ⟨hg1, h⟩ := gx_e h
  refine aw_iast dX7_reads_81 aM_5 hg1 (fun s1 e => ?_)
  replace h := sb_e h e
  clear e
  refine aw_aload_n dX7_reads_82 rfl rfl ?_
  refine aw_getR (t := 6) dX7_reads_83 fk_X7_29 pM_0 rfl ?_
  refine aw_iload_n dX7_reads_86 rfl rfl ?_
  refine aw_iconst dX7_reads_87 ⟨by decide, by decide⟩ ?_
  obtain ⟨hg2, h⟩ := gx_e h
  refine aw_iast dX7_reads_88 aM_6 hg2 (fun s2 e => ?_)
  replace h := sb_e h e
  clear e
  refine aw_iload_n dX7_reads_89 rfl rfl ?_
  refine aw_if_eq (tgt := 136) dX7_reads_90 (by decide) (fun hc => ?_) (fun hc => ?_)
  · replace h := ip hc h
    exact (t_X7_reads_136 k55 hk55 x1 x2 s2 _ h)
  · replace h := ic hc h
    refine aw_aload_n dX7_reads_93 rfl rfl ?_
    refine aw_getR (t := 8) dX7_reads_94 fk_X7_35 pM_0 rfl ?_
    refine aw_iload_n dX7_reads_97 rfl rfl ?_
    refine aw_iconst dX7_reads_98 ⟨by decide, by decide⟩ ?_
    refine aw_iadd dX7_reads_99 ?_
    refine aw_iload_n dX7_reads_100 rfl rfl ?_
    obtain ⟨hg3, h⟩ := gx_e h
    refine aw_iast dX7_reads_101 aM_8 hg3 (fun s3 e => ?_)
    replace h := sb_e h e
    clear e
    refine aw_aload_n dX7_reads_102 rfl rfl ?_
    refine aw_getR (t := 5) dX7_reads_103 fk_X7_26 pM_0 rfl ?_
    refine aw_iload_n dX7_reads_106 rfl rfl ?_
    refine aw_dup2 dX7_reads_107 rfl rfl ?_
    obtain ⟨hg4, h⟩ := gx_e h
    refine aw_iald dX7_reads_108 aM_5 hg4 ?_
    refine aw_aload_n dX7_reads_109 rfl rfl ?_
    refine aw_getR (t := 5) dX7_reads_110 fk_X7_26 pM_0 rfl ?_
    refine aw_iload_n dX7_reads_113 rfl rfl ?_
    refine aw_iconst dX7_reads_114 ⟨by decide, by decide⟩ ?_
    refine aw_iadd dX7_reads_115 ?_
    obtain ⟨hg5, h⟩ := gx_e h
    refine aw_iald dX7_reads_116 aM_5 hg5 ?_
    refine aw_iadd dX7_reads_117 ?_
    obtain ⟨hg6, h⟩ := gx_e h
    refine aw_iast dX7_reads_118 aM_5 hg6 (fun s4 e => ?_)
    replace h := sb_e h e
    clear e
    refine aw_aload_n dX7_reads_119 rfl rfl ?_
    refine aw_getR (t := 6) dX7_reads_120 fk_X7_29 pM_0 rfl ?_
    refine aw_iload_n dX7_reads_123 rfl rfl ?_
    refine aw_dup2 dX7_reads_124 rfl rfl ?_
    obtain ⟨hg7, h⟩ := gx_e h
    refine aw_iald dX7_reads_125 aM_6 hg7 ?_
    refine aw_aload_n dX7_reads_126 rfl rfl ?_
    refine aw_getR (t := 6) dX7_reads_127 fk_X7_29 pM_0 rfl ?_
    refine aw_iload_n dX7_reads_130 rfl rfl ?_
    refine aw_iconst dX7_reads_131 ⟨by decide, by decide⟩ ?_
    refine aw_iadd dX7_reads_132 ?_
    obtain ⟨hg8, h⟩ := gx_e h
    refine aw_iald dX7_reads_133 aM_6 hg8 ?_
    refine aw_iadd dX7_reads_134 ?_
    obtain ⟨hg9, h⟩ := gx_e h
    refine aw_iast dX7_reads_135 aM_6 hg9 (fun s5 e => ?_)
    replace h := sb_e h e
    clear e
    exact (t_X7_reads_136 k55 hk55 x1 x2 s5 _ h)
def g_X7_reads_55 (k55 : Int → SS → Option SS) (x1 : Int) (s0 : SS) : Option SS :=
  if x1 < 0 then (
    g_X7_reads_202  s0
  ) else (
    gx x1 40 <|
    sb (s0 2 x1.toNat) fun y1 =>
    if y1 = 4 then (
      g_X7_reads_81 k55 x1 y1 2 x1 s0
    ) else (
      g_X7_reads_81 k55 x1 y1 1 x1 s0
    )
  )
set_option maxHeartbeats 4000000 in
theorem t_X7_reads_55 (k55 : Int → SS → Option SS) (hk55 : ∀ (x1 : Int) (s0 : SS) (r : SS), k55 x1 s0 = some r → AW LM M_X7_reads (none, r) 55 [some (vR (some 0)), some (vI x1), none, none] [] s0) : ∀ (x1 : Int) (s0 : SS) (r : SS), g_X7_reads_55 k55 x1 s0 = some r → AW LM M_X7_reads (none, r) 55 [some (vR (some 0)), some (vI x1), none, none] [] s0 := by
  intro x1 s0 r h
  unfold g_X7_reads_55 at h
  refine aw_iload_n dX7_reads_55 rfl rfl ?_
  refine aw_if_lt (tgt := 202) dX7_reads_56 (by decide) (fun hc => ?_) (fun hc => ?_)
  · replace h := ip hc h
    exact aw_less (ls' := [some (vR (some 0)), none, none, none]) (⟨rfl, trivial⟩) (t_X7_reads_202   s0 _ h)
  · replace h := ic hc h
    refine aw_aload_n dX7_reads_59 rfl rfl ?_
    refine aw_getR (t := 2) dX7_reads_60 fk_X7_17 pM_0 rfl ?_
    refine aw_iload_n dX7_reads_63 rfl rfl ?_
    obtain ⟨hg1, h⟩ := gx_e h
    refine aw_iald dX7_reads_64 aM_2 hg1 ?_
    refine aw_istore_n dX7_reads_65 rfl (by decide) rfl (fun y1 e => ?_)
    replace h := sb_e h e
    clear e
    show AW _ _ _ 66 [some (vR (some 0)), some (vI x1), some (vI y1), none] _ _
    refine aw_aload_n dX7_reads_66 rfl rfl ?_
    refine aw_getR (t := 5) dX7_reads_67 fk_X7_26 pM_0 rfl ?_
    refine aw_iload_n dX7_reads_70 rfl rfl ?_
    refine aw_iload_n dX7_reads_71 rfl rfl ?_
    refine aw_iconst dX7_reads_72 ⟨by decide, by decide⟩ ?_
    refine aw_icmp_ne (tgt := 80) dX7_reads_73 (by decide) (fun hc => ?_) (fun hc => ?_)
    rotate_left
    · replace h := ip hc h
      refine aw_iconst dX7_reads_76 ⟨by decide, by decide⟩ ?_
      refine aw_goto (tgt := 81) dX7_reads_77 (by decide) ?_
      exact (t_X7_reads_81 k55 hk55 x1 y1 2 x1 s0 _ h)
    · replace h := ic hc h
      refine aw_iconst dX7_reads_80 ⟨by decide, by decide⟩ ?_
      exact (t_X7_reads_81 k55 hk55 x1 y1 1 x1 s0 _ h)
def f_X7_reads_55 : Nat → Int → SS → Option SS
  | 0 => fun _ _ => none
  | n + 1 => g_X7_reads_55 (f_X7_reads_55  n)
theorem s_X7_reads_55  : ∀ (n : Nat), ∀ (x1 : Int) (s0 : SS) (r : SS), f_X7_reads_55 n x1 s0 = some r → AW LM M_X7_reads (none, r) 55 [some (vR (some 0)), some (vI x1), none, none] [] s0 := by
  intro n
  induction n with
  | zero =>
    intro x1 s0 r h
    cases h
  | succ n ih =>
    intro x1 s0 r h
    exact t_X7_reads_55 (f_X7_reads_55  n) ih x1 s0 r h
def g_X7_reads_45 (z0 : Int) (s0 : SS) : Option SS :=
  sb (up s0 0 5 z0) fun s1 =>
  sb (wr ((s1 0 4) - 1)) fun y1 =>
  f_X7_reads_55  FU y1 s1
set_option maxHeartbeats 4000000 in
theorem t_X7_reads_45  : ∀ (z0 : Int) (s0 : SS) (r : SS), g_X7_reads_45 z0 s0 = some r → AW LM M_X7_reads (none, r) 45 [some (vR (some 0)), none, none, none] [vI z0, vR (some 0)] s0 := by
  intro z0 s0 r h
  unfold g_X7_reads_45 at h
  refine aw_put dX7_reads_45 fk_X7_96 pM_0 rfl ft_7_5 (nar_int _) (fun s1 e => ?_)
  replace h := sb_e h e
  clear e
  refine aw_aload_n dX7_reads_48 rfl rfl ?_
  refine aw_getI dX7_reads_49 fk_X7_93 pM_0 rfl ?_
  refine aw_iconst dX7_reads_52 ⟨by decide, by decide⟩ ?_
  refine aw_isub dX7_reads_53 ?_
  refine aw_istore_n dX7_reads_54 rfl (by decide) rfl (fun y1 e => ?_)
  replace h := sb_e h e
  clear e
  show AW _ _ _ 55 [some (vR (some 0)), some (vI y1), none, none] _ _
  exact (s_X7_reads_55   FU y1 s1 _ h)
def g_X7_reads_25 (z0 : Int) (s0 : SS) : Option SS :=
  sb (up s0 0 4 z0) fun s1 =>
  if (s1 0 3) = (-1) then (
    g_X7_reads_45  (s1 0 5) s1
  ) else (
    g_X7_reads_45  0 s1
  )
set_option maxHeartbeats 4000000 in
theorem t_X7_reads_25  : ∀ (z0 : Int) (s0 : SS) (r : SS), g_X7_reads_25 z0 s0 = some r → AW LM M_X7_reads (none, r) 25 [some (vR (some 0)), none, none, none] [vI z0, vR (some 0)] s0 := by
  intro z0 s0 r h
  unfold g_X7_reads_25 at h
  refine aw_put dX7_reads_25 fk_X7_93 pM_0 rfl ft_7_4 (nar_int _) (fun s1 e => ?_)
  replace h := sb_e h e
  clear e
  refine aw_aload_n dX7_reads_28 rfl rfl ?_
  refine aw_aload_n dX7_reads_29 rfl rfl ?_
  refine aw_getI dX7_reads_30 fk_X7_109 pM_0 rfl ?_
  refine aw_iconst dX7_reads_33 ⟨by decide, by decide⟩ ?_
  refine aw_icmp_ne (tgt := 44) dX7_reads_34 (by decide) (fun hc => ?_) (fun hc => ?_)
  rotate_left
  · replace h := ip hc h
    refine aw_aload_n dX7_reads_37 rfl rfl ?_
    refine aw_getI dX7_reads_38 fk_X7_96 pM_0 rfl ?_
    refine aw_goto (tgt := 45) dX7_reads_41 (by decide) ?_
    exact (t_X7_reads_45   (s1 0 5) s1 _ h)
  · replace h := ic hc h
    refine aw_iconst dX7_reads_44 ⟨by decide, by decide⟩ ?_
    exact (t_X7_reads_45   0 s1 _ h)
def f_X7_reads  (s0 : SS) : Option SS :=
  cb (f_X7_readsText s0) fun y1 s1 =>
  sb (up s1 0 3 y1) fun s2 =>
  if (s2 0 3) = (-1) then (
    g_X7_reads_25  (s2 0 4) s2
  ) else (
    g_X7_reads_25  0 s2
  )
set_option maxHeartbeats 4000000 in
theorem t_X7_reads_0  : ∀ (s0 : SS) (r : SS), f_X7_reads s0 = some r → AW LM M_X7_reads (none, r) 0 [some (vR (some 0)), none, none, none] [] s0 := by
  intro s0 r h
  unfold f_X7_reads at h
  refine aw_aload_n dX7_reads_0 rfl rfl ?_
  refine aw_aload_n dX7_reads_1 rfl rfl ?_
  obtain ⟨y1, s1, hg1, h⟩ := cb_e h
  refine aw_V0i (M2 := M_X7_readsText) dX7_reads_2 lk_X7_105 mk_X7_readsText mv_X7_readsText ⟨by decide, by decide⟩ pM_0 ⟨_, _, rfl⟩ (Nat.le_of_ble_eq_true rfl) (c_X7_readsText  hg1) ?_
  refine aw_put dX7_reads_5 fk_X7_109 pM_0 rfl ft_7_3 (nar_int _) (fun s2 e => ?_)
  replace h := sb_e h e
  clear e
  refine aw_aload_n dX7_reads_8 rfl rfl ?_
  refine aw_aload_n dX7_reads_9 rfl rfl ?_
  refine aw_getI dX7_reads_10 fk_X7_109 pM_0 rfl ?_
  refine aw_iconst dX7_reads_13 ⟨by decide, by decide⟩ ?_
  refine aw_icmp_ne (tgt := 24) dX7_reads_14 (by decide) (fun hc => ?_) (fun hc => ?_)
  rotate_left
  · replace h := ip hc h
    refine aw_aload_n dX7_reads_17 rfl rfl ?_
    refine aw_getI dX7_reads_18 fk_X7_93 pM_0 rfl ?_
    refine aw_goto (tgt := 25) dX7_reads_21 (by decide) ?_
    exact (t_X7_reads_25   (s2 0 4) s2 _ h)
  · replace h := ic hc h
    refine aw_iconst dX7_reads_24 ⟨by decide, by decide⟩ ?_
    exact (t_X7_reads_25   0 s2 _ h)
theorem c_X7_reads {s0 : SS} {s1 : SS} (h : f_X7_reads s0 = some s1) : CT LM M_X7_reads [vR (some 0)] s0 (none, s1) :=
  ct_of (n := 3) (by decide) (Nat.le_of_ble_eq_true rfl) (t_X7_reads_0  s0  _ h)
def f_X7_faultOf  (s0 : SS) : Option (Int × SS) :=
  bn (f_X7_reads s0) fun s1 =>
  some (s1 0 3, s1)
set_option maxHeartbeats 4000000 in
theorem t_X7_faultOf_0  : ∀ (s0 : SS) (r : (Int × SS)), f_X7_faultOf s0 = some r → AW LM M_X7_faultOf (some (vI r.1), r.2) 0 [some (vR (some 0))] [] s0 := by
  intro s0 r h
  unfold f_X7_faultOf at h
  refine aw_aload_n dX7_faultOf_0 rfl rfl ?_
  obtain ⟨s1, hg1, h⟩ := bn_e h
  refine aw_V0v (M2 := M_X7_reads) dX7_faultOf_1 lk_X7_112 mk_X7_reads mv_X7_reads ⟨by decide, by decide⟩ pM_0 ⟨_, _, rfl⟩ (Nat.le_of_ble_eq_true rfl) (c_X7_reads  hg1) ?_
  refine aw_aload_n dX7_faultOf_4 rfl rfl ?_
  refine aw_getI dX7_faultOf_5 fk_X7_109 pM_0 rfl ?_
  obtain rfl := Option.some.inj h
  exact aw_iret dX7_faultOf_8 rfl
theorem c_X7_faultOf {s0 : SS} {y : Int} {s1 : SS} (h : f_X7_faultOf s0 = some (y, s1)) : CT LM M_X7_faultOf [vR (some 0)] s0 (some (vI y), s1) :=
  ct_of (n := 0) (by decide) (Nat.le_of_ble_eq_true rfl) (t_X7_faultOf_0  s0  _ h)
def f_X7_fault  (s0 : SS) : Option (Int × SS) :=
  cb (f_X7_faultOf s0) fun y1 s1 =>
  some (y1, s1)
set_option maxHeartbeats 4000000 in
theorem t_X7_fault_0  : ∀ (s0 : SS) (r : (Int × SS)), f_X7_fault s0 = some r → AW LM M_X7_fault (some (vI r.1), r.2) 0 [some (vR (some 0))] [] s0 := by
  intro s0 r h
  unfold f_X7_fault at h
  refine aw_aload_n dX7_fault_0 rfl rfl ?_
  obtain ⟨y1, s1, hg1, h⟩ := cb_e h
  refine aw_V0i (M2 := M_X7_faultOf) dX7_fault_1 lk_X7_115 mk_X7_faultOf mv_X7_faultOf ⟨by decide, by decide⟩ pM_0 ⟨_, _, rfl⟩ (Nat.le_of_ble_eq_true rfl) (c_X7_faultOf  hg1) ?_
  obtain rfl := Option.some.inj h
  exact aw_iret dX7_fault_4 rfl
theorem c_X7_fault {s0 : SS} {y : Int} {s1 : SS} (h : f_X7_fault s0 = some (y, s1)) : CT LM M_X7_fault [vR (some 0)] s0 (some (vI y), s1) :=
  ct_of (n := 0) (by decide) (Nat.le_of_ble_eq_true rfl) (t_X7_fault_0  s0  _ h)
def f_X7_shape (x0 : Int) (x1 : Int) (x2 : Int) (x3 : Int) : Option Int :=
  some (i_or (i_or (i_or x0 (i_shl x1 6)) (i_shl x2 15)) (i_shl x3 24))
set_option maxHeartbeats 4000000 in
theorem t_X7_shape_0  : ∀ (x0 : Int) (x1 : Int) (x2 : Int) (x3 : Int) (s0 : SS) (r : Int), f_X7_shape x0 x1 x2 x3 = some r → AW LM M_X7_shape (some (vI r), s0) 0 [some (vI x0), some (vI x1), some (vI x2), some (vI x3)] [] s0 := by
  intro x0 x1 x2 x3 s0 r h
  unfold f_X7_shape at h
  refine aw_iload_n dX7_shape_0 rfl rfl ?_
  refine aw_iload_n dX7_shape_1 rfl rfl ?_
  refine aw_bipush dX7_shape_2 ⟨by decide, by decide⟩ (by decide) ?_
  refine aw_ishl dX7_shape_4 ?_
  refine aw_ior dX7_shape_5 ?_
  refine aw_iload_n dX7_shape_6 rfl rfl ?_
  refine aw_bipush dX7_shape_7 ⟨by decide, by decide⟩ (by decide) ?_
  refine aw_ishl dX7_shape_9 ?_
  refine aw_ior dX7_shape_10 ?_
  refine aw_iload_n dX7_shape_11 rfl rfl ?_
  refine aw_bipush dX7_shape_12 ⟨by decide, by decide⟩ (by decide) ?_
  refine aw_ishl dX7_shape_14 ?_
  refine aw_ior dX7_shape_15 ?_
  obtain rfl := Option.some.inj h
  exact aw_iret dX7_shape_16 rfl
theorem c_X7_shape {x0 : Int} {x1 : Int} {x2 : Int} {x3 : Int} {s0 : SS} {y : Int} (h : f_X7_shape x0 x1 x2 x3 = some y) : CT LM M_X7_shape [vI x0, vI x1, vI x2, vI x3] s0 (some (vI y), s0) :=
  ct_of (n := 0) (by decide) (Nat.le_of_ble_eq_true rfl) (t_X7_shape_0 x0 x1 x2 x3 s0  _ h)
def f_X7_lines (x0 : Int) : Option Int :=
  some (i_and x0 63)
set_option maxHeartbeats 4000000 in
theorem t_X7_lines_0  : ∀ (x0 : Int) (s0 : SS) (r : Int), f_X7_lines x0 = some r → AW LM M_X7_lines (some (vI r), s0) 0 [some (vI x0)] [] s0 := by
  intro x0 s0 r h
  unfold f_X7_lines at h
  refine aw_iload_n dX7_lines_0 rfl rfl ?_
  refine aw_bipush dX7_lines_1 ⟨by decide, by decide⟩ (by decide) ?_
  refine aw_iand dX7_lines_3 ?_
  obtain rfl := Option.some.inj h
  exact aw_iret dX7_lines_4 rfl
theorem c_X7_lines {x0 : Int} {s0 : SS} {y : Int} (h : f_X7_lines x0 = some y) : CT LM M_X7_lines [vI x0] s0 (some (vI y), s0) :=
  ct_of (n := 0) (by decide) (Nat.le_of_ble_eq_true rfl) (t_X7_lines_0 x0 s0  _ h)
def f_X7_last (x0 : Int) : Option Int :=
  some (i_and (i_shr x0 6) 511)
set_option maxHeartbeats 4000000 in
theorem t_X7_last_0  : ∀ (x0 : Int) (s0 : SS) (r : Int), f_X7_last x0 = some r → AW LM M_X7_last (some (vI r), s0) 0 [some (vI x0)] [] s0 := by
  intro x0 s0 r h
  unfold f_X7_last at h
  refine aw_iload_n dX7_last_0 rfl rfl ?_
  refine aw_bipush dX7_last_1 ⟨by decide, by decide⟩ (by decide) ?_
  refine aw_ishr dX7_last_3 ?_
  refine aw_sipush dX7_last_4 ⟨by decide, by decide⟩ (by decide) ?_
  refine aw_iand dX7_last_7 ?_
  obtain rfl := Option.some.inj h
  exact aw_iret dX7_last_8 rfl
theorem c_X7_last {x0 : Int} {s0 : SS} {y : Int} (h : f_X7_last x0 = some y) : CT LM M_X7_last [vI x0] s0 (some (vI y), s0) :=
  ct_of (n := 0) (by decide) (Nat.le_of_ble_eq_true rfl) (t_X7_last_0 x0 s0  _ h)
def f_X7_most (x0 : Int) : Option Int :=
  some (i_and (i_shr x0 15) 511)
set_option maxHeartbeats 4000000 in
theorem t_X7_most_0  : ∀ (x0 : Int) (s0 : SS) (r : Int), f_X7_most x0 = some r → AW LM M_X7_most (some (vI r), s0) 0 [some (vI x0)] [] s0 := by
  intro x0 s0 r h
  unfold f_X7_most at h
  refine aw_iload_n dX7_most_0 rfl rfl ?_
  refine aw_bipush dX7_most_1 ⟨by decide, by decide⟩ (by decide) ?_
  refine aw_ishr dX7_most_3 ?_
  refine aw_sipush dX7_most_4 ⟨by decide, by decide⟩ (by decide) ?_
  refine aw_iand dX7_most_7 ?_
  obtain rfl := Option.some.inj h
  exact aw_iret dX7_most_8 rfl
theorem c_X7_most {x0 : Int} {s0 : SS} {y : Int} (h : f_X7_most x0 = some y) : CT LM M_X7_most [vI x0] s0 (some (vI y), s0) :=
  ct_of (n := 0) (by decide) (Nat.le_of_ble_eq_true rfl) (t_X7_most_0 x0 s0  _ h)
def f_X7_wayOf (x0 : Int) : Option Int :=
  some (i_shr x0 24)
set_option maxHeartbeats 4000000 in
theorem t_X7_wayOf_0  : ∀ (x0 : Int) (s0 : SS) (r : Int), f_X7_wayOf x0 = some r → AW LM M_X7_wayOf (some (vI r), s0) 0 [some (vI x0)] [] s0 := by
  intro x0 s0 r h
  unfold f_X7_wayOf at h
  refine aw_iload_n dX7_wayOf_0 rfl rfl ?_
  refine aw_bipush dX7_wayOf_1 ⟨by decide, by decide⟩ (by decide) ?_
  refine aw_ishr dX7_wayOf_3 ?_
  obtain rfl := Option.some.inj h
  exact aw_iret dX7_wayOf_4 rfl
theorem c_X7_wayOf {x0 : Int} {s0 : SS} {y : Int} (h : f_X7_wayOf x0 = some y) : CT LM M_X7_wayOf [vI x0] s0 (some (vI y), s0) :=
  ct_of (n := 0) (by decide) (Nat.le_of_ble_eq_true rfl) (t_X7_wayOf_0 x0 s0  _ h)
def g_X7_max_10 (z0 : Int) : Option Int :=
  some z0
set_option maxHeartbeats 4000000 in
theorem t_X7_max_10  : ∀ (z0 : Int) (s0 : SS) (r : Int), g_X7_max_10 z0 = some r → AW LM M_X7_max (some (vI r), s0) 10 [none, none] [vI z0] s0 := by
  intro z0 s0 r h
  unfold g_X7_max_10 at h
  obtain rfl := Option.some.inj h
  exact aw_iret dX7_max_10 rfl
def f_X7_max (x0 : Int) (x1 : Int) : Option Int :=
  if x0 ≤ x1 then (
    g_X7_max_10  x1
  ) else (
    g_X7_max_10  x0
  )
set_option maxHeartbeats 4000000 in
theorem t_X7_max_0  : ∀ (x0 : Int) (x1 : Int) (s0 : SS) (r : Int), f_X7_max x0 x1 = some r → AW LM M_X7_max (some (vI r), s0) 0 [some (vI x0), some (vI x1)] [] s0 := by
  intro x0 x1 s0 r h
  unfold f_X7_max at h
  refine aw_iload_n dX7_max_0 rfl rfl ?_
  refine aw_iload_n dX7_max_1 rfl rfl ?_
  refine aw_icmp_le (tgt := 9) dX7_max_2 (by decide) (fun hc => ?_) (fun hc => ?_)
  · replace h := ip hc h
    refine aw_iload_n dX7_max_9 rfl rfl ?_
    exact aw_less (ls' := [none, none]) (trivial) (t_X7_max_10   x1 s0 _ h)
  · replace h := ic hc h
    refine aw_iload_n dX7_max_5 rfl rfl ?_
    refine aw_goto (tgt := 10) dX7_max_6 (by decide) ?_
    exact aw_less (ls' := [none, none]) (trivial) (t_X7_max_10   x0 s0 _ h)
theorem c_X7_max {x0 : Int} {x1 : Int} {s0 : SS} {y : Int} (h : f_X7_max x0 x1 = some y) : CT LM M_X7_max [vI x0, vI x1] s0 (some (vI y), s0) :=
  ct_of (n := 0) (by decide) (Nat.le_of_ble_eq_true rfl) (t_X7_max_0 x0 x1 s0  _ h)
def f_X7_both (x0 : Int) (x1 : Int) (x2 : Int) : Option Int :=
  bn (f_X7_wayOf x1) fun y1 =>
  bn (f_X7_wayOf x2) fun y2 =>
  sb (i_or y1 y2) fun y3 =>
  if x0 = 1 then (
    bn (f_X7_lines x1) fun y4 =>
    bn (f_X7_lines x2) fun y5 =>
    bn (f_X7_last x1) fun y6 =>
    bn (f_X7_last x2) fun y7 =>
    bn (f_X7_most x1) fun y8 =>
    bn (f_X7_last x1) fun y9 =>
    bn (f_X7_most x2) fun y10 =>
    bn (f_X7_max y8 (wr (y9 + y10))) fun y11 =>
    bn (f_X7_shape (wr ((wr (y4 + y5)) - 1)) (wr (y6 + y7)) y11 y3) fun y12 =>
    some y12
  ) else (
    bn (f_X7_lines x1) fun y13 =>
    bn (f_X7_lines x2) fun y14 =>
    bn (f_X7_last x2) fun y15 =>
    bn (f_X7_most x1) fun y16 =>
    bn (f_X7_most x2) fun y17 =>
    bn (f_X7_max y16 y17) fun y18 =>
    bn (f_X7_shape (wr (y13 + y14)) y15 y18 y3) fun y19 =>
    some y19
  )
set_option maxHeartbeats 4000000 in
theorem t_X7_both_0  : ∀ (x0 : Int) (x1 : Int) (x2 : Int) (s0 : SS) (r : Int), f_X7_both x0 x1 x2 = some r → AW LM M_X7_both (some (vI r), s0) 0 [some (vI x0), some (vI x1), some (vI x2), none] [] s0 := by
  intro x0 x1 x2 s0 r h
  unfold f_X7_both at h
  refine aw_iload_n dX7_both_0 rfl rfl ?_
  obtain ⟨y1, hg1, h⟩ := bn_e h
  refine aw_S1i (M2 := M_X7_wayOf) dX7_both_1 lk_X7_118 mk_X7_wayOf ms_X7_wayOf ⟨by decide, by decide⟩ (Nat.le_of_ble_eq_true rfl) (c_X7_wayOf  hg1) ?_
  refine aw_iload_n dX7_both_4 rfl rfl ?_
  obtain ⟨y2, hg2, h⟩ := bn_e h
  refine aw_S1i (M2 := M_X7_wayOf) dX7_both_5 lk_X7_118 mk_X7_wayOf ms_X7_wayOf ⟨by decide, by decide⟩ (Nat.le_of_ble_eq_true rfl) (c_X7_wayOf  hg2) ?_
  refine aw_ior dX7_both_8 ?_
  refine aw_istore_n dX7_both_9 rfl (by decide) rfl (fun y3 e => ?_)
  replace h := sb_e h e
  clear e
  show AW _ _ _ 10 [some (vI x0), some (vI x1), some (vI x2), some (vI y3)] _ _
  refine aw_iload_n dX7_both_10 rfl rfl ?_
  refine aw_iconst dX7_both_11 ⟨by decide, by decide⟩ ?_
  refine aw_icmp_ne (tgt := 56) dX7_both_12 (by decide) (fun hc => ?_) (fun hc => ?_)
  rotate_left
  · replace h := ip hc h
    refine aw_iload_n dX7_both_15 rfl rfl ?_
    obtain ⟨y4, hg3, h⟩ := bn_e h
    refine aw_S1i (M2 := M_X7_lines) dX7_both_16 lk_X7_121 mk_X7_lines ms_X7_lines ⟨by decide, by decide⟩ (Nat.le_of_ble_eq_true rfl) (c_X7_lines  hg3) ?_
    refine aw_iload_n dX7_both_19 rfl rfl ?_
    obtain ⟨y5, hg4, h⟩ := bn_e h
    refine aw_S1i (M2 := M_X7_lines) dX7_both_20 lk_X7_121 mk_X7_lines ms_X7_lines ⟨by decide, by decide⟩ (Nat.le_of_ble_eq_true rfl) (c_X7_lines  hg4) ?_
    refine aw_iadd dX7_both_23 ?_
    refine aw_iconst dX7_both_24 ⟨by decide, by decide⟩ ?_
    refine aw_isub dX7_both_25 ?_
    refine aw_iload_n dX7_both_26 rfl rfl ?_
    obtain ⟨y6, hg5, h⟩ := bn_e h
    refine aw_S1i (M2 := M_X7_last) dX7_both_27 lk_X7_124 mk_X7_last ms_X7_last ⟨by decide, by decide⟩ (Nat.le_of_ble_eq_true rfl) (c_X7_last  hg5) ?_
    refine aw_iload_n dX7_both_30 rfl rfl ?_
    obtain ⟨y7, hg6, h⟩ := bn_e h
    refine aw_S1i (M2 := M_X7_last) dX7_both_31 lk_X7_124 mk_X7_last ms_X7_last ⟨by decide, by decide⟩ (Nat.le_of_ble_eq_true rfl) (c_X7_last  hg6) ?_
    refine aw_iadd dX7_both_34 ?_
    refine aw_iload_n dX7_both_35 rfl rfl ?_
    obtain ⟨y8, hg7, h⟩ := bn_e h
    refine aw_S1i (M2 := M_X7_most) dX7_both_36 lk_X7_127 mk_X7_most ms_X7_most ⟨by decide, by decide⟩ (Nat.le_of_ble_eq_true rfl) (c_X7_most  hg7) ?_
    refine aw_iload_n dX7_both_39 rfl rfl ?_
    obtain ⟨y9, hg8, h⟩ := bn_e h
    refine aw_S1i (M2 := M_X7_last) dX7_both_40 lk_X7_124 mk_X7_last ms_X7_last ⟨by decide, by decide⟩ (Nat.le_of_ble_eq_true rfl) (c_X7_last  hg8) ?_
    refine aw_iload_n dX7_both_43 rfl rfl ?_
    obtain ⟨y10, hg9, h⟩ := bn_e h
    refine aw_S1i (M2 := M_X7_most) dX7_both_44 lk_X7_127 mk_X7_most ms_X7_most ⟨by decide, by decide⟩ (Nat.le_of_ble_eq_true rfl) (c_X7_most  hg9) ?_
    refine aw_iadd dX7_both_47 ?_
    obtain ⟨y11, hg10, h⟩ := bn_e h
    refine aw_S2i (M2 := M_X7_max) dX7_both_48 lk_X7_130 mk_X7_max ms_X7_max ⟨by decide, by decide⟩ (Nat.le_of_ble_eq_true rfl) (c_X7_max  hg10) ?_
    refine aw_iload_n dX7_both_51 rfl rfl ?_
    obtain ⟨y12, hg11, h⟩ := bn_e h
    refine aw_S4i (M2 := M_X7_shape) dX7_both_52 lk_X7_134 mk_X7_shape ms_X7_shape ⟨by decide, by decide⟩ (Nat.le_of_ble_eq_true rfl) (c_X7_shape  hg11) ?_
    obtain rfl := Option.some.inj h
    exact aw_iret dX7_both_55 rfl
  · replace h := ic hc h
    refine aw_iload_n dX7_both_56 rfl rfl ?_
    obtain ⟨y13, hg12, h⟩ := bn_e h
    refine aw_S1i (M2 := M_X7_lines) dX7_both_57 lk_X7_121 mk_X7_lines ms_X7_lines ⟨by decide, by decide⟩ (Nat.le_of_ble_eq_true rfl) (c_X7_lines  hg12) ?_
    refine aw_iload_n dX7_both_60 rfl rfl ?_
    obtain ⟨y14, hg13, h⟩ := bn_e h
    refine aw_S1i (M2 := M_X7_lines) dX7_both_61 lk_X7_121 mk_X7_lines ms_X7_lines ⟨by decide, by decide⟩ (Nat.le_of_ble_eq_true rfl) (c_X7_lines  hg13) ?_
    refine aw_iadd dX7_both_64 ?_
    refine aw_iload_n dX7_both_65 rfl rfl ?_
    obtain ⟨y15, hg14, h⟩ := bn_e h
    refine aw_S1i (M2 := M_X7_last) dX7_both_66 lk_X7_124 mk_X7_last ms_X7_last ⟨by decide, by decide⟩ (Nat.le_of_ble_eq_true rfl) (c_X7_last  hg14) ?_
    refine aw_iload_n dX7_both_69 rfl rfl ?_
    obtain ⟨y16, hg15, h⟩ := bn_e h
    refine aw_S1i (M2 := M_X7_most) dX7_both_70 lk_X7_127 mk_X7_most ms_X7_most ⟨by decide, by decide⟩ (Nat.le_of_ble_eq_true rfl) (c_X7_most  hg15) ?_
    refine aw_iload_n dX7_both_73 rfl rfl ?_
    obtain ⟨y17, hg16, h⟩ := bn_e h
    refine aw_S1i (M2 := M_X7_most) dX7_both_74 lk_X7_127 mk_X7_most ms_X7_most ⟨by decide, by decide⟩ (Nat.le_of_ble_eq_true rfl) (c_X7_most  hg16) ?_
    obtain ⟨y18, hg17, h⟩ := bn_e h
    refine aw_S2i (M2 := M_X7_max) dX7_both_77 lk_X7_130 mk_X7_max ms_X7_max ⟨by decide, by decide⟩ (Nat.le_of_ble_eq_true rfl) (c_X7_max  hg17) ?_
    refine aw_iload_n dX7_both_80 rfl rfl ?_
    obtain ⟨y19, hg18, h⟩ := bn_e h
    refine aw_S4i (M2 := M_X7_shape) dX7_both_81 lk_X7_134 mk_X7_shape ms_X7_shape ⟨by decide, by decide⟩ (Nat.le_of_ble_eq_true rfl) (c_X7_shape  hg18) ?_
    obtain rfl := Option.some.inj h
    exact aw_iret dX7_both_84 rfl
theorem c_X7_both {x0 : Int} {x1 : Int} {x2 : Int} {s0 : SS} {y : Int} (h : f_X7_both x0 x1 x2 = some y) : CT LM M_X7_both [vI x0, vI x1, vI x2] s0 (some (vI y), s0) :=
  ct_of (n := 1) (by decide) (Nat.le_of_ble_eq_true rfl) (t_X7_both_0 x0 x1 x2 s0  _ h)
