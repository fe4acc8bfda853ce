def g_X5_fewestLines_78 (x3 : Int) (s0 : SS) : Option Int :=
  bn (f_X3_tell 28 x3 0 s0) fun y1 =>
  some y1
set_option maxHeartbeats 4000000 in
theorem t_X5_fewestLines_78  : ∀ (x3 : Int) (s0 : SS) (r : Int), g_X5_fewestLines_78 x3 s0 = some r → AW LC M_X5_fewestLines (some (vI r), s0) 78 [some (vR (some 22)), none, none, some (vI x3), none, none] [] s0 := by
  intro x3 s0 r h
  unfold g_X5_fewestLines_78 at h
  refine aw_aload_n dX5_fewestLines_78 rfl rfl ?_
  refine aw_getR (t := 28) dX5_fewestLines_79 fk_X5_20 pC_22 rfl ?_
  refine aw_iload_n dX5_fewestLines_82 rfl rfl ?_
  refine aw_iconst dX5_fewestLines_83 ⟨by decide, by decide⟩ ?_
  obtain ⟨y1, hg1, h⟩ := bn_e h
  refine aw_V2i (M2 := M_X3_tell) dX5_fewestLines_84 lk_X5_101 mk_X3_tell mv_X3_tell ⟨by decide, by decide⟩ pC_28 ⟨_, _, rfl⟩ (Nat.le_of_ble_eq_true rfl) (c_X3_tell pC_28 hg1) ?_
  obtain rfl := Option.some.inj h
  exact aw_iret dX5_fewestLines_87 rfl
def g_X5_fewestLines_72 (k5 : Int → Int → Int → Int → SS → Option Int) (x1 : Int) (x2 : Int) (x3 : Int) (x4 : Int) (s0 : SS) : Option Int :=
  sb (wr (x4 + 1)) fun y1 =>
  k5 x1 x2 x3 y1 s0
set_option maxHeartbeats 4000000 in
theorem t_X5_fewestLines_72 (k5 : Int → Int → Int → Int → SS → Option Int) (hk5 : ∀ (x1 : Int) (x2 : Int) (x3 : Int) (x4 : Int) (s0 : SS) (r : Int), k5 x1 x2 x3 x4 s0 = some r → AW LC M_X5_fewestLines (some (vI r), s0) 5 [some (vR (some 22)), some (vI x1), some (vI x2), some (vI x3), some (vI x4), none] [] s0) : ∀ (x1 : Int) (x2 : Int) (x3 : Int) (x4 : Int) (s0 : SS) (r : Int), g_X5_fewestLines_72 k5 x1 x2 x3 x4 s0 = some r → AW LC M_X5_fewestLines (some (vI r), s0) 72 [some (vR (some 22)), some (vI x1), some (vI x2), some (vI x3), some (vI x4), none] [] s0 := by
  intro x1 x2 x3 x4 s0 r h
  unfold g_X5_fewestLines_72 at h
  refine aw_iinc dX5_fewestLines_72 rfl (by decide) rfl (fun y1 e => ?_)
  replace h := sb_e h e
  clear e
  show AW _ _ _ 75 [some (vR (some 22)), some (vI x1), some (vI x2), some (vI x3), some (vI y1), none] _ _
  refine aw_goto (tgt := 5) dX5_fewestLines_75 (by decide) ?_
  exact (hk5 x1 x2 x3 y1 s0 _ h)
def g_X5_fewestLines_69 (k5 : Int → Int → Int → Int → SS → Option Int) (x1 : Int) (x2 : Int) (x4 : Int) (s0 : SS) : Option Int :=
  g_X5_fewestLines_72 k5 x1 x2 x4 x4 s0
set_option maxHeartbeats 4000000 in
theorem t_X5_fewestLines_69 (k5 : Int → Int → Int → Int → SS → Option Int) (hk5 : ∀ (x1 : Int) (x2 : Int) (x3 : Int) (x4 : Int) (s0 : SS) (r : Int), k5 x1 x2 x3 x4 s0 = some r → AW LC M_X5_fewestLines (some (vI r), s0) 5 [some (vR (some 22)), some (vI x1), some (vI x2), some (vI x3), some (vI x4), none] [] s0) : ∀ (x1 : Int) (x2 : Int) (x4 : Int) (s0 : SS) (r : Int), g_X5_fewestLines_69 k5 x1 x2 x4 s0 = some r → AW LC M_X5_fewestLines (some (vI r), s0) 69 [some (vR (some 22)), some (vI x1), some (vI x2), none, some (vI x4), none] [] s0 := by
  intro x1 x2 x4 s0 r h
  unfold g_X5_fewestLines_69 at h
  refine aw_iload dX5_fewestLines_69 rfl ?_
  refine aw_istore_nA dX5_fewestLines_71 rfl (by decide) rfl ?_
  show AW _ _ _ 72 [some (vR (some 22)), some (vI x1), some (vI x2), some (vI x4), some (vI x4), none] _ _
  exact (t_X5_fewestLines_72 k5 hk5 x1 x2 x4 x4 s0 _ h)
def g_X5_fewestLines_44 (k5 : Int → Int → Int → Int → SS → Option Int) (x1 : Int) (x2 : Int) (x3 : Int) (x4 : Int) (z0 : Int) (s0 : SS) : Option Int :=
  if z0 = 0 then (
    g_X5_fewestLines_72 k5 x1 x2 x3 x4 s0
  ) else (
    if x3 = (-1) then (
      g_X5_fewestLines_69 k5 x1 x2 x4 s0
    ) else (
      bn (f_X3_fewerLines 28 x4 x3 s0) fun y1 =>
      if y1 = 0 then (
        g_X5_fewestLines_72 k5 x1 x2 x3 x4 s0
      ) else (
        g_X5_fewestLines_69 k5 x1 x2 x4 s0
      )
    )
  )
set_option maxHeartbeats 4000000 in
theorem t_X5_fewestLines_44 (k5 : Int → Int → Int → Int → SS → Option Int) (hk5 : ∀ (x1 : Int) (x2 : Int) (x3 : Int) (x4 : Int) (s0 : SS) (r : Int), k5 x1 x2 x3 x4 s0 = some r → AW LC M_X5_fewestLines (some (vI r), s0) 5 [some (vR (some 22)), some (vI x1), some (vI x2), some (vI x3), some (vI x4), none] [] s0) : ∀ (x1 : Int) (x2 : Int) (x3 : Int) (x4 : Int) (z0 : Int) (s0 : SS) (r : Int), g_X5_fewestLines_44 k5 x1 x2 x3 x4 z0 s0 = some r → AW LC M_X5_fewestLines (some (vI r), s0) 44 [some (vR (some 22)), some (vI x1), some (vI x2), some (vI x3), some (vI x4), none] [vI z0] s0 := by
  intro x1 x2 x3 x4 z0 s0 r h
  unfold g_X5_fewestLines_44 at h
  refine aw_istoreA dX5_fewestLines_44 (by decide) rfl ?_
  show AW _ _ _ 46 [some (vR (some 22)), some (vI x1), some (vI x2), some (vI x3), some (vI x4), some (vI z0)] _ _
  refine aw_iload dX5_fewestLines_46 rfl ?_
  refine aw_if_eq (tgt := 72) dX5_fewestLines_48 (by decide) (fun hc => ?_) (fun hc => ?_)
  · replace h := ip hc h
    exact aw_less (ls' := [some (vR (some 22)), some (vI x1), some (vI x2), some (vI x3), some (vI x4), none]) (⟨rfl, ⟨rfl, ⟨rfl, ⟨rfl, ⟨rfl, trivial⟩⟩⟩⟩⟩) (t_X5_fewestLines_72 k5 hk5 x1 x2 x3 x4 s0 _ h)
  · replace h := ic hc h
    refine aw_iload_n dX5_fewestLines_51 rfl rfl ?_
    refine aw_iconst dX5_fewestLines_52 ⟨by decide, by decide⟩ ?_
    refine aw_icmp_eq (tgt := 69) dX5_fewestLines_53 (by decide) (fun hc => ?_) (fun hc => ?_)
    · replace h := ip hc h
      exact aw_less (ls' := [some (vR (some 22)), some (vI x1), some (vI x2), none, some (vI x4), none]) (⟨rfl, ⟨rfl, ⟨rfl, ⟨rfl, trivial⟩⟩⟩⟩) (t_X5_fewestLines_69 k5 hk5 x1 x2 x4 s0 _ h)
    · replace h := ic hc h
      refine aw_aload_n dX5_fewestLines_56 rfl rfl ?_
      refine aw_getR (t := 28) dX5_fewestLines_57 fk_X5_20 pC_22 rfl ?_
      refine aw_iload dX5_fewestLines_60 rfl ?_
      refine aw_iload_n dX5_fewestLines_62 rfl rfl ?_
      obtain ⟨y1, hg1, h⟩ := bn_e h
      refine aw_V2i (M2 := M_X3_fewerLines) dX5_fewestLines_63 lk_X5_119 mk_X3_fewerLines mv_X3_fewerLines ⟨by decide, by decide⟩ pC_28 ⟨_, _, rfl⟩ (Nat.le_of_ble_eq_true rfl) (c_X3_fewerLines pC_28 hg1) ?_
      refine aw_if_eq (tgt := 72) dX5_fewestLines_66 (by decide) (fun hc => ?_) (fun hc => ?_)
      · replace h := ip hc h
        exact aw_less (ls' := [some (vR (some 22)), some (vI x1), some (vI x2), some (vI x3), some (vI x4), none]) (⟨rfl, ⟨rfl, ⟨rfl, ⟨rfl, ⟨rfl, trivial⟩⟩⟩⟩⟩) (t_X5_fewestLines_72 k5 hk5 x1 x2 x3 x4 s0 _ h)
      · replace h := ic hc h
        exact aw_less (ls' := [some (vR (some 22)), some (vI x1), some (vI x2), none, some (vI x4), none]) (⟨rfl, ⟨rfl, ⟨rfl, ⟨rfl, trivial⟩⟩⟩⟩) (t_X5_fewestLines_69 k5 hk5 x1 x2 x4 s0 _ h)
def g_X5_fewestLines_43 (k5 : Int → Int → Int → Int → SS → Option Int) (x1 : Int) (x2 : Int) (x3 : Int) (x4 : Int) (s0 : SS) : Option Int :=
  g_X5_fewestLines_44 k5 x1 x2 x3 x4 0 s0
set_option maxHeartbeats 4000000 in
theorem t_X5_fewestLines_43 (k5 : Int → Int → Int → Int → SS → Option Int) (hk5 : ∀ (x1 : Int) (x2 : Int) (x3 : Int) (x4 : Int) (s0 : SS) (r : Int), k5 x1 x2 x3 x4 s0 = some r → AW LC M_X5_fewestLines (some (vI r), s0) 5 [some (vR (some 22)), some (vI x1), some (vI x2), some (vI x3), some (vI x4), none] [] s0) : ∀ (x1 : Int) (x2 : Int) (x3 : Int) (x4 : Int) (s0 : SS) (r : Int), g_X5_fewestLines_43 k5 x1 x2 x3 x4 s0 = some r → AW LC M_X5_fewestLines (some (vI r), s0) 43 [some (vR (some 22)), some (vI x1), some (vI x2), some (vI x3), some (vI x4), none] [] s0 := by
  intro x1 x2 x3 x4 s0 r h
  unfold g_X5_fewestLines_43 at h
  refine aw_iconst dX5_fewestLines_43 ⟨by decide, by decide⟩ ?_
  exact (t_X5_fewestLines_44 k5 hk5 x1 x2 x3 x4 0 s0 _ h)
def g_X5_fewestLines_5 (k5 : Int → Int → Int → Int → SS → Option Int) (x1 : Int) (x2 : Int) (x3 : Int) (x4 : Int) (s0 : SS) : Option Int :=
  if (s0 22 6) ≤ x4 then (
    g_X5_fewestLines_78  x3 s0
  ) else (
    bn (f_X5_fits x4 x2 s0) fun y1 =>
    if y1 = 0 then (
      g_X5_fewestLines_43 k5 x1 x2 x3 x4 s0
    ) else (
      bn (f_X3_tell 28 x4 3 s0) fun y2 =>
      if (i_and y2 x1) = 0 then (
        g_X5_fewestLines_44 k5 x1 x2 x3 x4 1 s0
      ) else (
        g_X5_fewestLines_43 k5 x1 x2 x3 x4 s0
      )
    )
  )
set_option maxHeartbeats 4000000 in
theorem t_X5_fewestLines_5 (k5 : Int → Int → Int → Int → SS → Option Int) (hk5 : ∀ (x1 : Int) (x2 : Int) (x3 : Int) (x4 : Int) (s0 : SS) (r : Int), k5 x1 x2 x3 x4 s0 = some r → AW LC M_X5_fewestLines (some (vI r), s0) 5 [some (vR (some 22)), some (vI x1), some (vI x2), some (vI x3), some (vI x4), none] [] s0) : ∀ (x1 : Int) (x2 : Int) (x3 : Int) (x4 : Int) (s0 : SS) (r : Int), g_X5_fewestLines_5 k5 x1 x2 x3 x4 s0 = some r → AW LC M_X5_fewestLines (some (vI r), s0) 5 [some (vR (some 22)), some (vI x1), some (vI x2), some (vI x3), some (vI x4), none] [] s0 := by
  intro x1 x2 x3 x4 s0 r h
  unfold g_X5_fewestLines_5 at h
  refine aw_iload dX5_fewestLines_5 rfl ?_
  refine aw_aload_n dX5_fewestLines_7 rfl rfl ?_
  refine aw_getI dX5_fewestLines_8 fk_X5_41 pC_22 rfl ?_
  refine aw_icmp_ge (tgt := 78) dX5_fewestLines_11 (by decide) (fun hc => ?_) (fun hc => ?_)
  · replace h := ip hc h
    exact aw_less (ls' := [some (vR (some 22)), none, none, some (vI x3), none, none]) (⟨rfl, ⟨rfl, trivial⟩⟩) (t_X5_fewestLines_78   x3 s0 _ h)
  · replace h := ic hc h
    refine aw_aload_n dX5_fewestLines_14 rfl rfl ?_
    refine aw_iload dX5_fewestLines_15 rfl ?_
    refine aw_iload_n dX5_fewestLines_17 rfl rfl ?_
    obtain ⟨y1, hg1, h⟩ := bn_e h
    refine aw_V2i (M2 := M_X5_fits) dX5_fewestLines_18 lk_X5_115 mk_X5_fits mv_X5_fits ⟨by decide, by decide⟩ pC_22 ⟨_, _, rfl⟩ (Nat.le_of_ble_eq_true rfl) (c_X5_fits  hg1) ?_
    refine aw_if_eq (tgt := 43) dX5_fewestLines_21 (by decide) (fun hc => ?_) (fun hc => ?_)
    · replace h := ip hc h
      exact (t_X5_fewestLines_43 k5 hk5 x1 x2 x3 x4 s0 _ h)
    · replace h := ic hc h
      refine aw_aload_n dX5_fewestLines_24 rfl rfl ?_
      refine aw_getR (t := 28) dX5_fewestLines_25 fk_X5_20 pC_22 rfl ?_
      refine aw_iload dX5_fewestLines_28 rfl ?_
      refine aw_iconst dX5_fewestLines_30 ⟨by decide, by decide⟩ ?_
      obtain ⟨y2, hg2, h⟩ := bn_e h
      refine aw_V2i (M2 := M_X3_tell) dX5_fewestLines_31 lk_X5_101 mk_X3_tell mv_X3_tell ⟨by decide, by decide⟩ pC_28 ⟨_, _, rfl⟩ (Nat.le_of_ble_eq_true rfl) (c_X3_tell pC_28 hg2) ?_
      refine aw_iload_n dX5_fewestLines_34 rfl rfl ?_
      refine aw_iand dX5_fewestLines_35 ?_
      refine aw_if_ne (tgt := 43) dX5_fewestLines_36 (by decide) (fun hc => ?_) (fun hc => ?_)
      rotate_left
      · replace h := ip hc h
        refine aw_iconst dX5_fewestLines_39 ⟨by decide, by decide⟩ ?_
        refine aw_goto (tgt := 44) dX5_fewestLines_40 (by decide) ?_
        exact (t_X5_fewestLines_44 k5 hk5 x1 x2 x3 x4 1 s0 _ h)
      · replace h := ic hc h
        exact (t_X5_fewestLines_43 k5 hk5 x1 x2 x3 x4 s0 _ h)
def f_X5_fewestLines_5 : Nat → Int → Int → Int → Int → SS → Option Int
  | 0 => fun _ _ _ _ _ => none
  | n + 1 => g_X5_fewestLines_5 (f_X5_fewestLines_5  n)
theorem s_X5_fewestLines_5  : ∀ (n : Nat), ∀ (x1 : Int) (x2 : Int) (x3 : Int) (x4 : Int) (s0 : SS) (r : Int), f_X5_fewestLines_5 n x1 x2 x3 x4 s0 = some r → AW LC M_X5_fewestLines (some (vI r), s0) 5 [some (vR (some 22)), some (vI x1), some (vI x2), some (vI x3), some (vI x4), none] [] s0 := by
  intro n
  induction n with
  | zero =>
    intro x1 x2 x3 x4 s0 r h
    cases h
  | succ n ih =>
    intro x1 x2 x3 x4 s0 r h
    exact t_X5_fewestLines_5 (f_X5_fewestLines_5  n) ih x1 x2 x3 x4 s0 r h
def f_X5_fewestLines (x1 : Int) (x2 : Int) (s0 : SS) : Option Int :=
  f_X5_fewestLines_5  FU x1 x2 (-1) 0 s0
set_option maxHeartbeats 4000000 in
theorem t_X5_fewestLines_0  : ∀ (x1 : Int) (x2 : Int) (s0 : SS) (r : Int), f_X5_fewestLines x1 x2 s0 = some r → AW LC M_X5_fewestLines (some (vI r), s0) 0 [some (vR (some 22)), some (vI x1), some (vI x2), none, none, none] [] s0 := by
  intro x1 x2 s0 r h
  unfold f_X5_fewestLines at h
  refine aw_iconst dX5_fewestLines_0 ⟨by decide, by decide⟩ ?_
  refine aw_istore_nA dX5_fewestLines_1 rfl (by decide) rfl ?_
  show AW _ _ _ 2 [some (vR (some 22)), some (vI x1), some (vI x2), some (vI (-1)), none, none] _ _
  refine aw_iconst dX5_fewestLines_2 ⟨by decide, by decide⟩ ?_
  refine aw_istoreA dX5_fewestLines_3 (by decide) rfl ?_
  show AW _ _ _ 5 [some (vR (some 22)), some (vI x1), some (vI x2), some (vI (-1)), some (vI 0), none] _ _
  exact (s_X5_fewestLines_5   FU x1 x2 (-1) 0 s0 _ h)
theorem c_X5_fewestLines {x1 : Int} {x2 : Int} {s0 : SS} {y : Int} (h : f_X5_fewestLines x1 x2 s0 = some y) : CT LC M_X5_fewestLines [vR (some 22), vI x1, vI x2] s0 (some (vI y), s0) :=
  ct_of (n := 3) (by decide) (Nat.le_of_ble_eq_true rfl) (t_X5_fewestLines_0 x1 x2 s0  _ h)
def g_X6_spare_90 (x2 : Int) (s0 : SS) : Option Int :=
  some x2
set_option maxHeartbeats 4000000 in
theorem t_X6_spare_90  : ∀ (x2 : Int) (s0 : SS) (r : Int), g_X6_spare_90 x2 s0 = some r → AW LC M_X6_spare (some (vI r), s0) 90 [none, none, some (vI x2), none, none, none] [] s0 := by
  intro x2 s0 r h
  unfold g_X6_spare_90 at h
  refine aw_iload_n dX6_spare_90 rfl rfl ?_
  obtain rfl := Option.some.inj h
  exact aw_iret dX6_spare_91 rfl
def g_X6_spare_84 (k23 : Int → Int → Int → SS → Option Int) (x1 : Int) (x2 : Int) (x3 : Int) (s0 : SS) : Option Int :=
  sb (wr (x3 + 1)) fun y1 =>
  k23 x1 x2 y1 s0
set_option maxHeartbeats 4000000 in
theorem t_X6_spare_84 (k23 : Int → Int → Int → SS → Option Int) (hk23 : ∀ (x1 : Int) (x2 : Int) (x3 : Int) (s0 : SS) (r : Int), k23 x1 x2 x3 s0 = some r → AW LC M_X6_spare (some (vI r), s0) 23 [some (vR (some 0)), some (vI x1), some (vI x2), some (vI x3), none, none] [] s0) : ∀ (x1 : Int) (x2 : Int) (x3 : Int) (s0 : SS) (r : Int), g_X6_spare_84 k23 x1 x2 x3 s0 = some r → AW LC M_X6_spare (some (vI r), s0) 84 [some (vR (some 0)), some (vI x1), some (vI x2), some (vI x3), none, none] [] s0 := by
  intro x1 x2 x3 s0 r h
  unfold g_X6_spare_84 at h
  refine aw_iinc dX6_spare_84 rfl (by decide) rfl (fun y1 e => ?_)
  replace h := sb_e h e
  clear e
  show AW _ _ _ 87 [some (vR (some 0)), some (vI x1), some (vI x2), some (vI y1), none, none] _ _
  refine aw_goto (tgt := 23) dX6_spare_87 (by decide) ?_
  exact (hk23 x1 x2 y1 s0 _ h)
def g_X6_spare_71 (k23 : Int → Int → Int → SS → Option Int) (x1 : Int) (x2 : Int) (x3 : Int) (x4 : Int) (z0 : Int) (s0 : SS) : Option Int :=
  if z0 = x1 then (
    sb (i_or x2 x4) fun y1 =>
    g_X6_spare_84 k23 x1 y1 x3 s0
  ) else (
    g_X6_spare_84 k23 x1 x2 x3 s0
  )
set_option maxHeartbeats 4000000 in
theorem t_X6_spare_71 (k23 : Int → Int → Int → SS → Option Int) (hk23 : ∀ (x1 : Int) (x2 : Int) (x3 : Int) (s0 : SS) (r : Int), k23 x1 x2 x3 s0 = some r → AW LC M_X6_spare (some (vI r), s0) 23 [some (vR (some 0)), some (vI x1), some (vI x2), some (vI x3), none, none] [] s0) : ∀ (x1 : Int) (x2 : Int) (x3 : Int) (x4 : Int) (z0 : Int) (s0 : SS) (r : Int), g_X6_spare_71 k23 x1 x2 x3 x4 z0 s0 = some r → AW LC M_X6_spare (some (vI r), s0) 71 [some (vR (some 0)), some (vI x1), some (vI x2), some (vI x3), some (vI x4), none] [vI z0] s0 := by
  intro x1 x2 x3 x4 z0 s0 r h
  unfold g_X6_spare_71 at h
  refine aw_istoreA dX6_spare_71 (by decide) rfl ?_
  show AW _ _ _ 73 [some (vR (some 0)), some (vI x1), some (vI x2), some (vI x3), some (vI x4), some (vI z0)] _ _
  refine aw_iload dX6_spare_73 rfl ?_
  refine aw_iload_n dX6_spare_75 rfl rfl ?_
  refine aw_icmp_ne (tgt := 84) dX6_spare_76 (by decide) (fun hc => ?_) (fun hc => ?_)
  rotate_left
  · replace h := ip hc h
    refine aw_iload_n dX6_spare_79 rfl rfl ?_
    refine aw_iload dX6_spare_80 rfl ?_
    refine aw_ior dX6_spare_82 ?_
    refine aw_istore_n dX6_spare_83 rfl (by decide) rfl (fun y1 e => ?_)
    replace h := sb_e h e
    clear e
    show AW _ _ _ 84 [some (vR (some 0)), some (vI x1), some (vI y1), some (vI x3), some (vI x4), some (vI z0)] _ _
    exact aw_less (ls' := [some (vR (some 0)), some (vI x1), some (vI y1), some (vI x3), none, none]) (⟨rfl, ⟨rfl, ⟨rfl, ⟨rfl, trivial⟩⟩⟩⟩) (t_X6_spare_84 k23 hk23 x1 y1 x3 s0 _ h)
  · replace h := ic hc h
    exact aw_less (ls' := [some (vR (some 0)), some (vI x1), some (vI x2), some (vI x3), none, none]) (⟨rfl, ⟨rfl, ⟨rfl, ⟨rfl, trivial⟩⟩⟩⟩) (t_X6_spare_84 k23 hk23 x1 x2 x3 s0 _ h)
def g_X6_spare_23 (k23 : Int → Int → Int → SS → Option Int) (x1 : Int) (x2 : Int) (x3 : Int) (s0 : SS) : Option Int :=
  if (s0 1 10) ≤ x3 then (
    g_X6_spare_90  x2 s0
  ) else (
    sb (i_shl 1 x3) fun y1 =>
    if (s0 0 9) = 0 then (
      bn (f_X5_fewestLines y1 (s0 0 6) s0) fun y2 =>
      g_X6_spare_71 k23 x1 x2 x3 y1 y2 s0
    ) else (
      bn (f_X5_linesOfLeastMost y1 s0) fun y3 =>
      g_X6_spare_71 k23 x1 x2 x3 y1 y3 s0
    )
  )
set_option maxHeartbeats 4000000 in
theorem t_X6_spare_23 (k23 : Int → Int → Int → SS → Option Int) (hk23 : ∀ (x1 : Int) (x2 : Int) (x3 : Int) (s0 : SS) (r : Int), k23 x1 x2 x3 s0 = some r → AW LC M_X6_spare (some (vI r), s0) 23 [some (vR (some 0)), some (vI x1), some (vI x2), some (vI x3), none, none] [] s0) : ∀ (x1 : Int) (x2 : Int) (x3 : Int) (s0 : SS) (r : Int), g_X6_spare_23 k23 x1 x2 x3 s0 = some r → AW LC M_X6_spare (some (vI r), s0) 23 [some (vR (some 0)), some (vI x1), some (vI x2), some (vI x3), none, none] [] s0 := by
  intro x1 x2 x3 s0 r h
  unfold g_X6_spare_23 at h
  refine aw_iload_n dX6_spare_23 rfl rfl ?_
  refine aw_aload_n dX6_spare_24 rfl rfl ?_
  refine aw_getR (t := 1) dX6_spare_25 fk_X6_10 pC_0 rfl ?_
  refine aw_getI dX6_spare_28 fk_X6_136 pC_1 rfl ?_
  refine aw_icmp_ge (tgt := 90) dX6_spare_31 (by decide) (fun hc => ?_) (fun hc => ?_)
  · replace h := ip hc h
    exact aw_less (ls' := [none, none, some (vI x2), none, none, none]) (⟨rfl, trivial⟩) (t_X6_spare_90   x2 s0 _ h)
  · replace h := ic hc h
    refine aw_iconst dX6_spare_34 ⟨by decide, by decide⟩ ?_
    refine aw_iload_n dX6_spare_35 rfl rfl ?_
    refine aw_ishl dX6_spare_36 ?_
    refine aw_istore dX6_spare_37 (by decide) rfl (fun y1 e => ?_)
    replace h := sb_e h e
    clear e
    show AW _ _ _ 39 [some (vR (some 0)), some (vI x1), some (vI x2), some (vI x3), some (vI y1), none] _ _
    refine aw_aload_n dX6_spare_39 rfl rfl ?_
    refine aw_getI dX6_spare_40 fk_X6_126 pC_0 rfl ?_
    refine aw_if_eq (tgt := 58) dX6_spare_43 (by decide) (fun hc => ?_) (fun hc => ?_)
    · replace h := ip hc h
      refine aw_aload_n dX6_spare_58 rfl rfl ?_
      refine aw_getR (t := 22) dX6_spare_59 fk_X6_35 pC_0 rfl ?_
      refine aw_iload dX6_spare_62 rfl ?_
      refine aw_aload_n dX6_spare_64 rfl rfl ?_
      refine aw_getI dX6_spare_65 fk_X6_53 pC_0 rfl ?_
      obtain ⟨y2, hg1, h⟩ := bn_e h
      refine aw_V2i (M2 := M_X5_fewestLines) dX6_spare_68 lk_X6_154 mk_X5_fewestLines mv_X5_fewestLines ⟨by decide, by decide⟩ pC_22 ⟨_, _, rfl⟩ (Nat.le_of_ble_eq_true rfl) (c_X5_fewestLines  hg1) ?_
      exact (t_X6_spare_71 k23 hk23 x1 x2 x3 y1 y2 s0 _ h)
    · replace h := ic hc h
      refine aw_aload_n dX6_spare_46 rfl rfl ?_
      refine aw_getR (t := 22) dX6_spare_47 fk_X6_35 pC_0 rfl ?_
      refine aw_iload dX6_spare_50 rfl ?_
      obtain ⟨y3, hg2, h⟩ := bn_e h
      refine aw_V1i (M2 := M_X5_linesOfLeastMost) dX6_spare_52 lk_X6_151 mk_X5_linesOfLeastMost mv_X5_linesOfLeastMost ⟨by decide, by decide⟩ pC_22 ⟨_, _, rfl⟩ (Nat.le_of_ble_eq_true rfl) (c_X5_linesOfLeastMost  hg2) ?_
      refine aw_goto (tgt := 71) dX6_spare_55 (by decide) ?_
      exact (t_X6_spare_71 k23 hk23 x1 x2 x3 y1 y3 s0 _ h)
def f_X6_spare_23 : Nat → Int → Int → Int → SS → Option Int
  | 0 => fun _ _ _ _ => none
  | n + 1 => g_X6_spare_23 (f_X6_spare_23  n)
theorem s_X6_spare_23  : ∀ (n : Nat), ∀ (x1 : Int) (x2 : Int) (x3 : Int) (s0 : SS) (r : Int), f_X6_spare_23 n x1 x2 x3 s0 = some r → AW LC M_X6_spare (some (vI r), s0) 23 [some (vR (some 0)), some (vI x1), some (vI x2), some (vI x3), none, none] [] s0 := by
  intro n
  induction n with
  | zero =>
    intro x1 x2 x3 s0 r h
    cases h
  | succ n ih =>
    intro x1 x2 x3 s0 r h
    exact t_X6_spare_23 (f_X6_spare_23  n) ih x1 x2 x3 s0 r h
def f_X6_spare  (s0 : SS) : Option Int :=
  if (s0 0 8) = 0 then (
    some 0
  ) else (
    bn (f_X3_tell 17 0 0 s0) fun y1 =>
    f_X6_spare_23  FU y1 0 0 s0
  )
set_option maxHeartbeats 4000000 in
theorem t_X6_spare_0  : ∀ (s0 : SS) (r : Int), f_X6_spare s0 = some r → AW LC M_X6_spare (some (vI r), s0) 0 [some (vR (some 0)), none, none, none, none, none] [] s0 := by
  intro s0 r h
  unfold f_X6_spare at h
  refine aw_aload_n dX6_spare_0 rfl rfl ?_
  refine aw_getI dX6_spare_1 fk_X6_122 pC_0 rfl ?_
  refine aw_if_ne (tgt := 9) dX6_spare_4 (by decide) (fun hc => ?_) (fun hc => ?_)
  rotate_left
  · replace h := ip hc h
    refine aw_iconst dX6_spare_7 ⟨by decide, by decide⟩ ?_
    obtain rfl := Option.some.inj h
    exact aw_iret dX6_spare_8 rfl
  · replace h := ic hc h
    refine aw_aload_n dX6_spare_9 rfl rfl ?_
    refine aw_getR (t := 17) dX6_spare_10 fk_X6_28 pC_0 rfl ?_
    refine aw_iconst dX6_spare_13 ⟨by decide, by decide⟩ ?_
    refine aw_iconst dX6_spare_14 ⟨by decide, by decide⟩ ?_
    obtain ⟨y1, hg1, h⟩ := bn_e h
    refine aw_V2i (M2 := M_X3_tell) dX6_spare_15 lk_X6_112 mk_X3_tell mv_X3_tell ⟨by decide, by decide⟩ pC_17 ⟨_, _, rfl⟩ (Nat.le_of_ble_eq_true rfl) (c_X3_tell pC_17 hg1) ?_
    refine aw_istore_nA dX6_spare_18 rfl (by decide) rfl ?_
    show AW _ _ _ 19 [some (vR (some 0)), some (vI y1), none, none, none, none] _ _
    refine aw_iconst dX6_spare_19 ⟨by decide, by decide⟩ ?_
    refine aw_istore_nA dX6_spare_20 rfl (by decide) rfl ?_
    show AW _ _ _ 21 [some (vR (some 0)), some (vI y1), some (vI 0), none, none, none] _ _
    refine aw_iconst dX6_spare_21 ⟨by decide, by decide⟩ ?_
    refine aw_istore_nA dX6_spare_22 rfl (by decide) rfl ?_
    show AW _ _ _ 23 [some (vR (some 0)), some (vI y1), some (vI 0), some (vI 0), none, none] _ _
    exact (s_X6_spare_23   FU y1 0 0 s0 _ h)
theorem c_X6_spare {s0 : SS} {y : Int} (h : f_X6_spare s0 = some y) : CT LC M_X6_spare [vR (some 0)] s0 (some (vI y), s0) :=
  ct_of (n := 5) (by decide) (Nat.le_of_ble_eq_true rfl) (t_X6_spare_0  s0  _ h)
def g_X6_isForm_14 (z0 : Int) : Option Int :=
  gb z0 <|
  some z0
set_option maxHeartbeats 4000000 in
theorem t_X6_isForm_14  : ∀ (z0 : Int) (s0 : SS) (r : Int), g_X6_isForm_14 z0 = some r → AW LC M_X6_isForm (some (vI r), s0) 14 [none] [vI z0] s0 := by
  intro z0 s0 r h
  unfold g_X6_isForm_14 at h
  obtain ⟨hg1, h⟩ := gb_e h
  obtain rfl := Option.some.inj h
  exact aw_zret dX6_isForm_14 rfl hg1
def g_X6_isForm_13  : Option Int :=
  g_X6_isForm_14  0
set_option maxHeartbeats 4000000 in
theorem t_X6_isForm_13  : ∀ (s0 : SS) (r : Int), g_X6_isForm_13 = some r → AW LC M_X6_isForm (some (vI r), s0) 13 [none] [] s0 := by
  intro s0 r h
  unfold g_X6_isForm_13 at h
  refine aw_iconst dX6_isForm_13 ⟨by decide, by decide⟩ ?_
  exact (t_X6_isForm_14   0 s0 _ h)
def f_X6_isForm (x0 : Int) : Option Int :=
  if x0 < 0 then (
    g_X6_isForm_13  
  ) else (
    if 3 ≤ x0 then (
      g_X6_isForm_13  
    ) else (
      g_X6_isForm_14  1
    )
  )
set_option maxHeartbeats 4000000 in
theorem t_X6_isForm_0  : ∀ (x0 : Int) (s0 : SS) (r : Int), f_X6_isForm x0 = some r → AW LC M_X6_isForm (some (vI r), s0) 0 [some (vI x0)] [] s0 := by
  intro x0 s0 r h
  unfold f_X6_isForm at h
  refine aw_iload_n dX6_isForm_0 rfl rfl ?_
  refine aw_if_lt (tgt := 13) dX6_isForm_1 (by decide) (fun hc => ?_) (fun hc => ?_)
  · replace h := ip hc h
    exact aw_less (ls' := [none]) (trivial) (t_X6_isForm_13   s0 _ h)
  · replace h := ic hc h
    refine aw_iload_n dX6_isForm_4 rfl rfl ?_
    refine aw_iconst dX6_isForm_5 ⟨by decide, by decide⟩ ?_
    refine aw_icmp_ge (tgt := 13) dX6_isForm_6 (by decide) (fun hc => ?_) (fun hc => ?_)
    · replace h := ip hc h
      exact aw_less (ls' := [none]) (trivial) (t_X6_isForm_13   s0 _ h)
    · replace h := ic hc h
      refine aw_iconst dX6_isForm_9 ⟨by decide, by decide⟩ ?_
      refine aw_goto (tgt := 14) dX6_isForm_10 (by decide) ?_
      exact aw_less (ls' := [none]) (trivial) (t_X6_isForm_14   1 s0 _ h)
theorem c_X6_isForm {x0 : Int} {s0 : SS} {y : Int} (h : f_X6_isForm x0 = some y) : CT LC M_X6_isForm [vI x0] s0 (some (vI y), s0) :=
  ct_of (n := 0) (by decide) (Nat.le_of_ble_eq_true rfl) (t_X6_isForm_0 x0 s0  _ h)
def g_X4_renew_34  (s0 : SS) : Option SS :=
  some s0
set_option maxHeartbeats 4000000 in
theorem t_X4_renew_34  : ∀ (s0 : SS) (r : SS), g_X4_renew_34 s0 = some r → AW LC M_X4_renew (none, r) 34 [none, none, none, none] [] s0 := by
  intro s0 r h
  unfold g_X4_renew_34 at h
  obtain rfl := Option.some.inj h
  exact aw_vret dX4_renew_34 rfl
def g_X4_renew_12 (k12 : Nat → Int → SS → Option SS) (q : Nat) (x3 : Int) (s0 : SS) : Option SS :=
  if 60 ≤ x3 then (
    g_X4_renew_34  s0
  ) else (
    gx x3 60 <|
    sb (up s0 (q + 1) x3.toNat 0) fun s1 =>
    sb (wr (x3 + 1)) fun y1 =>
    k12 q y1 s1
  )
set_option maxHeartbeats 4000000 in
theorem t_X4_renew_12 (k12 : Nat → Int → SS → Option SS) (hk12 : ∀ (q : Nat) (x3 : Int) (s0 : SS) (hq : PL LC q 4) (r : SS), k12 q x3 s0 = some r → AW LC M_X4_renew (none, r) 12 [some (vR (some q)), none, none, some (vI x3)] [] s0) : ∀ (q : Nat) (x3 : Int) (s0 : SS) (hq : PL LC q 4) (r : SS), g_X4_renew_12 k12 q x3 s0 = some r → AW LC M_X4_renew (none, r) 12 [some (vR (some q)), none, none, some (vI x3)] [] s0 := by
  intro q x3 s0 hq r h
  unfold g_X4_renew_12 at h
  refine aw_iload_n dX4_renew_12 rfl rfl ?_
  refine aw_aload_n dX4_renew_13 rfl rfl ?_
  refine aw_getR dX4_renew_14 fk_X4_9 hq (st_r hq) ?_
  refine aw_alen dX4_renew_17 (st_a hq) (by decide) ⟨by decide, by decide⟩ ?_
  refine aw_icmp_ge (tgt := 34) dX4_renew_18 (by decide) (fun hc => ?_) (fun hc => ?_)
  · replace h := ip hc h
    exact aw_less (ls' := [none, none, none, none]) (trivial) (t_X4_renew_34   s0 _ h)
  · replace h := ic hc h
    refine aw_aload_n dX4_renew_21 rfl rfl ?_
    refine aw_getR dX4_renew_22 fk_X4_9 hq (st_r hq) ?_
    refine aw_iload_n dX4_renew_25 rfl rfl ?_
    refine aw_iconst dX4_renew_26 ⟨by decide, by decide⟩ ?_
    obtain ⟨hg1, h⟩ := gx_e h
    refine aw_iast dX4_renew_27 (st_a hq) hg1 (fun s1 e => ?_)
    replace h := sb_e h e
    clear e
    refine aw_iinc dX4_renew_28 rfl (by decide) rfl (fun y1 e => ?_)
    replace h := sb_e h e
    clear e
    show AW _ _ _ 31 [some (vR (some q)), none, none, some (vI y1)] _ _
    refine aw_goto (tgt := 12) dX4_renew_31 (by decide) ?_
    exact (hk12 q y1 s1 hq _ h)
def f_X4_renew_12 : Nat → Nat → Int → SS → Option SS
  | 0 => fun _ _ _ => none
  | n + 1 => g_X4_renew_12 (f_X4_renew_12  n)
theorem s_X4_renew_12  : ∀ (n : Nat), ∀ (q : Nat) (x3 : Int) (s0 : SS) (hq : PL LC q 4) (r : SS), f_X4_renew_12 n q x3 s0 = some r → AW LC M_X4_renew (none, r) 12 [some (vR (some q)), none, none, some (vI x3)] [] s0 := by
  intro n
  induction n with
  | zero =>
    intro q x3 s0 hq r h
    cases h
  | succ n ih =>
    intro q x3 s0 hq r h
    exact t_X4_renew_12 (f_X4_renew_12  n) ih q x3 s0 hq r h
def f_X4_renew (q : Nat) (x1 : Int) (x2 : Int) (s0 : SS) : Option SS :=
  sb (up s0 q 1 x1) fun s1 =>
  sb (up s1 q 2 x2) fun s2 =>
  f_X4_renew_12  FU q 0 s2
set_option maxHeartbeats 4000000 in
theorem t_X4_renew_0  : ∀ (q : Nat) (x1 : Int) (x2 : Int) (s0 : SS) (hq : PL LC q 4) (r : SS), f_X4_renew q x1 x2 s0 = some r → AW LC M_X4_renew (none, r) 0 [some (vR (some q)), some (vI x1), some (vI x2), none] [] s0 := by
  intro q x1 x2 s0 hq r h
  unfold f_X4_renew at h
  refine aw_aload_n dX4_renew_0 rfl rfl ?_
  refine aw_iload_n dX4_renew_1 rfl rfl ?_
  refine aw_put dX4_renew_2 fk_X4_15 hq (st_n hq (by decide)) ft_4_1 (nar_int _) (fun s1 e => ?_)
  replace h := sb_e h e
  clear e
  refine aw_aload_n dX4_renew_5 rfl rfl ?_
  refine aw_iload_n dX4_renew_6 rfl rfl ?_
  refine aw_put dX4_renew_7 fk_X4_19 hq (st_n hq (by decide)) ft_4_2 (nar_int _) (fun s2 e => ?_)
  replace h := sb_e h e
  clear e
  refine aw_iconst dX4_renew_10 ⟨by decide, by decide⟩ ?_
  refine aw_istore_nA dX4_renew_11 rfl (by decide) rfl ?_
  show AW _ _ _ 12 [some (vR (some q)), some (vI x1), some (vI x2), some (vI 0)] _ _
  exact aw_less (ls' := [some (vR (some q)), none, none, some (vI 0)]) (⟨rfl, ⟨rfl, trivial⟩⟩) (s_X4_renew_12   FU q 0 s2 hq _ h)
theorem c_X4_renew {q : Nat} {x1 : Int} {x2 : Int} {s0 : SS} {s1 : SS} (hq : PL LC q 4) (h : f_X4_renew q x1 x2 s0 = some s1) : CT LC M_X4_renew [vR (some q), vI x1, vI x2] s0 (none, s1) :=
  ct_of (n := 1) (by decide) (Nat.le_of_ble_eq_true rfl) (t_X4_renew_0 q x1 x2 s0 hq _ h)
def g_X6_sheet_25  (s0 : SS) : Option (Int × SS) :=
  some ((-2), s0)
set_option maxHeartbeats 4000000 in
theorem t_X6_sheet_25  : ∀ (s0 : SS) (r : (Int × SS)), g_X6_sheet_25 s0 = some r → AW LC M_X6_sheet (some (vI r.1), r.2) 25 [none, none, none, none, none] [] s0 := by
  intro s0 r h
  unfold g_X6_sheet_25 at h
  refine aw_bipush dX6_sheet_25 ⟨by decide, by decide⟩ (by decide) ?_
  obtain rfl := Option.some.inj h
  exact aw_iret dX6_sheet_27 rfl
def f_X6_sheet (x1 : Int) (x2 : Int) (x3 : Int) (s0 : SS) : Option (Int × SS) :=
  bn (f_X6_sheetOf x1 s0) fun y1 =>
  ob y1 (
    g_X6_sheet_25  s0
  ) fun w1 =>
  gp w1 <|
  bn (f_X6_isForm x2) fun y2 =>
  if y2 = 0 then (
    g_X6_sheet_25  s0
  ) else (
    if x3 ≤ 60 then (
      if 0 ≤ x3 then (
        bn (f_X4_renew w1 x2 x3 s0) fun s1 =>
        some (x3, s1)
      ) else (
        cb (f_X6_found 5 s0) fun y3 s2 =>
        some (y3, s2)
      )
    ) else (
      g_X6_sheet_25  s0
    )
  )
set_option maxHeartbeats 4000000 in
theorem t_X6_sheet_0  : ∀ (x1 : Int) (x2 : Int) (x3 : Int) (s0 : SS) (r : (Int × SS)), f_X6_sheet x1 x2 x3 s0 = some r → AW LC M_X6_sheet (some (vI r.1), r.2) 0 [some (vR (some 0)), some (vI x1), some (vI x2), some (vI x3), none] [] s0 := by
  intro x1 x2 x3 s0 r h
  unfold f_X6_sheet at h
  refine aw_aload_n dX6_sheet_0 rfl rfl ?_
  refine aw_iload_n dX6_sheet_1 rfl rfl ?_
  obtain ⟨y1, hg1, h⟩ := bn_e h
  refine aw_V1r (M2 := M_X6_sheetOf) dX6_sheet_2 lk_X6_76 mk_X6_sheetOf mv_X6_sheetOf ⟨by decide, by decide⟩ pC_0 ⟨_, _, rfl⟩ (Nat.le_of_ble_eq_true rfl) (c_X6_sheetOf  hg1) ?_
  refine aw_astore dX6_sheet_5 (by decide) rfl ?_
  show AW _ _ _ 7 [some (vR (some 0)), some (vI x1), some (vI x2), some (vI x3), some (vR y1)] _ _
  refine aw_aload dX6_sheet_7 rfl ?_
  refine aw_ifnull (tgt := 25) dX6_sheet_9 (by decide) (fun e => ?_) (fun w1 e => ?_)
  · subst e
    replace h := ob_n h
    exact aw_less (ls' := [none, none, none, none, none]) (trivial) (t_X6_sheet_25   s0 _ h)
  · subst e
    replace h := ob_s h
    obtain ⟨hg2, h⟩ := gp_e h
    refine aw_iload_n dX6_sheet_12 rfl rfl ?_
    obtain ⟨y2, hg3, h⟩ := bn_e h
    refine aw_S1i (M2 := M_X6_isForm) dX6_sheet_13 lk_X6_157 mk_X6_isForm ms_X6_isForm ⟨by decide, by decide⟩ (Nat.le_of_ble_eq_true rfl) (c_X6_isForm  hg3) ?_
    refine aw_if_eq (tgt := 25) dX6_sheet_16 (by decide) (fun hc => ?_) (fun hc => ?_)
    · replace h := ip hc h
      exact aw_less (ls' := [none, none, none, none, none]) (trivial) (t_X6_sheet_25   s0 _ h)
    · replace h := ic hc h
      refine aw_iload_n dX6_sheet_19 rfl rfl ?_
      refine aw_bipush dX6_sheet_20 ⟨by decide, by decide⟩ (by decide) ?_
      refine aw_icmp_le (tgt := 28) dX6_sheet_22 (by decide) (fun hc => ?_) (fun hc => ?_)
      · replace h := ip hc h
        refine aw_iload_n dX6_sheet_28 rfl rfl ?_
        refine aw_if_ge (tgt := 38) dX6_sheet_29 (by decide) (fun hc => ?_) (fun hc => ?_)
        · replace h := ip hc h
          refine aw_aload dX6_sheet_38 rfl ?_
          refine aw_iload_n dX6_sheet_40 rfl rfl ?_
          refine aw_iload_n dX6_sheet_41 rfl rfl ?_
          obtain ⟨s1, hg4, h⟩ := bn_e h
          refine aw_V2v (M2 := M_X4_renew) dX6_sheet_42 lk_X6_160 mk_X4_renew mv_X4_renew ⟨by decide, by decide⟩ hg2 ⟨_, _, rfl⟩ (Nat.le_of_ble_eq_true rfl) (c_X4_renew hg2 hg4) ?_
          refine aw_iload_n dX6_sheet_45 rfl rfl ?_
          obtain rfl := Option.some.inj h
          exact aw_iret dX6_sheet_46 rfl
        · replace h := ic hc h
          refine aw_aload_n dX6_sheet_32 rfl rfl ?_
          refine aw_iconst dX6_sheet_33 ⟨by decide, by decide⟩ ?_
          obtain ⟨y3, s2, hg5, h⟩ := cb_e h
          refine aw_V1i (M2 := M_X6_found) dX6_sheet_34 lk_X6_84 mk_X6_found mv_X6_found ⟨by decide, by decide⟩ pC_0 ⟨_, _, rfl⟩ (Nat.le_of_ble_eq_true rfl) (c_X6_found  hg5) ?_
          obtain rfl := Option.some.inj h
          exact aw_iret dX6_sheet_37 rfl
      · replace h := ic hc h
        exact aw_less (ls' := [none, none, none, none, none]) (trivial) (t_X6_sheet_25   s0 _ h)
theorem c_X6_sheet {x1 : Int} {x2 : Int} {x3 : Int} {s0 : SS} {y : Int} {s1 : SS} (h : f_X6_sheet x1 x2 x3 s0 = some (y, s1)) : CT LC M_X6_sheet [vR (some 0), vI x1, vI x2, vI x3] s0 (some (vI y), s1) :=
  ct_of (n := 1) (by decide) (Nat.le_of_ble_eq_true rfl) (t_X6_sheet_0 x1 x2 x3 s0  _ h)
def f_X6_lose (x1 : Int) (s0 : SS) : Option (Int × SS) :=
  bn (f_X6_sheetOf x1 s0) fun y1 =>
  ob y1 (
    some ((-2), s0)
  ) fun w1 =>
  gp w1 <|
  bn (f_X4_isLost w1 s0) fun y2 =>
  if y2 = 0 then (
    sb (s0 w1 2) fun y3 =>
    bn (f_X4_renew w1 (-1) 0 s0) fun s1 =>
    some (y3, s1)
  ) else (
    cb (f_X6_found 1 s0) fun y4 s2 =>
    some (y4, s2)
  )
set_option maxHeartbeats 4000000 in
theorem t_X6_lose_0  : ∀ (x1 : Int) (s0 : SS) (r : (Int × SS)), f_X6_lose x1 s0 = some r → AW LC M_X6_lose (some (vI r.1), r.2) 0 [some (vR (some 0)), some (vI x1), none, none] [] s0 := by
  intro x1 s0 r h
  unfold f_X6_lose at h
  refine aw_aload_n dX6_lose_0 rfl rfl ?_
  refine aw_iload_n dX6_lose_1 rfl rfl ?_
  obtain ⟨y1, hg1, h⟩ := bn_e h
  refine aw_V1r (M2 := M_X6_sheetOf) dX6_lose_2 lk_X6_76 mk_X6_sheetOf mv_X6_sheetOf ⟨by decide, by decide⟩ pC_0 ⟨_, _, rfl⟩ (Nat.le_of_ble_eq_true rfl) (c_X6_sheetOf  hg1) ?_
  refine aw_astore_n dX6_lose_5 rfl (by decide) rfl ?_
  show AW _ _ _ 6 [some (vR (some 0)), some (vI x1), some (vR y1), none] _ _
  refine aw_aload_n dX6_lose_6 rfl rfl ?_
  refine aw_ifnonnull (tgt := 13) dX6_lose_7 (by decide) (fun w1 e => ?_) (fun e => ?_)
  rotate_left
  · subst e
    replace h := ob_n h
    refine aw_bipush dX6_lose_10 ⟨by decide, by decide⟩ (by decide) ?_
    obtain rfl := Option.some.inj h
    exact aw_iret dX6_lose_12 rfl
  · subst e
    replace h := ob_s h
    obtain ⟨hg2, h⟩ := gp_e h
    refine aw_aload_n dX6_lose_13 rfl rfl ?_
    obtain ⟨y2, hg3, h⟩ := bn_e h
    refine aw_V0i (M2 := M_X4_isLost) dX6_lose_14 lk_X6_80 mk_X4_isLost mv_X4_isLost ⟨by decide, by decide⟩ hg2 ⟨_, _, rfl⟩ (Nat.le_of_ble_eq_true rfl) (c_X4_isLost hg2 hg3) ?_
    refine aw_if_eq (tgt := 26) dX6_lose_17 (by decide) (fun hc => ?_) (fun hc => ?_)
    · replace h := ip hc h
      refine aw_aload_n dX6_lose_26 rfl rfl ?_
      refine aw_getI dX6_lose_27 fk_X6_88 hg2 (st_n hg2 (by decide)) ?_
      refine aw_istore_n dX6_lose_30 rfl (by decide) rfl (fun y3 e => ?_)
      replace h := sb_e h e
      clear e
      show AW _ _ _ 31 [some (vR (some 0)), some (vI x1), some (vR (some w1)), some (vI y3)] _ _
      refine aw_aload_n dX6_lose_31 rfl rfl ?_
      refine aw_iconst dX6_lose_32 ⟨by decide, by decide⟩ ?_
      refine aw_iconst dX6_lose_33 ⟨by decide, by decide⟩ ?_
      obtain ⟨s1, hg4, h⟩ := bn_e h
      refine aw_V2v (M2 := M_X4_renew) dX6_lose_34 lk_X6_160 mk_X4_renew mv_X4_renew ⟨by decide, by decide⟩ hg2 ⟨_, _, rfl⟩ (Nat.le_of_ble_eq_true rfl) (c_X4_renew hg2 hg4) ?_
      refine aw_iload_n dX6_lose_37 rfl rfl ?_
      obtain rfl := Option.some.inj h
      exact aw_iret dX6_lose_38 rfl
    · replace h := ic hc h
      refine aw_aload_n dX6_lose_20 rfl rfl ?_
      refine aw_iconst dX6_lose_21 ⟨by decide, by decide⟩ ?_
      obtain ⟨y4, s2, hg5, h⟩ := cb_e h
      refine aw_V1i (M2 := M_X6_found) dX6_lose_22 lk_X6_84 mk_X6_found mv_X6_found ⟨by decide, by decide⟩ pC_0 ⟨_, _, rfl⟩ (Nat.le_of_ble_eq_true rfl) (c_X6_found  hg5) ?_
      obtain rfl := Option.some.inj h
      exact aw_iret dX6_lose_25 rfl
theorem c_X6_lose {x1 : Int} {s0 : SS} {y : Int} {s1 : SS} (h : f_X6_lose x1 s0 = some (y, s1)) : CT LC M_X6_lose [vR (some 0), vI x1] s0 (some (vI y), s1) :=
  ct_of (n := 2) (by decide) (Nat.le_of_ble_eq_true rfl) (t_X6_lose_0 x1 s0  _ h)
def g_X4_hasItems_31 (z0 : Int) (s0 : SS) : Option Int :=
  gb z0 <|
  some z0
set_option maxHeartbeats 4000000 in
theorem t_X4_hasItems_31  : ∀ (z0 : Int) (s0 : SS) (r : Int), g_X4_hasItems_31 z0 s0 = some r → AW LC M_X4_hasItems (some (vI r), s0) 31 [none, none, none] [vI z0] s0 := by
  intro z0 s0 r h
  unfold g_X4_hasItems_31 at h
  obtain ⟨hg1, h⟩ := gb_e h
  obtain rfl := Option.some.inj h
  exact aw_zret dX4_hasItems_31 rfl hg1
def g_X4_hasItems_30  (s0 : SS) : Option Int :=
  g_X4_hasItems_31  0 s0
set_option maxHeartbeats 4000000 in
theorem t_X4_hasItems_30  : ∀ (s0 : SS) (r : Int), g_X4_hasItems_30 s0 = some r → AW LC M_X4_hasItems (some (vI r), s0) 30 [none, none, none] [] s0 := by
  intro s0 r h
  unfold g_X4_hasItems_30 at h
  refine aw_iconst dX4_hasItems_30 ⟨by decide, by decide⟩ ?_
  exact (t_X4_hasItems_31   0 s0 _ h)
def f_X4_hasItems (q : Nat) (x1 : Int) (x2 : Int) (s0 : SS) : Option Int :=
  if x1 < 0 then (
    g_X4_hasItems_30  s0
  ) else (
    if x2 < 0 then (
      g_X4_hasItems_30  s0
    ) else (
      if (s0 q 2) < x1 then (
        g_X4_hasItems_30  s0
      ) else (
        if (wr ((s0 q 2) - x1)) < x2 then (
          g_X4_hasItems_30  s0
        ) else (
          g_X4_hasItems_31  1 s0
        )
      )
    )
  )
set_option maxHeartbeats 4000000 in
theorem t_X4_hasItems_0  : ∀ (q : Nat) (x1 : Int) (x2 : Int) (s0 : SS) (hq : PL LC q 4) (r : Int), f_X4_hasItems q x1 x2 s0 = some r → AW LC M_X4_hasItems (some (vI r), s0) 0 [some (vR (some q)), some (vI x1), some (vI x2)] [] s0 := by
  intro q x1 x2 s0 hq r h
  unfold f_X4_hasItems at h
  refine aw_iload_n dX4_hasItems_0 rfl rfl ?_
  refine aw_if_lt (tgt := 30) dX4_hasItems_1 (by decide) (fun hc => ?_) (fun hc => ?_)
  · replace h := ip hc h
    exact aw_less (ls' := [none, none, none]) (trivial) (t_X4_hasItems_30   s0 _ h)
  · replace h := ic hc h
    refine aw_iload_n dX4_hasItems_4 rfl rfl ?_
    refine aw_if_lt (tgt := 30) dX4_hasItems_5 (by decide) (fun hc => ?_) (fun hc => ?_)
    · replace h := ip hc h
      exact aw_less (ls' := [none, none, none]) (trivial) (t_X4_hasItems_30   s0 _ h)
    · replace h := ic hc h
      refine aw_iload_n dX4_hasItems_8 rfl rfl ?_
      refine aw_aload_n dX4_hasItems_9 rfl rfl ?_
      refine aw_getI dX4_hasItems_10 fk_X4_19 hq (st_n hq (by decide)) ?_
      refine aw_icmp_gt (tgt := 30) dX4_hasItems_13 (by decide) (fun hc => ?_) (fun hc => ?_)
      · replace h := ip hc h
        exact aw_less (ls' := [none, none, none]) (trivial) (t_X4_hasItems_30   s0 _ h)
      · replace h := ic hc h
        refine aw_iload_n dX4_hasItems_16 rfl rfl ?_
        refine aw_aload_n dX4_hasItems_17 rfl rfl ?_
        refine aw_getI dX4_hasItems_18 fk_X4_19 hq (st_n hq (by decide)) ?_
        refine aw_iload_n dX4_hasItems_21 rfl rfl ?_
        refine aw_isub dX4_hasItems_22 ?_
        refine aw_icmp_gt (tgt := 30) dX4_hasItems_23 (by decide) (fun hc => ?_) (fun hc => ?_)
        · replace h := ip hc h
          exact aw_less (ls' := [none, none, none]) (trivial) (t_X4_hasItems_30   s0 _ h)
        · replace h := ic hc h
          refine aw_iconst dX4_hasItems_26 ⟨by decide, by decide⟩ ?_
          refine aw_goto (tgt := 31) dX4_hasItems_27 (by decide) ?_
          exact aw_less (ls' := [none, none, none]) (trivial) (t_X4_hasItems_31   1 s0 _ h)
theorem c_X4_hasItems {q : Nat} {x1 : Int} {x2 : Int} {s0 : SS} {y : Int} (hq : PL LC q 4) (h : f_X4_hasItems q x1 x2 s0 = some y) : CT LC M_X4_hasItems [vR (some q), vI x1, vI x2] s0 (some (vI y), s0) :=
  ct_of (n := 0) (by decide) (Nat.le_of_ble_eq_true rfl) (t_X4_hasItems_0 q x1 x2 s0 hq _ h)
def g_X6_wrongItem_33 (z0 : Int) (s0 : SS) : Option Int :=
  some z0
set_option maxHeartbeats 4000000 in
theorem t_X6_wrongItem_33  : ∀ (z0 : Int) (s0 : SS) (r : Int), g_X6_wrongItem_33 z0 s0 = some r → AW LC M_X6_wrongItem (some (vI r), s0) 33 [none, none, none] [vI z0] s0 := by
  intro z0 s0 r h
  unfold g_X6_wrongItem_33 at h
  obtain rfl := Option.some.inj h
  exact aw_iret dX6_wrongItem_33 rfl
def f_X6_wrongItem (q0 : Nat) (x1 : Int) (x2 : Int) (s0 : SS) : Option Int :=
  bn (f_X4_isLost q0 s0) fun y1 =>
  if y1 = 0 then (
    if (s0 q0 1) = x1 then (
      bn (f_X4_hasItems q0 x2 1 s0) fun y2 =>
      if y2 = 0 then (
        g_X6_wrongItem_33  2 s0
      ) else (
        g_X6_wrongItem_33  0 s0
      )
    ) else (
      some 3
    )
  ) else (
    some 1
  )
set_option maxHeartbeats 4000000 in
theorem t_X6_wrongItem_0  : ∀ (q0 : Nat) (x1 : Int) (x2 : Int) (s0 : SS) (hq0 : PL LC q0 4) (r : Int), f_X6_wrongItem q0 x1 x2 s0 = some r → AW LC M_X6_wrongItem (some (vI r), s0) 0 [some (vR (some q0)), some (vI x1), some (vI x2)] [] s0 := by
  intro q0 x1 x2 s0 hq0 r h
  unfold f_X6_wrongItem at h
  refine aw_aload_n dX6_wrongItem_0 rfl rfl ?_
  obtain ⟨y1, hg1, h⟩ := bn_e h
  refine aw_V0i (M2 := M_X4_isLost) dX6_wrongItem_1 lk_X6_80 mk_X4_isLost mv_X4_isLost ⟨by decide, by decide⟩ hq0 ⟨_, _, rfl⟩ (Nat.le_of_ble_eq_true rfl) (c_X4_isLost hq0 hg1) ?_
  refine aw_if_eq (tgt := 9) dX6_wrongItem_4 (by decide) (fun hc => ?_) (fun hc => ?_)
  · replace h := ip hc h
    refine aw_aload_n dX6_wrongItem_9 rfl rfl ?_
    refine aw_getI dX6_wrongItem_10 fk_X6_172 hq0 (st_n hq0 (by decide)) ?_
    refine aw_iload_n dX6_wrongItem_13 rfl rfl ?_
    refine aw_icmp_eq (tgt := 19) dX6_wrongItem_14 (by decide) (fun hc => ?_) (fun hc => ?_)
    · replace h := ip hc h
      refine aw_aload_n dX6_wrongItem_19 rfl rfl ?_
      refine aw_iload_n dX6_wrongItem_20 rfl rfl ?_
      refine aw_iconst dX6_wrongItem_21 ⟨by decide, by decide⟩ ?_
      obtain ⟨y2, hg2, h⟩ := bn_e h
      refine aw_V2i (M2 := M_X4_hasItems) dX6_wrongItem_22 lk_X6_175 mk_X4_hasItems mv_X4_hasItems ⟨by decide, by decide⟩ hq0 ⟨_, _, rfl⟩ (Nat.le_of_ble_eq_true rfl) (c_X4_hasItems hq0 hg2) ?_
      refine aw_if_eq (tgt := 32) dX6_wrongItem_25 (by decide) (fun hc => ?_) (fun hc => ?_)
      · replace h := ip hc h
        refine aw_iconst dX6_wrongItem_32 ⟨by decide, by decide⟩ ?_
        exact aw_less (ls' := [none, none, none]) (trivial) (t_X6_wrongItem_33   2 s0 _ h)
      · replace h := ic hc h
        refine aw_iconst dX6_wrongItem_28 ⟨by decide, by decide⟩ ?_
        refine aw_goto (tgt := 33) dX6_wrongItem_29 (by decide) ?_
        exact aw_less (ls' := [none, none, none]) (trivial) (t_X6_wrongItem_33   0 s0 _ h)
    · replace h := ic hc h
      refine aw_iconst dX6_wrongItem_17 ⟨by decide, by decide⟩ ?_
      obtain rfl := Option.some.inj h
      exact aw_iret dX6_wrongItem_18 rfl
  · replace h := ic hc h
    refine aw_iconst dX6_wrongItem_7 ⟨by decide, by decide⟩ ?_
    obtain rfl := Option.some.inj h
    exact aw_iret dX6_wrongItem_8 rfl
theorem c_X6_wrongItem {q0 : Nat} {x1 : Int} {x2 : Int} {s0 : SS} {y : Int} (hq0 : PL LC q0 4) (h : f_X6_wrongItem q0 x1 x2 s0 = some y) : CT LC M_X6_wrongItem [vR (some q0), vI x1, vI x2] s0 (some (vI y), s0) :=
  ct_of (n := 0) (by decide) (Nat.le_of_ble_eq_true rfl) (t_X6_wrongItem_0 q0 x1 x2 s0 hq0 _ h)
def g_X4_store_21  (s0 : SS) : Option SS :=
  some s0
set_option maxHeartbeats 4000000 in
theorem t_X4_store_21  : ∀ (s0 : SS) (r : SS), g_X4_store_21 s0 = some r → AW LC M_X4_store (none, r) 21 [none, none, none] [] s0 := by
  intro s0 r h
  unfold g_X4_store_21 at h
  obtain rfl := Option.some.inj h
  exact aw_vret dX4_store_21 rfl
def g_X4_store_66  (s0 : SS) : Option SS :=
  some s0
set_option maxHeartbeats 4000000 in
theorem t_X4_store_66  : ∀ (s0 : SS) (r : SS), g_X4_store_66 s0 = some r → AW LC M_X4_store (none, r) 66 [none, none, none] [] s0 := by
  intro s0 r h
  unfold g_X4_store_66 at h
  obtain rfl := Option.some.inj h
  exact aw_vret dX4_store_66 rfl
def f_X4_store (q : Nat) (x1 : Int) (x2 : Int) (s0 : SS) : Option SS :=
  if x1 < 0 then (
    g_X4_store_21  s0
  ) else (
    if (s0 q 2) ≤ x1 then (
      g_X4_store_21  s0
    ) else (
      if x1 < 60 then (
        if (s0 q 1) = 0 then (
          gx x1 60 <|
          sb (up s0 (q + 1) x1.toNat (i_b x2)) fun s1 =>
          g_X4_store_66  s1
        ) else (
          if (s0 q 1) = 1 then (
            gx x1 60 <|
            sb (up s0 (q + 1) x1.toNat (i_s x2)) fun s2 =>
            g_X4_store_66  s2
          ) else (
            gx x1 60 <|
            sb (up s0 (q + 1) x1.toNat x2) fun s3 =>
            g_X4_store_66  s3
          )
        )
      ) else (
        g_X4_store_21  s0
      )
    )
  )
set_option maxHeartbeats 4000000 in
theorem t_X4_store_0  : ∀ (q : Nat) (x1 : Int) (x2 : Int) (s0 : SS) (hq : PL LC q 4) (r : SS), f_X4_store q x1 x2 s0 = some r → AW LC M_X4_store (none, r) 0 [some (vR (some q)), some (vI x1), some (vI x2)] [] s0 := by
  intro q x1 x2 s0 hq r h
  unfold f_X4_store at h
  refine aw_iload_n dX4_store_0 rfl rfl ?_
  refine aw_if_lt (tgt := 21) dX4_store_1 (by decide) (fun hc => ?_) (fun hc => ?_)
  · replace h := ip hc h
    exact aw_less (ls' := [none, none, none]) (trivial) (t_X4_store_21   s0 _ h)
  · replace h := ic hc h
    refine aw_iload_n dX4_store_4 rfl rfl ?_
    refine aw_aload_n dX4_store_5 rfl rfl ?_
    refine aw_getI dX4_store_6 fk_X4_19 hq (st_n hq (by decide)) ?_
    refine aw_icmp_ge (tgt := 21) dX4_store_9 (by decide) (fun hc => ?_) (fun hc => ?_)
    · replace h := ip hc h
      exact aw_less (ls' := [none, none, none]) (trivial) (t_X4_store_21   s0 _ h)
    · replace h := ic hc h
      refine aw_iload_n dX4_store_12 rfl rfl ?_
      refine aw_aload_n dX4_store_13 rfl rfl ?_
      refine aw_getR dX4_store_14 fk_X4_9 hq (st_r hq) ?_
      refine aw_alen dX4_store_17 (st_a hq) (by decide) ⟨by decide, by decide⟩ ?_
      refine aw_icmp_lt (tgt := 22) dX4_store_18 (by decide) (fun hc => ?_) (fun hc => ?_)
      · replace h := ip hc h
        refine aw_aload_n dX4_store_22 rfl rfl ?_
        refine aw_getI dX4_store_23 fk_X4_15 hq (st_n hq (by decide)) ?_
        refine aw_if_ne (tgt := 40) dX4_store_26 (by decide) (fun hc => ?_) (fun hc => ?_)
        rotate_left
        · replace h := ip hc h
          refine aw_aload_n dX4_store_29 rfl rfl ?_
          refine aw_getR dX4_store_30 fk_X4_9 hq (st_r hq) ?_
          refine aw_iload_n dX4_store_33 rfl rfl ?_
          refine aw_iload_n dX4_store_34 rfl rfl ?_
          refine aw_i2b dX4_store_35 ?_
          obtain ⟨hg1, h⟩ := gx_e h
          refine aw_iast dX4_store_36 (st_a hq) hg1 (fun s1 e => ?_)
          replace h := sb_e h e
          clear e
          refine aw_goto (tgt := 66) dX4_store_37 (by decide) ?_
          exact aw_less (ls' := [none, none, none]) (trivial) (t_X4_store_66   s1 _ h)
        · replace h := ic hc h
          refine aw_aload_n dX4_store_40 rfl rfl ?_
          refine aw_getI dX4_store_41 fk_X4_15 hq (st_n hq (by decide)) ?_
          refine aw_iconst dX4_store_44 ⟨by decide, by decide⟩ ?_
          refine aw_icmp_ne (tgt := 59) dX4_store_45 (by decide) (fun hc => ?_) (fun hc => ?_)
          rotate_left
          · replace h := ip hc h
            refine aw_aload_n dX4_store_48 rfl rfl ?_
            refine aw_getR dX4_store_49 fk_X4_9 hq (st_r hq) ?_
            refine aw_iload_n dX4_store_52 rfl rfl ?_
            refine aw_iload_n dX4_store_53 rfl rfl ?_
            refine aw_i2s dX4_store_54 ?_
            obtain ⟨hg2, h⟩ := gx_e h
            refine aw_iast dX4_store_55 (st_a hq) hg2 (fun s2 e => ?_)
            replace h := sb_e h e
            clear e
            refine aw_goto (tgt := 66) dX4_store_56 (by decide) ?_
            exact aw_less (ls' := [none, none, none]) (trivial) (t_X4_store_66   s2 _ h)
          · replace h := ic hc h
            refine aw_aload_n dX4_store_59 rfl rfl ?_
            refine aw_getR dX4_store_60 fk_X4_9 hq (st_r hq) ?_
            refine aw_iload_n dX4_store_63 rfl rfl ?_
            refine aw_iload_n dX4_store_64 rfl rfl ?_
            obtain ⟨hg3, h⟩ := gx_e h
            refine aw_iast dX4_store_65 (st_a hq) hg3 (fun s3 e => ?_)
            replace h := sb_e h e
            clear e
            exact aw_less (ls' := [none, none, none]) (trivial) (t_X4_store_66   s3 _ h)
      · replace h := ic hc h
        exact aw_less (ls' := [none, none, none]) (trivial) (t_X4_store_21   s0 _ h)
theorem c_X4_store {q : Nat} {x1 : Int} {x2 : Int} {s0 : SS} {s1 : SS} (hq : PL LC q 4) (h : f_X4_store q x1 x2 s0 = some s1) : CT LC M_X4_store [vR (some q), vI x1, vI x2] s0 (none, s1) :=
  ct_of (n := 0) (by decide) (Nat.le_of_ble_eq_true rfl) (t_X4_store_0 q x1 x2 s0 hq _ h)
def g_X6_put_19  (s0 : SS) : Option (Int × SS) :=
  some ((-2), s0)
set_option maxHeartbeats 4000000 in
theorem t_X6_put_19  : ∀ (s0 : SS) (r : (Int × SS)), g_X6_put_19 s0 = some r → AW LC M_X6_put (some (vI r.1), r.2) 19 [none, none, none, none, none, none, none] [] s0 := by
  intro s0 r h
  unfold g_X6_put_19 at h
  refine aw_bipush dX6_put_19 ⟨by decide, by decide⟩ (by decide) ?_
  obtain rfl := Option.some.inj h
  exact aw_iret dX6_put_21 rfl
def f_X6_put (x1 : Int) (x2 : Int) (x3 : Int) (x4 : Int) (s0 : SS) : Option (Int × SS) :=
  bn (f_X6_sheetOf x1 s0) fun y1 =>
  ob y1 (
    g_X6_put_19  s0
  ) fun w1 =>
  gp w1 <|
  bn (f_X6_isForm x2) fun y2 =>
  if y2 = 0 then (
    g_X6_put_19  s0
  ) else (
    bn (f_X6_wrongItem w1 x2 x3 s0) fun y3 =>
    if y3 = 0 then (
      bn (f_X4_store w1 x3 x4 s0) fun s1 =>
      some (1, s1)
    ) else (
      cb (f_X6_found y3 s0) fun y4 s2 =>
      some (y4, s2)
    )
  )
set_option maxHeartbeats 4000000 in
theorem t_X6_put_0  : ∀ (x1 : Int) (x2 : Int) (x3 : Int) (x4 : Int) (s0 : SS) (r : (Int × SS)), f_X6_put x1 x2 x3 x4 s0 = some r → AW LC M_X6_put (some (vI r.1), r.2) 0 [some (vR (some 0)), some (vI x1), some (vI x2), some (vI x3), some (vI x4), none, none] [] s0 := by
  intro x1 x2 x3 x4 s0 r h
  unfold f_X6_put at h
  refine aw_aload_n dX6_put_0 rfl rfl ?_
  refine aw_iload_n dX6_put_1 rfl rfl ?_
  obtain ⟨y1, hg1, h⟩ := bn_e h
  refine aw_V1r (M2 := M_X6_sheetOf) dX6_put_2 lk_X6_76 mk_X6_sheetOf mv_X6_sheetOf ⟨by decide, by decide⟩ pC_0 ⟨_, _, rfl⟩ (Nat.le_of_ble_eq_true rfl) (c_X6_sheetOf  hg1) ?_
  refine aw_astore dX6_put_5 (by decide) rfl ?_
  show AW _ _ _ 7 [some (vR (some 0)), some (vI x1), some (vI x2), some (vI x3), some (vI x4), some (vR y1), none] _ _
  refine aw_aload dX6_put_7 rfl ?_
  refine aw_ifnull (tgt := 19) dX6_put_9 (by decide) (fun e => ?_) (fun w1 e => ?_)
  · subst e
    replace h := ob_n h
    exact aw_less (ls' := [none, none, none, none, none, none, none]) (trivial) (t_X6_put_19   s0 _ h)
  · subst e
    replace h := ob_s h
    obtain ⟨hg2, h⟩ := gp_e h
    refine aw_iload_n dX6_put_12 rfl rfl ?_
    obtain ⟨y2, hg3, h⟩ := bn_e h
    refine aw_S1i (M2 := M_X6_isForm) dX6_put_13 lk_X6_157 mk_X6_isForm ms_X6_isForm ⟨by decide, by decide⟩ (Nat.le_of_ble_eq_true rfl) (c_X6_isForm  hg3) ?_
    refine aw_if_ne (tgt := 22) dX6_put_16 (by decide) (fun hc => ?_) (fun hc => ?_)
    rotate_left
    · replace h := ip hc h
      exact aw_less (ls' := [none, none, none, none, none, none, none]) (trivial) (t_X6_put_19   s0 _ h)
    · replace h := ic hc h
      refine aw_aload dX6_put_22 rfl ?_
      refine aw_iload_n dX6_put_24 rfl rfl ?_
      refine aw_iload_n dX6_put_25 rfl rfl ?_
      obtain ⟨y3, hg4, h⟩ := bn_e h
      refine aw_S3i (M2 := M_X6_wrongItem) dX6_put_26 lk_X6_164 mk_X6_wrongItem ms_X6_wrongItem ⟨by decide, by decide⟩ (Nat.le_of_ble_eq_true rfl) (c_X6_wrongItem hg2 hg4) ?_
      refine aw_istoreA dX6_put_29 (by decide) rfl ?_
      show AW _ _ _ 31 [some (vR (some 0)), some (vI x1), some (vI x2), some (vI x3), some (vI x4), some (vR (some w1)), some (vI y3)] _ _
      refine aw_iload dX6_put_31 rfl ?_
      refine aw_if_eq (tgt := 43) dX6_put_33 (by decide) (fun hc => ?_) (fun hc => ?_)
      · replace h := ip hc h
        refine aw_aload dX6_put_43 rfl ?_
        refine aw_iload_n dX6_put_45 rfl rfl ?_
        refine aw_iload dX6_put_46 rfl ?_
        obtain ⟨s1, hg5, h⟩ := bn_e h
        refine aw_V2v (M2 := M_X4_store) dX6_put_48 lk_X6_168 mk_X4_store mv_X4_store ⟨by decide, by decide⟩ hg2 ⟨_, _, rfl⟩ (Nat.le_of_ble_eq_true rfl) (c_X4_store hg2 hg5) ?_
        refine aw_iconst dX6_put_51 ⟨by decide, by decide⟩ ?_
        obtain rfl := Option.some.inj h
        exact aw_iret dX6_put_52 rfl
      · replace h := ic hc h
        refine aw_aload_n dX6_put_36 rfl rfl ?_
        refine aw_iload dX6_put_37 rfl ?_
        obtain ⟨y4, s2, hg6, h⟩ := cb_e h
        refine aw_V1i (M2 := M_X6_found) dX6_put_39 lk_X6_84 mk_X6_found mv_X6_found ⟨by decide, by decide⟩ pC_0 ⟨_, _, rfl⟩ (Nat.le_of_ble_eq_true rfl) (c_X6_found  hg6) ?_
        obtain rfl := Option.some.inj h
        exact aw_iret dX6_put_42 rfl
theorem c_X6_put {x1 : Int} {x2 : Int} {x3 : Int} {x4 : Int} {s0 : SS} {y : Int} {s1 : SS} (h : f_X6_put x1 x2 x3 x4 s0 = some (y, s1)) : CT LC M_X6_put [vR (some 0), vI x1, vI x2, vI x3, vI x4] s0 (some (vI y), s1) :=
  ct_of (n := 2) (by decide) (Nat.le_of_ble_eq_true rfl) (t_X6_put_0 x1 x2 x3 x4 s0  _ h)
def g_X6_get_19  (s0 : SS) : Option (Int × SS) :=
  some ((-2147483648), s0)
set_option maxHeartbeats 4000000 in
theorem t_X6_get_19  : ∀ (s0 : SS) (r : (Int × SS)), g_X6_get_19 s0 = some r → AW LC M_X6_get (some (vI r.1), r.2) 19 [none, none, none, none, none, none] [] s0 := by
  intro s0 r h
  unfold g_X6_get_19 at h
  refine aw_ldc (n := (-2147483648)) dX6_get_19 cn_X6_171 ⟨by decide, by decide⟩ (by decide) ?_
  obtain rfl := Option.some.inj h
  exact aw_iret dX6_get_21 rfl
def f_X6_get (x1 : Int) (x2 : Int) (x3 : Int) (s0 : SS) : Option (Int × SS) :=
  bn (f_X6_sheetOf x1 s0) fun y1 =>
  ob y1 (
    g_X6_get_19  s0
  ) fun w1 =>
  gp w1 <|
  bn (f_X6_isForm x2) fun y2 =>
  if y2 = 0 then (
    g_X6_get_19  s0
  ) else (
    bn (f_X6_wrongItem w1 x2 x3 s0) fun y3 =>
    if y3 = 0 then (
      bn (f_X4_itemAt w1 x3 s0) fun y4 =>
      some (y4, s0)
    ) else (
      cb (f_X6_found y3 s0) fun y5 s1 =>
      some ((-2147483648), s1)
    )
  )
set_option maxHeartbeats 4000000 in
theorem t_X6_get_0  : ∀ (x1 : Int) (x2 : Int) (x3 : Int) (s0 : SS) (r : (Int × SS)), f_X6_get x1 x2 x3 s0 = some r → AW LC M_X6_get (some (vI r.1), r.2) 0 [some (vR (some 0)), some (vI x1), some (vI x2), some (vI x3), none, none] [] s0 := by
  intro x1 x2 x3 s0 r h
  unfold f_X6_get at h
  refine aw_aload_n dX6_get_0 rfl rfl ?_
  refine aw_iload_n dX6_get_1 rfl rfl ?_
  obtain ⟨y1, hg1, h⟩ := bn_e h
  refine aw_V1r (M2 := M_X6_sheetOf) dX6_get_2 lk_X6_76 mk_X6_sheetOf mv_X6_sheetOf ⟨by decide, by decide⟩ pC_0 ⟨_, _, rfl⟩ (Nat.le_of_ble_eq_true rfl) (c_X6_sheetOf  hg1) ?_
  refine aw_astore dX6_get_5 (by decide) rfl ?_
  show AW _ _ _ 7 [some (vR (some 0)), some (vI x1), some (vI x2), some (vI x3), some (vR y1), none] _ _
  refine aw_aload dX6_get_7 rfl ?_
  refine aw_ifnull (tgt := 19) dX6_get_9 (by decide) (fun e => ?_) (fun w1 e => ?_)
  · subst e
    replace h := ob_n h
    exact aw_less (ls' := [none, none, none, none, none, none]) (trivial) (t_X6_get_19   s0 _ h)
  · subst e
    replace h := ob_s h
    obtain ⟨hg2, h⟩ := gp_e h
    refine aw_iload_n dX6_get_12 rfl rfl ?_
    obtain ⟨y2, hg3, h⟩ := bn_e h
    refine aw_S1i (M2 := M_X6_isForm) dX6_get_13 lk_X6_157 mk_X6_isForm ms_X6_isForm ⟨by decide, by decide⟩ (Nat.le_of_ble_eq_true rfl) (c_X6_isForm  hg3) ?_
    refine aw_if_ne (tgt := 22) dX6_get_16 (by decide) (fun hc => ?_) (fun hc => ?_)
    rotate_left
    · replace h := ip hc h
      exact aw_less (ls' := [none, none, none, none, none, none]) (trivial) (t_X6_get_19   s0 _ h)
    · replace h := ic hc h
      refine aw_aload dX6_get_22 rfl ?_
      refine aw_iload_n dX6_get_24 rfl rfl ?_
      refine aw_iload_n dX6_get_25 rfl rfl ?_
      obtain ⟨y3, hg4, h⟩ := bn_e h
      refine aw_S3i (M2 := M_X6_wrongItem) dX6_get_26 lk_X6_164 mk_X6_wrongItem ms_X6_wrongItem ⟨by decide, by decide⟩ (Nat.le_of_ble_eq_true rfl) (c_X6_wrongItem hg2 hg4) ?_
      refine aw_istoreA dX6_get_29 (by decide) rfl ?_
      show AW _ _ _ 31 [some (vR (some 0)), some (vI x1), some (vI x2), some (vI x3), some (vR (some w1)), some (vI y3)] _ _
      refine aw_iload dX6_get_31 rfl ?_
      refine aw_if_eq (tgt := 46) dX6_get_33 (by decide) (fun hc => ?_) (fun hc => ?_)
      · replace h := ip hc h
        refine aw_aload dX6_get_46 rfl ?_
        refine aw_iload_n dX6_get_48 rfl rfl ?_
        obtain ⟨y4, hg5, h⟩ := bn_e h
        refine aw_V1i (M2 := M_X4_itemAt) dX6_get_49 lk_X6_91 mk_X4_itemAt mv_X4_itemAt ⟨by decide, by decide⟩ hg2 ⟨_, _, rfl⟩ (Nat.le_of_ble_eq_true rfl) (c_X4_itemAt hg2 hg5) ?_
        obtain rfl := Option.some.inj h
        exact aw_iret dX6_get_52 rfl
      · replace h := ic hc h
        refine aw_aload_n dX6_get_36 rfl rfl ?_
        refine aw_iload dX6_get_37 rfl ?_
        obtain ⟨y5, s1, hg6, h⟩ := cb_e h
        refine aw_V1i (M2 := M_X6_found) dX6_get_39 lk_X6_84 mk_X6_found mv_X6_found ⟨by decide, by decide⟩ pC_0 ⟨_, _, rfl⟩ (Nat.le_of_ble_eq_true rfl) (c_X6_found  hg6) ?_
        refine aw_pop dX6_get_42 rfl ?_
        refine aw_ldc (n := (-2147483648)) dX6_get_43 cn_X6_171 ⟨by decide, by decide⟩ (by decide) ?_
        obtain rfl := Option.some.inj h
        exact aw_iret dX6_get_45 rfl
theorem c_X6_get {x1 : Int} {x2 : Int} {x3 : Int} {s0 : SS} {y : Int} {s1 : SS} (h : f_X6_get x1 x2 x3 s0 = some (y, s1)) : CT LC M_X6_get [vR (some 0), vI x1, vI x2, vI x3] s0 (some (vI y), s1) :=
  ct_of (n := 2) (by decide) (Nat.le_of_ble_eq_true rfl) (t_X6_get_0 x1 x2 x3 s0  _ h)
def g_X6_copy_24  (s0 : SS) : Option (Int × SS) :=
  some ((-2), s0)
set_option maxHeartbeats 4000000 in
theorem t_X6_copy_24  : ∀ (s0 : SS) (r : (Int × SS)), g_X6_copy_24 s0 = some r → AW LC M_X6_copy (some (vI r.1), r.2) 24 [none, none, none, none, none, none, none, none] [] s0 := by
  intro s0 r h
  unfold g_X6_copy_24 at h
  refine aw_bipush dX6_copy_24 ⟨by decide, by decide⟩ (by decide) ?_
  obtain rfl := Option.some.inj h
  exact aw_iret dX6_copy_26 rfl
def g_X6_copy_91  (s0 : SS) : Option (Int × SS) :=
  cb (f_X6_found 2 s0) fun y1 s1 =>
  some (y1, s1)
set_option maxHeartbeats 4000000 in
theorem t_X6_copy_91  : ∀ (s0 : SS) (r : (Int × SS)), g_X6_copy_91 s0 = some r → AW LC M_X6_copy (some (vI r.1), r.2) 91 [some (vR (some 0)), none, none, none, none, none, none, none] [] s0 := by
  intro s0 r h
  unfold g_X6_copy_91 at h
  refine aw_aload_n dX6_copy_91 rfl rfl ?_
  refine aw_iconst dX6_copy_92 ⟨by decide, by decide⟩ ?_
  obtain ⟨y1, s1, hg1, h⟩ := cb_e h
  refine aw_V1i (M2 := M_X6_found) dX6_copy_93 lk_X6_84 mk_X6_found mv_X6_found ⟨by decide, by decide⟩ pC_0 ⟨_, _, rfl⟩ (Nat.le_of_ble_eq_true rfl) (c_X6_found  hg1) ?_
  obtain rfl := Option.some.inj h
  exact aw_iret dX6_copy_96 rfl
def g_X6_copy_43  (s0 : SS) : Option (Int × SS) :=
  cb (f_X6_found 1 s0) fun y1 s1 =>
  some (y1, s1)
set_option maxHeartbeats 4000000 in
theorem t_X6_copy_43  : ∀ (s0 : SS) (r : (Int × SS)), g_X6_copy_43 s0 = some r → AW LC M_X6_copy (some (vI r.1), r.2) 43 [some (vR (some 0)), none, none, none, none, none, none, none] [] s0 := by
  intro s0 r h
  unfold g_X6_copy_43 at h
  refine aw_aload_n dX6_copy_43 rfl rfl ?_
  refine aw_iconst dX6_copy_44 ⟨by decide, by decide⟩ ?_
  obtain ⟨y1, s1, hg1, h⟩ := cb_e h
  refine aw_V1i (M2 := M_X6_found) dX6_copy_45 lk_X6_84 mk_X6_found mv_X6_found ⟨by decide, by decide⟩ pC_0 ⟨_, _, rfl⟩ (Nat.le_of_ble_eq_true rfl) (c_X6_found  hg1) ?_
  obtain rfl := Option.some.inj h
  exact aw_iret dX6_copy_48 rfl
def f_X6_copy (x1 : Int) (x2 : Int) (x3 : Int) (x4 : Int) (x5 : Int) (s0 : SS) : Option (Int × SS) :=
  bn (f_X6_sheetOf x1 s0) fun y1 =>
  bn (f_X6_sheetOf x3 s0) fun y2 =>
  ob y1 (
    g_X6_copy_24  s0
  ) fun w1 =>
  gp w1 <|
  ob y2 (
    g_X6_copy_24  s0
  ) fun w2 =>
  gp w2 <|
  bn (f_X4_isLost w1 s0) fun y3 =>
  if y3 = 0 then (
    bn (f_X4_isLost w2 s0) fun y4 =>
    if y4 = 0 then (
      if (s0 w1 1) = (s0 w2 1) then (
        bn (f_X4_hasItems w1 x2 x5 s0) fun y5 =>
        if y5 = 0 then (
          g_X6_copy_91  s0
        ) else (
          bn (f_X4_hasItems w2 x4 x5 s0) fun y6 =>
          if y6 = 0 then (
            g_X6_copy_91  s0
          ) else (
            gc x2 x4 x5 60 60 <|
            sb (cpy s0 (w1 + 1) (w2 + 1) x2.toNat x4.toNat x5.toNat) fun s1 =>
            some (1, s1)
          )
        )
      ) else (
        cb (f_X6_found 4 s0) fun y7 s2 =>
        some (y7, s2)
      )
    ) else (
      g_X6_copy_43  s0
    )
  ) else (
    g_X6_copy_43  s0
  )
set_option maxHeartbeats 4000000 in
theorem t_X6_copy_0  : ∀ (x1 : Int) (x2 : Int) (x3 : Int) (x4 : Int) (x5 : Int) (s0 : SS) (r : (Int × SS)), f_X6_copy x1 x2 x3 x4 x5 s0 = some r → AW LC M_X6_copy (some (vI r.1), r.2) 0 [some (vR (some 0)), some (vI x1), some (vI x2), some (vI x3), some (vI x4), some (vI x5), none, none] [] s0 := by
  intro x1 x2 x3 x4 x5 s0 r h
  unfold f_X6_copy at h
  refine aw_aload_n dX6_copy_0 rfl rfl ?_
  refine aw_iload_n dX6_copy_1 rfl rfl ?_
  obtain ⟨y1, hg1, h⟩ := bn_e h
  refine aw_V1r (M2 := M_X6_sheetOf) dX6_copy_2 lk_X6_76 mk_X6_sheetOf mv_X6_sheetOf ⟨by decide, by decide⟩ pC_0 ⟨_, _, rfl⟩ (Nat.le_of_ble_eq_true rfl) (c_X6_sheetOf  hg1) ?_
  refine aw_astore dX6_copy_5 (by decide) rfl ?_
  show AW _ _ _ 7 [some (vR (some 0)), some (vI x1), some (vI x2), some (vI x3), some (vI x4), some (vI x5), some (vR y1), none] _ _
  refine aw_aload_n dX6_copy_7 rfl rfl ?_
  refine aw_iload_n dX6_copy_8 rfl rfl ?_
  obtain ⟨y2, hg2, h⟩ := bn_e h
  refine aw_V1r (M2 := M_X6_sheetOf) dX6_copy_9 lk_X6_76 mk_X6_sheetOf mv_X6_sheetOf ⟨by decide, by decide⟩ pC_0 ⟨_, _, rfl⟩ (Nat.le_of_ble_eq_true rfl) (c_X6_sheetOf  hg2) ?_
  refine aw_astore dX6_copy_12 (by decide) rfl ?_
  show AW _ _ _ 14 [some (vR (some 0)), some (vI x1), some (vI x2), some (vI x3), some (vI x4), some (vI x5), some (vR y1), some (vR y2)] _ _
  refine aw_aload dX6_copy_14 rfl ?_
  refine aw_ifnull (tgt := 24) dX6_copy_16 (by decide) (fun e => ?_) (fun w1 e => ?_)
  · subst e
    replace h := ob_n h
    exact aw_less (ls' := [none, none, none, none, none, none, none, none]) (trivial) (t_X6_copy_24   s0 _ h)
  · subst e
    replace h := ob_s h
    obtain ⟨hg3, h⟩ := gp_e h
    refine aw_aload dX6_copy_19 rfl ?_
    refine aw_ifnonnull (tgt := 27) dX6_copy_21 (by decide) (fun w2 e => ?_) (fun e => ?_)
    rotate_left
    · subst e
      replace h := ob_n h
      exact aw_less (ls' := [none, none, none, none, none, none, none, none]) (trivial) (t_X6_copy_24   s0 _ h)
    · subst e
      replace h := ob_s h
      obtain ⟨hg4, h⟩ := gp_e h
      refine aw_aload dX6_copy_27 rfl ?_
      obtain ⟨y3, hg5, h⟩ := bn_e h
      refine aw_V0i (M2 := M_X4_isLost) dX6_copy_29 lk_X6_80 mk_X4_isLost mv_X4_isLost ⟨by decide, by decide⟩ hg3 ⟨_, _, rfl⟩ (Nat.le_of_ble_eq_true rfl) (c_X4_isLost hg3 hg5) ?_
      refine aw_if_ne (tgt := 43) dX6_copy_32 (by decide) (fun hc => ?_) (fun hc => ?_)
      rotate_left
      · replace h := ip hc h
        refine aw_aload dX6_copy_35 rfl ?_
        obtain ⟨y4, hg6, h⟩ := bn_e h
        refine aw_V0i (M2 := M_X4_isLost) dX6_copy_37 lk_X6_80 mk_X4_isLost mv_X4_isLost ⟨by decide, by decide⟩ hg4 ⟨_, _, rfl⟩ (Nat.le_of_ble_eq_true rfl) (c_X4_isLost hg4 hg6) ?_
        refine aw_if_eq (tgt := 49) dX6_copy_40 (by decide) (fun hc => ?_) (fun hc => ?_)
        · replace h := ip hc h
          refine aw_aload dX6_copy_49 rfl ?_
          refine aw_getI dX6_copy_51 fk_X6_172 hg3 (st_n hg3 (by decide)) ?_
          refine aw_aload dX6_copy_54 rfl ?_
          refine aw_getI dX6_copy_56 fk_X6_172 hg4 (st_n hg4 (by decide)) ?_
          refine aw_icmp_eq (tgt := 68) dX6_copy_59 (by decide) (fun hc => ?_) (fun hc => ?_)
          · replace h := ip hc h
            refine aw_aload dX6_copy_68 rfl ?_
            refine aw_iload_n dX6_copy_70 rfl rfl ?_
            refine aw_iload dX6_copy_71 rfl ?_
            obtain ⟨y5, hg7, h⟩ := bn_e h
            refine aw_V2i (M2 := M_X4_hasItems) dX6_copy_73 lk_X6_175 mk_X4_hasItems mv_X4_hasItems ⟨by decide, by decide⟩ hg3 ⟨_, _, rfl⟩ (Nat.le_of_ble_eq_true rfl) (c_X4_hasItems hg3 hg7) ?_
            refine aw_if_eq (tgt := 91) dX6_copy_76 (by decide) (fun hc => ?_) (fun hc => ?_)
            · replace h := ip hc h
              exact aw_less (ls' := [some (vR (some 0)), none, none, none, none, none, none, none]) (⟨rfl, trivial⟩) (t_X6_copy_91   s0 _ h)
            · replace h := ic hc h
              refine aw_aload dX6_copy_79 rfl ?_
              refine aw_iload dX6_copy_81 rfl ?_
              refine aw_iload dX6_copy_83 rfl ?_
              obtain ⟨y6, hg8, h⟩ := bn_e h
              refine aw_V2i (M2 := M_X4_hasItems) dX6_copy_85 lk_X6_175 mk_X4_hasItems mv_X4_hasItems ⟨by decide, by decide⟩ hg4 ⟨_, _, rfl⟩ (Nat.le_of_ble_eq_true rfl) (c_X4_hasItems hg4 hg8) ?_
              refine aw_if_ne (tgt := 97) dX6_copy_88 (by decide) (fun hc => ?_) (fun hc => ?_)
              rotate_left
              · replace h := ip hc h
                exact aw_less (ls' := [some (vR (some 0)), none, none, none, none, none, none, none]) (⟨rfl, trivial⟩) (t_X6_copy_91   s0 _ h)
              · replace h := ic hc h
                refine aw_aload dX6_copy_97 rfl ?_
                refine aw_getR dX6_copy_99 fk_X6_179 hg3 (st_r hg3) ?_
                refine aw_iload_n dX6_copy_102 rfl rfl ?_
                refine aw_aload dX6_copy_103 rfl ?_
                refine aw_getR dX6_copy_105 fk_X6_179 hg4 (st_r hg4) ?_
                refine aw_iload dX6_copy_108 rfl ?_
                refine aw_iload dX6_copy_110 rfl ?_
                obtain ⟨hg9, h⟩ := gc_e h
                refine aw_copy dX6_copy_112 lk_X6_182 js_n js_s js_i (st_a hg3) (st_a hg4) hg9 ⟨by decide, by decide⟩ (Nat.le_of_ble_eq_true rfl) (fun s1 e => ?_)
                replace h := sb_e h e
                clear e
                refine aw_iconst dX6_copy_115 ⟨by decide, by decide⟩ ?_
                obtain rfl := Option.some.inj h
                exact aw_iret dX6_copy_116 rfl
          · replace h := ic hc h
            refine aw_aload_n dX6_copy_62 rfl rfl ?_
            refine aw_iconst dX6_copy_63 ⟨by decide, by decide⟩ ?_
            obtain ⟨y7, s2, hg10, h⟩ := cb_e h
            refine aw_V1i (M2 := M_X6_found) dX6_copy_64 lk_X6_84 mk_X6_found mv_X6_found ⟨by decide, by decide⟩ pC_0 ⟨_, _, rfl⟩ (Nat.le_of_ble_eq_true rfl) (c_X6_found  hg10) ?_
            obtain rfl := Option.some.inj h
            exact aw_iret dX6_copy_67 rfl
        · replace h := ic hc h
          exact aw_less (ls' := [some (vR (some 0)), none, none, none, none, none, none, none]) (⟨rfl, trivial⟩) (t_X6_copy_43   s0 _ h)
      · replace h := ic hc h
        exact aw_less (ls' := [some (vR (some 0)), none, none, none, none, none, none, none]) (⟨rfl, trivial⟩) (t_X6_copy_43   s0 _ h)
theorem c_X6_copy {x1 : Int} {x2 : Int} {x3 : Int} {x4 : Int} {x5 : Int} {s0 : SS} {y : Int} {s1 : SS} (h : f_X6_copy x1 x2 x3 x4 x5 s0 = some (y, s1)) : CT LC M_X6_copy [vR (some 0), vI x1, vI x2, vI x3, vI x4, vI x5] s0 (some (vI y), s1) :=
  ct_of (n := 2) (by decide) (Nat.le_of_ble_eq_true rfl) (t_X6_copy_0 x1 x2 x3 x4 x5 s0  _ h)
def g_X6_write_20  (s0 : SS) : Option (Int × SS) :=
  some ((-2), s0)
set_option maxHeartbeats 4000000 in
theorem t_X6_write_20  : ∀ (s0 : SS) (r : (Int × SS)), g_X6_write_20 s0 = some r → AW LC M_X6_write (some (vI r.1), r.2) 20 [none, none, none, none, none, none] [] s0 := by
  intro s0 r h
  unfold g_X6_write_20 at h
  refine aw_bipush dX6_write_20 ⟨by decide, by decide⟩ (by decide) ?_
  obtain rfl := Option.some.inj h
  exact aw_iret dX6_write_22 rfl
def g_X6_write_89 (x4 : Int) (s0 : SS) : Option (Int × SS) :=
  some (x4, s0)
set_option maxHeartbeats 4000000 in
theorem t_X6_write_89  : ∀ (x4 : Int) (s0 : SS) (r : (Int × SS)), g_X6_write_89 x4 s0 = some r → AW LC M_X6_write (some (vI r.1), r.2) 89 [none, none, none, none, some (vI x4), none] [] s0 := by
  intro x4 s0 r h
  unfold g_X6_write_89 at h
  refine aw_iload dX6_write_89 rfl ?_
  obtain rfl := Option.some.inj h
  exact aw_iret dX6_write_91 rfl
def g_X6_write_60 (k60 : Int → Nat → Int → Int → SS → Option (Int × SS)) (x1 : Int) (wx3 : Nat) (x4 : Int) (x5 : Int) (s0 : SS) : Option (Int × SS) :=
  if x4 ≤ x5 then (
    g_X6_write_89  x4 s0
  ) else (
    bn (f_X2_byteAt x1 x5 s0) fun y1 =>
    bn (f_X4_store wx3 x5 y1 s0) fun s1 =>
    sb (wr (x5 + 1)) fun y2 =>
    k60 x1 wx3 x4 y2 s1
  )
set_option maxHeartbeats 4000000 in
theorem t_X6_write_60 (k60 : Int → Nat → Int → Int → SS → Option (Int × SS)) (hk60 : ∀ (x1 : Int) (wx3 : Nat) (x4 : Int) (x5 : Int) (s0 : SS) (hwx3 : PL LC wx3 4) (r : (Int × SS)), k60 x1 wx3 x4 x5 s0 = some r → AW LC M_X6_write (some (vI r.1), r.2) 60 [some (vR (some 0)), some (vI x1), none, some (vR (some wx3)), some (vI x4), some (vI x5)] [] s0) : ∀ (x1 : Int) (wx3 : Nat) (x4 : Int) (x5 : Int) (s0 : SS) (hwx3 : PL LC wx3 4) (r : (Int × SS)), g_X6_write_60 k60 x1 wx3 x4 x5 s0 = some r → AW LC M_X6_write (some (vI r.1), r.2) 60 [some (vR (some 0)), some (vI x1), none, some (vR (some wx3)), some (vI x4), some (vI x5)] [] s0 := by
  intro x1 wx3 x4 x5 s0 hwx3 r h
  unfold g_X6_write_60 at h
  refine aw_iload dX6_write_60 rfl ?_
  refine aw_iload dX6_write_62 rfl ?_
  refine aw_icmp_ge (tgt := 89) dX6_write_64 (by decide) (fun hc => ?_) (fun hc => ?_)
  · replace h := ip hc h
    exact aw_less (ls' := [none, none, none, none, some (vI x4), none]) (⟨rfl, trivial⟩) (t_X6_write_89   x4 s0 _ h)
  · replace h := ic hc h
    refine aw_aload_n dX6_write_67 rfl rfl ?_
    refine aw_iload dX6_write_68 rfl ?_
    refine aw_aload_n dX6_write_70 rfl rfl ?_
    refine aw_getR (t := 35) dX6_write_71 fk_X6_42 pC_0 rfl ?_
    refine aw_iload_n dX6_write_74 rfl rfl ?_
    refine aw_iload dX6_write_75 rfl ?_
    obtain ⟨y1, hg1, h⟩ := bn_e h
    refine aw_V2i (M2 := M_X2_byteAt) dX6_write_77 lk_X6_132 mk_X2_byteAt mv_X2_byteAt ⟨by decide, by decide⟩ pC_35 ⟨_, _, rfl⟩ (Nat.le_of_ble_eq_true rfl) (c_X2_byteAt  hg1) ?_
    obtain ⟨s1, hg2, h⟩ := bn_e h
    refine aw_V2v (M2 := M_X4_store) dX6_write_80 lk_X6_168 mk_X4_store mv_X4_store ⟨by decide, by decide⟩ hwx3 ⟨_, _, rfl⟩ (Nat.le_of_ble_eq_true rfl) (c_X4_store hwx3 hg2) ?_
    refine aw_iinc dX6_write_83 rfl (by decide) rfl (fun y2 e => ?_)
    replace h := sb_e h e
    clear e
    show AW _ _ _ 86 [some (vR (some 0)), some (vI x1), none, some (vR (some wx3)), some (vI x4), some (vI y2)] _ _
    refine aw_goto (tgt := 60) dX6_write_86 (by decide) ?_
    exact (hk60 x1 wx3 x4 y2 s1 hwx3 _ h)
def f_X6_write_60 : Nat → Int → Nat → Int → Int → SS → Option (Int × SS)
  | 0 => fun _ _ _ _ _ => none
  | n + 1 => g_X6_write_60 (f_X6_write_60  n)
theorem s_X6_write_60  : ∀ (n : Nat), ∀ (x1 : Int) (wx3 : Nat) (x4 : Int) (x5 : Int) (s0 : SS) (hwx3 : PL LC wx3 4) (r : (Int × SS)), f_X6_write_60 n x1 wx3 x4 x5 s0 = some r → AW LC M_X6_write (some (vI r.1), r.2) 60 [some (vR (some 0)), some (vI x1), none, some (vR (some wx3)), some (vI x4), some (vI x5)] [] s0 := by
  intro n
  induction n with
  | zero =>
    intro x1 wx3 x4 x5 s0 hwx3 r h
    cases h
  | succ n ih =>
    intro x1 wx3 x4 x5 s0 hwx3 r h
    exact t_X6_write_60 (f_X6_write_60  n) ih x1 wx3 x4 x5 s0 hwx3 r h
def f_X6_write (x1 : Int) (x2 : Int) (s0 : SS) : Option (Int × SS) :=
  bn (f_X6_sheetOf x2 s0) fun y1 =>
  if x1 < 0 then (
    g_X6_write_20  s0
  ) else (
    if 99 < x1 then (
      g_X6_write_20  s0
    ) else (
      ob y1 (
        g_X6_write_20  s0
      ) fun w1 =>
      gp w1 <|
      bn (f_X4_isLost w1 s0) fun y2 =>
      if y2 = 0 then (
        bn (f_X2_columnsOf x1 s0) fun y3 =>
        sb (if 0 < (if y3 < (s0 w1 2) then y3 else (s0 w1 2)) then (if y3 < (s0 w1 2) then y3 else (s0 w1 2)) else 0) fun y4 =>
        f_X6_write_60  FU x1 w1 y4 0 s0
      ) else (
        cb (f_X6_found 1 s0) fun y5 s1 =>
        some (y5, s1)
      )
    )
  )
set_option maxHeartbeats 4000000 in
theorem t_X6_write_0  : ∀ (x1 : Int) (x2 : Int) (s0 : SS) (r : (Int × SS)), f_X6_write x1 x2 s0 = some r → AW LC M_X6_write (some (vI r.1), r.2) 0 [some (vR (some 0)), some (vI x1), some (vI x2), none, none, none] [] s0 := by
  intro x1 x2 s0 r h
  unfold f_X6_write at h
  refine aw_aload_n dX6_write_0 rfl rfl ?_
  refine aw_iload_n dX6_write_1 rfl rfl ?_
  obtain ⟨y1, hg1, h⟩ := bn_e h
  refine aw_V1r (M2 := M_X6_sheetOf) dX6_write_2 lk_X6_76 mk_X6_sheetOf mv_X6_sheetOf ⟨by decide, by decide⟩ pC_0 ⟨_, _, rfl⟩ (Nat.le_of_ble_eq_true rfl) (c_X6_sheetOf  hg1) ?_
  refine aw_astore_n dX6_write_5 rfl (by decide) rfl ?_
  show AW _ _ _ 6 [some (vR (some 0)), some (vI x1), some (vI x2), some (vR y1), none, none] _ _
  refine aw_iload_n dX6_write_6 rfl rfl ?_
  refine aw_if_lt (tgt := 20) dX6_write_7 (by decide) (fun hc => ?_) (fun hc => ?_)
  · replace h := ip hc h
    exact aw_less (ls' := [none, none, none, none, none, none]) (trivial) (t_X6_write_20   s0 _ h)
  · replace h := ic hc h
    refine aw_iload_n dX6_write_10 rfl rfl ?_
    refine aw_bipush dX6_write_11 ⟨by decide, by decide⟩ (by decide) ?_
    refine aw_icmp_gt (tgt := 20) dX6_write_13 (by decide) (fun hc => ?_) (fun hc => ?_)
    · replace h := ip hc h
      exact aw_less (ls' := [none, none, none, none, none, none]) (trivial) (t_X6_write_20   s0 _ h)
    · replace h := ic hc h
      refine aw_aload_n dX6_write_16 rfl rfl ?_
      refine aw_ifnonnull (tgt := 23) dX6_write_17 (by decide) (fun w1 e => ?_) (fun e => ?_)
      rotate_left
      · subst e
        replace h := ob_n h
        exact aw_less (ls' := [none, none, none, none, none, none]) (trivial) (t_X6_write_20   s0 _ h)
      · subst e
        replace h := ob_s h
        obtain ⟨hg2, h⟩ := gp_e h
        refine aw_aload_n dX6_write_23 rfl rfl ?_
        obtain ⟨y2, hg3, h⟩ := bn_e h
        refine aw_V0i (M2 := M_X4_isLost) dX6_write_24 lk_X6_80 mk_X4_isLost mv_X4_isLost ⟨by decide, by decide⟩ hg2 ⟨_, _, rfl⟩ (Nat.le_of_ble_eq_true rfl) (c_X4_isLost hg2 hg3) ?_
        refine aw_if_eq (tgt := 36) dX6_write_27 (by decide) (fun hc => ?_) (fun hc => ?_)
        · replace h := ip hc h
          refine aw_iconst dX6_write_36 ⟨by decide, by decide⟩ ?_
          refine aw_aload_n dX6_write_37 rfl rfl ?_
          refine aw_getI dX6_write_38 fk_X6_88 hg2 (st_n hg2 (by decide)) ?_
          refine aw_aload_n dX6_write_41 rfl rfl ?_
          refine aw_getR (t := 35) dX6_write_42 fk_X6_42 pC_0 rfl ?_
          refine aw_iload_n dX6_write_45 rfl rfl ?_
          obtain ⟨y3, hg4, h⟩ := bn_e h
          refine aw_V1i (M2 := M_X2_columnsOf) dX6_write_46 lk_X6_129 mk_X2_columnsOf mv_X2_columnsOf ⟨by decide, by decide⟩ pC_35 ⟨_, _, rfl⟩ (Nat.le_of_ble_eq_true rfl) (c_X2_columnsOf  hg4) ?_
          refine aw_min dX6_write_49 lk_X6_188 jm_min_s jm_i jm_min_c ⟨by decide, by decide⟩ (Nat.le_of_ble_eq_true rfl) ?_
          refine aw_max dX6_write_52 lk_X6_193 jm_max_s jm_i jm_max_c ⟨by decide, by decide⟩ (Nat.le_of_ble_eq_true rfl) ?_
          refine aw_istore dX6_write_55 (by decide) rfl (fun y4 e => ?_)
          replace h := sb_e h e
          clear e
          show AW _ _ _ 57 [some (vR (some 0)), some (vI x1), some (vI x2), some (vR (some w1)), some (vI y4), none] _ _
          refine aw_iconst dX6_write_57 ⟨by decide, by decide⟩ ?_
          refine aw_istoreA dX6_write_58 (by decide) rfl ?_
          show AW _ _ _ 60 [some (vR (some 0)), some (vI x1), some (vI x2), some (vR (some w1)), some (vI y4), some (vI 0)] _ _
          exact aw_less (ls' := [some (vR (some 0)), some (vI x1), none, some (vR (some w1)), some (vI y4), some (vI 0)]) (⟨rfl, ⟨rfl, ⟨rfl, ⟨rfl, ⟨rfl, trivial⟩⟩⟩⟩⟩) (s_X6_write_60   FU x1 w1 y4 0 s0 hg2 _ h)
        · replace h := ic hc h
          refine aw_aload_n dX6_write_30 rfl rfl ?_
          refine aw_iconst dX6_write_31 ⟨by decide, by decide⟩ ?_
          obtain ⟨y5, s1, hg5, h⟩ := cb_e h
          refine aw_V1i (M2 := M_X6_found) dX6_write_32 lk_X6_84 mk_X6_found mv_X6_found ⟨by decide, by decide⟩ pC_0 ⟨_, _, rfl⟩ (Nat.le_of_ble_eq_true rfl) (c_X6_found  hg5) ?_
          obtain rfl := Option.some.inj h
          exact aw_iret dX6_write_35 rfl
theorem c_X6_write {x1 : Int} {x2 : Int} {s0 : SS} {y : Int} {s1 : SS} (h : f_X6_write x1 x2 s0 = some (y, s1)) : CT LC M_X6_write [vR (some 0), vI x1, vI x2] s0 (some (vI y), s1) :=
  ct_of (n := 3) (by decide) (Nat.le_of_ble_eq_true rfl) (t_X6_write_0 x1 x2 s0  _ h)
def f_X6_count (x1 : Int) (s0 : SS) : Option Int :=
  if x1 = 0 then (
    some (s0 1 8)
  ) else (
  if x1 = 1 then (
    some (s0 1 9)
  ) else (
  if x1 = 2 then (
    some (s0 1 10)
  ) else (
  if x1 = 3 then (
    some (s0 0 6)
  ) else (
  if x1 = 4 then (
    bn (f_X1_sizeOf 0 s0) fun y1 =>
    some y1
  ) else (
  if x1 = 5 then (
    bn (f_X6_tried 0 s0) fun y2 =>
    some y2
  ) else (
  if x1 = 6 then (
    bn (f_X6_tried 1 s0) fun y3 =>
    some y3
  ) else (
  if x1 = 7 then (
    bn (f_X6_best 0 s0) fun y4 =>
    some y4
  ) else (
  if x1 = 8 then (
    some (s0 0 7)
  ) else (
    some (-2)
  )
  )
  )
  )
  )
  )
  )
  )
  )
set_option maxHeartbeats 4000000 in
theorem t_X6_count_0  : ∀ (x1 : Int) (s0 : SS) (r : Int), f_X6_count x1 s0 = some r → AW LC M_X6_count (some (vI r), s0) 0 [some (vR (some 0)), some (vI x1)] [] s0 := by
  intro x1 s0 r h
  unfold f_X6_count at h
  refine aw_iload_n dX6_count_0 rfl rfl ?_
  by_cases hc : x1 = 0
  · replace h := ip hc h
    refine aw_tableIn (tgt := 52) dX6_count_1 (by rw [hc]; decide) (by rw [hc]; decide) (by rw [hc]; rfl) (by decide) ?_
    refine aw_aload_n dX6_count_52 rfl rfl ?_
    refine aw_getR (t := 1) dX6_count_53 fk_X6_10 pC_0 rfl ?_
    refine aw_getI dX6_count_56 fk_X6_70 pC_1 rfl ?_
    obtain rfl := Option.some.inj h
    exact aw_iret dX6_count_59 rfl
  replace h := ic hc h
  have hn0 := hc
  clear hc
  by_cases hc : x1 = 1
  · replace h := ip hc h
    refine aw_tableIn (tgt := 60) dX6_count_1 (by rw [hc]; decide) (by rw [hc]; decide) (by rw [hc]; rfl) (by decide) ?_
    refine aw_aload_n dX6_count_60 rfl rfl ?_
    refine aw_getR (t := 1) dX6_count_61 fk_X6_10 pC_0 rfl ?_
    refine aw_getI dX6_count_64 fk_X6_196 pC_1 rfl ?_
    obtain rfl := Option.some.inj h
    exact aw_iret dX6_count_67 rfl
  replace h := ic hc h
  have hn1 := hc
  clear hc
  by_cases hc : x1 = 2
  · replace h := ip hc h
    refine aw_tableIn (tgt := 68) dX6_count_1 (by rw [hc]; decide) (by rw [hc]; decide) (by rw [hc]; rfl) (by decide) ?_
    refine aw_aload_n dX6_count_68 rfl rfl ?_
    refine aw_getR (t := 1) dX6_count_69 fk_X6_10 pC_0 rfl ?_
    refine aw_getI dX6_count_72 fk_X6_136 pC_1 rfl ?_
    obtain rfl := Option.some.inj h
    exact aw_iret dX6_count_75 rfl
  replace h := ic hc h
  have hn2 := hc
  clear hc
  by_cases hc : x1 = 3
  · replace h := ip hc h
    refine aw_tableIn (tgt := 76) dX6_count_1 (by rw [hc]; decide) (by rw [hc]; decide) (by rw [hc]; rfl) (by decide) ?_
    refine aw_aload_n dX6_count_76 rfl rfl ?_
    refine aw_getI dX6_count_77 fk_X6_53 pC_0 rfl ?_
    obtain rfl := Option.some.inj h
    exact aw_iret dX6_count_80 rfl
  replace h := ic hc h
  have hn3 := hc
  clear hc
  by_cases hc : x1 = 4
  · replace h := ip hc h
    refine aw_tableIn (tgt := 81) dX6_count_1 (by rw [hc]; decide) (by rw [hc]; decide) (by rw [hc]; rfl) (by decide) ?_
    refine aw_aload_n dX6_count_81 rfl rfl ?_
    refine aw_getR (t := 10) dX6_count_82 fk_X6_19 pC_0 rfl ?_
    refine aw_iconst dX6_count_85 ⟨by decide, by decide⟩ ?_
    obtain ⟨y1, hg1, h⟩ := bn_e h
    refine aw_V1i (M2 := M_X1_sizeOf) dX6_count_86 lk_X6_103 mk_X1_sizeOf mv_X1_sizeOf ⟨by decide, by decide⟩ pC_10 ⟨_, _, rfl⟩ (Nat.le_of_ble_eq_true rfl) (c_X1_sizeOf  hg1) ?_
    obtain rfl := Option.some.inj h
    exact aw_iret dX6_count_89 rfl
  replace h := ic hc h
  have hn4 := hc
  clear hc
  by_cases hc : x1 = 5
  · replace h := ip hc h
    refine aw_tableIn (tgt := 90) dX6_count_1 (by rw [hc]; decide) (by rw [hc]; decide) (by rw [hc]; rfl) (by decide) ?_
    refine aw_aload_n dX6_count_90 rfl rfl ?_
    refine aw_iconst dX6_count_91 ⟨by decide, by decide⟩ ?_
    obtain ⟨y2, hg2, h⟩ := bn_e h
    refine aw_V1i (M2 := M_X6_tried) dX6_count_92 lk_X6_199 mk_X6_tried mv_X6_tried ⟨by decide, by decide⟩ pC_0 ⟨_, _, rfl⟩ (Nat.le_of_ble_eq_true rfl) (c_X6_tried  hg2) ?_
    obtain rfl := Option.some.inj h
    exact aw_iret dX6_count_95 rfl
  replace h := ic hc h
  have hn5 := hc
  clear hc
  by_cases hc : x1 = 6
  · replace h := ip hc h
    refine aw_tableIn (tgt := 96) dX6_count_1 (by rw [hc]; decide) (by rw [hc]; decide) (by rw [hc]; rfl) (by decide) ?_
    refine aw_aload_n dX6_count_96 rfl rfl ?_
    refine aw_iconst dX6_count_97 ⟨by decide, by decide⟩ ?_
    obtain ⟨y3, hg3, h⟩ := bn_e h
    refine aw_V1i (M2 := M_X6_tried) dX6_count_98 lk_X6_199 mk_X6_tried mv_X6_tried ⟨by decide, by decide⟩ pC_0 ⟨_, _, rfl⟩ (Nat.le_of_ble_eq_true rfl) (c_X6_tried  hg3) ?_
    obtain rfl := Option.some.inj h
    exact aw_iret dX6_count_101 rfl
  replace h := ic hc h
  have hn6 := hc
  clear hc
  by_cases hc : x1 = 7
  · replace h := ip hc h
    refine aw_tableIn (tgt := 102) dX6_count_1 (by rw [hc]; decide) (by rw [hc]; decide) (by rw [hc]; rfl) (by decide) ?_
    refine aw_aload_n dX6_count_102 rfl rfl ?_
    refine aw_iconst dX6_count_103 ⟨by decide, by decide⟩ ?_
    obtain ⟨y4, hg4, h⟩ := bn_e h
    refine aw_V1i (M2 := M_X6_best) dX6_count_104 lk_X6_202 mk_X6_best mv_X6_best ⟨by decide, by decide⟩ pC_0 ⟨_, _, rfl⟩ (Nat.le_of_ble_eq_true rfl) (c_X6_best  hg4) ?_
    obtain rfl := Option.some.inj h
    exact aw_iret dX6_count_107 rfl
  replace h := ic hc h
  have hn7 := hc
  clear hc
  by_cases hc : x1 = 8
  · replace h := ip hc h
    refine aw_tableIn (tgt := 108) dX6_count_1 (by rw [hc]; decide) (by rw [hc]; decide) (by rw [hc]; rfl) (by decide) ?_
    refine aw_aload_n dX6_count_108 rfl rfl ?_
    refine aw_getI dX6_count_109 fk_X6_205 pC_0 rfl ?_
    obtain rfl := Option.some.inj h
    exact aw_iret dX6_count_112 rfl
  replace h := ic hc h
  have hn8 := hc
  clear hc
  have hK : AW LC M_X6_count (some (vI r), s0) 113 [some (vR (some 0)), some (vI x1)] [] s0 := by
    refine aw_bipush dX6_count_113 ⟨by decide, by decide⟩ (by decide) ?_
    obtain rfl := Option.some.inj h
    exact aw_iret dX6_count_115 rfl
  by_cases hr : x1 < 0 ∨ 8 < x1
  · exact aw_tableOut (tgt := 113) dX6_count_1 hr (by decide) hK
  · exact absurd hr (by omega)
theorem c_X6_count {x1 : Int} {s0 : SS} {y : Int} (h : f_X6_count x1 s0 = some y) : CT LC M_X6_count [vR (some 0), vI x1] s0 (some (vI y), s0) :=
  ct_of (n := 0) (by decide) (Nat.le_of_ble_eq_true rfl) (t_X6_count_0 x1 s0  _ h)
def g_X6_digestShape_37 (x5 : Int) (s0 : SS) : Option Int :=
  some x5
set_option maxHeartbeats 4000000 in
theorem t_X6_digestShape_37  : ∀ (x5 : Int) (s0 : SS) (r : Int), g_X6_digestShape_37 x5 s0 = some r → AW LC M_X6_digestShape (some (vL r), s0) 37 [none, none, none, none, none, some (vL x5), none, none] [] s0 := by
  intro x5 s0 r h
  unfold g_X6_digestShape_37 at h
  refine aw_lload dX6_digestShape_37 rfl ?_
  obtain rfl := Option.some.inj h
  exact aw_lret dX6_digestShape_39 rfl
def g_X6_digestShape_6 (k6 : Int → Int → Int → Int → SS → Option Int) (x3 : Int) (x4 : Int) (x5 : Int) (x7 : Int) (s0 : SS) : Option Int :=
  if 3 < x7 then (
    g_X6_digestShape_37  x5 s0
  ) else (
    bn (f_X6_frontier x3 x4 x7 s0) fun y1 =>
    sb (wl ((wl (31 * x5)) + y1)) fun y2 =>
    sb (wr (x7 + 1)) fun y3 =>
    k6 x3 x4 y2 y3 s0
  )
set_option maxHeartbeats 4000000 in
theorem t_X6_digestShape_6 (k6 : Int → Int → Int → Int → SS → Option Int) (hk6 : ∀ (x3 : Int) (x4 : Int) (x5 : Int) (x7 : Int) (s0 : SS) (r : Int), k6 x3 x4 x5 x7 s0 = some r → AW LC M_X6_digestShape (some (vL r), s0) 6 [some (vR (some 0)), none, none, some (vI x3), some (vI x4), some (vL x5), none, some (vI x7)] [] s0) : ∀ (x3 : Int) (x4 : Int) (x5 : Int) (x7 : Int) (s0 : SS) (r : Int), g_X6_digestShape_6 k6 x3 x4 x5 x7 s0 = some r → AW LC M_X6_digestShape (some (vL r), s0) 6 [some (vR (some 0)), none, none, some (vI x3), some (vI x4), some (vL x5), none, some (vI x7)] [] s0 := by
  intro x3 x4 x5 x7 s0 r h
  unfold g_X6_digestShape_6 at h
  refine aw_iload dX6_digestShape_6 rfl ?_
  refine aw_iconst dX6_digestShape_8 ⟨by decide, by decide⟩ ?_
  refine aw_icmp_gt (tgt := 37) dX6_digestShape_9 (by decide) (fun hc => ?_) (fun hc => ?_)
  · replace h := ip hc h
    exact aw_less (ls' := [none, none, none, none, none, some (vL x5), none, none]) (⟨rfl, trivial⟩) (t_X6_digestShape_37   x5 s0 _ h)
  · replace h := ic hc h
    refine aw_ldc2 (n := 31) dX6_digestShape_12 cl_X6_210 ⟨by decide, by decide⟩ (by decide) ?_
    refine aw_lload dX6_digestShape_15 rfl ?_
    refine aw_lmul dX6_digestShape_17 ?_
    refine aw_aload_n dX6_digestShape_18 rfl rfl ?_
    refine aw_iload_n dX6_digestShape_19 rfl rfl ?_
    refine aw_iload dX6_digestShape_20 rfl ?_
    refine aw_iload dX6_digestShape_22 rfl ?_
    obtain ⟨y1, hg1, h⟩ := bn_e h
    refine aw_V3i (M2 := M_X6_frontier) dX6_digestShape_24 lk_X6_235 mk_X6_frontier mv_X6_frontier ⟨by decide, by decide⟩ pC_0 ⟨_, _, rfl⟩ (Nat.le_of_ble_eq_true rfl) (c_X6_frontier  hg1) ?_
    refine aw_i2l dX6_digestShape_27 ?_
    refine aw_ladd dX6_digestShape_28 ?_
    refine aw_lstore dX6_digestShape_29 (by decide) rfl (fun y2 e => ?_)
    replace h := sb_e h e
    clear e
    show AW _ _ _ 31 [some (vR (some 0)), none, none, some (vI x3), some (vI x4), some (vL y2), none, some (vI x7)] _ _
    refine aw_iinc dX6_digestShape_31 rfl (by decide) rfl (fun y3 e => ?_)
    replace h := sb_e h e
    clear e
    show AW _ _ _ 34 [some (vR (some 0)), none, none, some (vI x3), some (vI x4), some (vL y2), none, some (vI y3)] _ _
    refine aw_goto (tgt := 6) dX6_digestShape_34 (by decide) ?_
    exact (hk6 x3 x4 y2 y3 s0 _ h)
def f_X6_digestShape_6 : Nat → Int → Int → Int → Int → SS → Option Int
  | 0 => fun _ _ _ _ _ => none
  | n + 1 => g_X6_digestShape_6 (f_X6_digestShape_6  n)
theorem s_X6_digestShape_6  : ∀ (n : Nat), ∀ (x3 : Int) (x4 : Int) (x5 : Int) (x7 : Int) (s0 : SS) (r : Int), f_X6_digestShape_6 n x3 x4 x5 x7 s0 = some r → AW LC M_X6_digestShape (some (vL r), s0) 6 [some (vR (some 0)), none, none, some (vI x3), some (vI x4), some (vL x5), none, some (vI x7)] [] s0 := by
  intro n
  induction n with
  | zero =>
    intro x3 x4 x5 x7 s0 r h
    cases h
  | succ n ih =>
    intro x3 x4 x5 x7 s0 r h
    exact t_X6_digestShape_6 (f_X6_digestShape_6  n) ih x3 x4 x5 x7 s0 r h
def f_X6_digestShape (x1 : Int) (x3 : Int) (x4 : Int) (s0 : SS) : Option Int :=
  f_X6_digestShape_6  FU x3 x4 x1 0 s0
set_option maxHeartbeats 4000000 in
theorem t_X6_digestShape_0  : ∀ (x1 : Int) (x3 : Int) (x4 : Int) (s0 : SS) (r : Int), f_X6_digestShape x1 x3 x4 s0 = some r → AW LC M_X6_digestShape (some (vL r), s0) 0 [some (vR (some 0)), some (vL x1), none, some (vI x3), some (vI x4), none, none, none] [] s0 := by
  intro x1 x3 x4 s0 r h
  unfold f_X6_digestShape at h
  refine aw_lload_n dX6_digestShape_0 rfl rfl ?_
  refine aw_lstoreA dX6_digestShape_1 (by decide) rfl ?_
  show AW _ _ _ 3 [some (vR (some 0)), some (vL x1), none, some (vI x3), some (vI x4), some (vL x1), none, none] _ _
  refine aw_iconst dX6_digestShape_3 ⟨by decide, by decide⟩ ?_
  refine aw_istoreA dX6_digestShape_4 (by decide) rfl ?_
  show AW _ _ _ 6 [some (vR (some 0)), some (vL x1), none, some (vI x3), some (vI x4), some (vL x1), none, some (vI 0)] _ _
  exact aw_less (ls' := [some (vR (some 0)), none, none, some (vI x3), some (vI x4), some (vL x1), none, some (vI 0)]) (⟨rfl, ⟨rfl, ⟨rfl, ⟨rfl, ⟨rfl, trivial⟩⟩⟩⟩⟩) (s_X6_digestShape_6   FU x3 x4 x1 0 s0 _ h)
theorem c_X6_digestShape {x1 : Int} {x3 : Int} {x4 : Int} {s0 : SS} {y : Int} (h : f_X6_digestShape x1 x3 x4 s0 = some y) : CT LC M_X6_digestShape [vR (some 0), vL x1, vI x3, vI x4] s0 (some (vL y), s0) :=
  ct_of (n := 3) (by decide) (Nat.le_of_ble_eq_true rfl) (t_X6_digestShape_0 x1 x3 x4 s0  _ h)
