def g_X7_columnsIn_81 (x2 : Int) (s0 : SS) : Option Int :=
  some x2
set_option maxHeartbeats 4000000 in
theorem t_X7_columnsIn_81  : ∀ (x2 : Int) (s0 : SS) (r : Int), g_X7_columnsIn_81 x2 s0 = some r → AW LM M_X7_columnsIn (some (vI r), s0) 81 [none, none, some (vI x2), none, none] [] s0 := by
  intro x2 s0 r h
  unfold g_X7_columnsIn_81 at h
  refine aw_iload_n dX7_columnsIn_81 rfl rfl ?_
  obtain rfl := Option.some.inj h
  exact aw_iret dX7_columnsIn_82 rfl
def g_X7_columnsIn_74 (k4 : Int → Int → Int → SS → Option Int) (x1 : Int) (x3 : Int) (z0 : Int) (s0 : SS) : Option Int :=
  sb (wr (x3 + 1)) fun y1 =>
  k4 x1 z0 y1 s0
set_option maxHeartbeats 4000000 in
theorem t_X7_columnsIn_74 (k4 : Int → Int → Int → SS → Option Int) (hk4 : ∀ (x1 : Int) (x2 : Int) (x3 : Int) (s0 : SS) (r : Int), k4 x1 x2 x3 s0 = some r → AW LM M_X7_columnsIn (some (vI r), s0) 4 [some (vR (some 0)), some (vI x1), some (vI x2), some (vI x3), none] [] s0) : ∀ (x1 : Int) (x3 : Int) (z0 : Int) (s0 : SS) (r : Int), g_X7_columnsIn_74 k4 x1 x3 z0 s0 = some r → AW LM M_X7_columnsIn (some (vI r), s0) 74 [some (vR (some 0)), some (vI x1), none, some (vI x3), none] [vI z0] s0 := by
  intro x1 x3 z0 s0 r h
  unfold g_X7_columnsIn_74 at h
  refine aw_istore_nA dX7_columnsIn_74 rfl (by decide) rfl ?_
  show AW _ _ _ 75 [some (vR (some 0)), some (vI x1), some (vI z0), some (vI x3), none] _ _
  refine aw_iinc dX7_columnsIn_75 rfl (by decide) rfl (fun y1 e => ?_)
  replace h := sb_e h e
  clear e
  show AW _ _ _ 78 [some (vR (some 0)), some (vI x1), some (vI z0), some (vI y1), none] _ _
  refine aw_goto (tgt := 4) dX7_columnsIn_78 (by decide) ?_
  exact (hk4 x1 z0 y1 s0 _ h)
def g_X7_columnsIn_46 (k4 : Int → Int → Int → SS → Option Int) (x1 : Int) (x2 : Int) (x3 : Int) (z0 : Int) (s0 : SS) : Option Int :=
  if z0 = 0 then (
    g_X7_columnsIn_74 k4 x1 x3 x2 s0
  ) else (
    gx x3 40 <|
    gx x3 40 <|
    bn (f_X7_max x2 (wr ((s0 14 x3.toNat) + (s0 3 x3.toNat)))) fun y1 =>
    g_X7_columnsIn_74 k4 x1 x3 y1 s0
  )
set_option maxHeartbeats 4000000 in
theorem t_X7_columnsIn_46 (k4 : Int → Int → Int → SS → Option Int) (hk4 : ∀ (x1 : Int) (x2 : Int) (x3 : Int) (s0 : SS) (r : Int), k4 x1 x2 x3 s0 = some r → AW LM M_X7_columnsIn (some (vI r), s0) 4 [some (vR (some 0)), some (vI x1), some (vI x2), some (vI x3), none] [] s0) : ∀ (x1 : Int) (x2 : Int) (x3 : Int) (z0 : Int) (s0 : SS) (r : Int), g_X7_columnsIn_46 k4 x1 x2 x3 z0 s0 = some r → AW LM M_X7_columnsIn (some (vI r), s0) 46 [some (vR (some 0)), some (vI x1), some (vI x2), some (vI x3), none] [vI z0] s0 := by
  intro x1 x2 x3 z0 s0 r h
  unfold g_X7_columnsIn_46 at h
  refine aw_istoreA dX7_columnsIn_46 (by decide) rfl ?_
  show AW _ _ _ 48 [some (vR (some 0)), some (vI x1), some (vI x2), some (vI x3), some (vI z0)] _ _
  refine aw_iload dX7_columnsIn_48 rfl ?_
  refine aw_if_eq (tgt := 73) dX7_columnsIn_50 (by decide) (fun hc => ?_) (fun hc => ?_)
  · replace h := ip hc h
    refine aw_iload_n dX7_columnsIn_73 rfl rfl ?_
    exact aw_less (ls' := [some (vR (some 0)), some (vI x1), none, some (vI x3), none]) (⟨rfl, ⟨rfl, ⟨rfl, trivial⟩⟩⟩) (t_X7_columnsIn_74 k4 hk4 x1 x3 x2 s0 _ h)
  · replace h := ic hc h
    refine aw_iload_n dX7_columnsIn_53 rfl rfl ?_
    refine aw_aload_n dX7_columnsIn_54 rfl rfl ?_
    refine aw_getR (t := 14) dX7_columnsIn_55 fk_X7_53 pM_0 rfl ?_
    refine aw_iload_n dX7_columnsIn_58 rfl rfl ?_
    obtain ⟨hg1, h⟩ := gx_e h
    refine aw_iald dX7_columnsIn_59 aM_14 hg1 ?_
    refine aw_aload_n dX7_columnsIn_60 rfl rfl ?_
    refine aw_getR (t := 3) dX7_columnsIn_61 fk_X7_20 pM_0 rfl ?_
    refine aw_iload_n dX7_columnsIn_64 rfl rfl ?_
    obtain ⟨hg2, h⟩ := gx_e h
    refine aw_iald dX7_columnsIn_65 aM_3 hg2 ?_
    refine aw_iadd dX7_columnsIn_66 ?_
    obtain ⟨y1, hg3, h⟩ := bn_e h
    refine aw_S2i (M2 := M_X7_max) dX7_columnsIn_67 lk_X7_130 mk_X7_max ms_X7_max ⟨by decide, by decide⟩ (Nat.le_of_ble_eq_true rfl) (c_X7_max  hg3) ?_
    refine aw_goto (tgt := 74) dX7_columnsIn_70 (by decide) ?_
    exact aw_less (ls' := [some (vR (some 0)), some (vI x1), none, some (vI x3), none]) (⟨rfl, ⟨rfl, ⟨rfl, trivial⟩⟩⟩) (t_X7_columnsIn_74 k4 hk4 x1 x3 y1 s0 _ h)
def g_X7_columnsIn_45 (k4 : Int → Int → Int → SS → Option Int) (x1 : Int) (x2 : Int) (x3 : Int) (s0 : SS) : Option Int :=
  g_X7_columnsIn_46 k4 x1 x2 x3 0 s0
set_option maxHeartbeats 4000000 in
theorem t_X7_columnsIn_45 (k4 : Int → Int → Int → SS → Option Int) (hk4 : ∀ (x1 : Int) (x2 : Int) (x3 : Int) (s0 : SS) (r : Int), k4 x1 x2 x3 s0 = some r → AW LM M_X7_columnsIn (some (vI r), s0) 4 [some (vR (some 0)), some (vI x1), some (vI x2), some (vI x3), none] [] s0) : ∀ (x1 : Int) (x2 : Int) (x3 : Int) (s0 : SS) (r : Int), g_X7_columnsIn_45 k4 x1 x2 x3 s0 = some r → AW LM M_X7_columnsIn (some (vI r), s0) 45 [some (vR (some 0)), some (vI x1), some (vI x2), some (vI x3), none] [] s0 := by
  intro x1 x2 x3 s0 r h
  unfold g_X7_columnsIn_45 at h
  refine aw_iconst dX7_columnsIn_45 ⟨by decide, by decide⟩ ?_
  exact (t_X7_columnsIn_46 k4 hk4 x1 x2 x3 0 s0 _ h)
def g_X7_columnsIn_4 (k4 : Int → Int → Int → SS → Option Int) (x1 : Int) (x2 : Int) (x3 : Int) (s0 : SS) : Option Int :=
  if (s0 0 4) ≤ x3 then (
    g_X7_columnsIn_81  x2 s0
  ) else (
    gx x3 40 <|
    if (s0 2 x3.toNat) = 0 then (
      gx x3 40 <|
      if (s0 15 x3.toNat) = 1 then (
        gx x3 40 <|
        if (s0 13 x3.toNat) = x1 then (
          g_X7_columnsIn_46 k4 x1 x2 x3 1 s0
        ) else (
          g_X7_columnsIn_45 k4 x1 x2 x3 s0
        )
      ) else (
        g_X7_columnsIn_45 k4 x1 x2 x3 s0
      )
    ) else (
      g_X7_columnsIn_45 k4 x1 x2 x3 s0
    )
  )
set_option maxHeartbeats 4000000 in
theorem t_X7_columnsIn_4 (k4 : Int → Int → Int → SS → Option Int) (hk4 : ∀ (x1 : Int) (x2 : Int) (x3 : Int) (s0 : SS) (r : Int), k4 x1 x2 x3 s0 = some r → AW LM M_X7_columnsIn (some (vI r), s0) 4 [some (vR (some 0)), some (vI x1), some (vI x2), some (vI x3), none] [] s0) : ∀ (x1 : Int) (x2 : Int) (x3 : Int) (s0 : SS) (r : Int), g_X7_columnsIn_4 k4 x1 x2 x3 s0 = some r → AW LM M_X7_columnsIn (some (vI r), s0) 4 [some (vR (some 0)), some (vI x1), some (vI x2), some (vI x3), none] [] s0 := by
  intro x1 x2 x3 s0 r h
  unfold g_X7_columnsIn_4 at h
  refine aw_iload_n dX7_columnsIn_4 rfl rfl ?_
  refine aw_aload_n dX7_columnsIn_5 rfl rfl ?_
  refine aw_getI dX7_columnsIn_6 fk_X7_93 pM_0 rfl ?_
  refine aw_icmp_ge (tgt := 81) dX7_columnsIn_9 (by decide) (fun hc => ?_) (fun hc => ?_)
  · replace h := ip hc h
    exact aw_less (ls' := [none, none, some (vI x2), none, none]) (⟨rfl, trivial⟩) (t_X7_columnsIn_81   x2 s0 _ h)
  · replace h := ic hc h
    refine aw_aload_n dX7_columnsIn_12 rfl rfl ?_
    refine aw_getR (t := 2) dX7_columnsIn_13 fk_X7_17 pM_0 rfl ?_
    refine aw_iload_n dX7_columnsIn_16 rfl rfl ?_
    obtain ⟨hg1, h⟩ := gx_e h
    refine aw_iald dX7_columnsIn_17 aM_2 hg1 ?_
    refine aw_if_ne (tgt := 45) dX7_columnsIn_18 (by decide) (fun hc => ?_) (fun hc => ?_)
    rotate_left
    · replace h := ip hc h
      refine aw_aload_n dX7_columnsIn_21 rfl rfl ?_
      refine aw_getR (t := 15) dX7_columnsIn_22 fk_X7_56 pM_0 rfl ?_
      refine aw_iload_n dX7_columnsIn_25 rfl rfl ?_
      obtain ⟨hg2, h⟩ := gx_e h
      refine aw_iald dX7_columnsIn_26 aM_15 hg2 ?_
      refine aw_iconst dX7_columnsIn_27 ⟨by decide, by decide⟩ ?_
      refine aw_icmp_ne (tgt := 45) dX7_columnsIn_28 (by decide) (fun hc => ?_) (fun hc => ?_)
      rotate_left
      · replace h := ip hc h
        refine aw_aload_n dX7_columnsIn_31 rfl rfl ?_
        refine aw_getR (t := 13) dX7_columnsIn_32 fk_X7_50 pM_0 rfl ?_
        refine aw_iload_n dX7_columnsIn_35 rfl rfl ?_
        obtain ⟨hg3, h⟩ := gx_e h
        refine aw_iald dX7_columnsIn_36 aM_13 hg3 ?_
        refine aw_iload_n dX7_columnsIn_37 rfl rfl ?_
        refine aw_icmp_ne (tgt := 45) dX7_columnsIn_38 (by decide) (fun hc => ?_) (fun hc => ?_)
        rotate_left
        · replace h := ip hc h
          refine aw_iconst dX7_columnsIn_41 ⟨by decide, by decide⟩ ?_
          refine aw_goto (tgt := 46) dX7_columnsIn_42 (by decide) ?_
          exact (t_X7_columnsIn_46 k4 hk4 x1 x2 x3 1 s0 _ h)
        · replace h := ic hc h
          exact (t_X7_columnsIn_45 k4 hk4 x1 x2 x3 s0 _ h)
      · replace h := ic hc h
        exact (t_X7_columnsIn_45 k4 hk4 x1 x2 x3 s0 _ h)
    · replace h := ic hc h
      exact (t_X7_columnsIn_45 k4 hk4 x1 x2 x3 s0 _ h)
def f_X7_columnsIn_4 : Nat → Int → Int → Int → SS → Option Int
  | 0 => fun _ _ _ _ => none
  | n + 1 => g_X7_columnsIn_4 (f_X7_columnsIn_4  n)
theorem s_X7_columnsIn_4  : ∀ (n : Nat), ∀ (x1 : Int) (x2 : Int) (x3 : Int) (s0 : SS) (r : Int), f_X7_columnsIn_4 n x1 x2 x3 s0 = some r → AW LM M_X7_columnsIn (some (vI r), s0) 4 [some (vR (some 0)), some (vI x1), some (vI x2), some (vI x3), none] [] s0 := by
  intro n
  induction n with
  | zero =>
    intro x1 x2 x3 s0 r h
    cases h
  | succ n ih =>
    intro x1 x2 x3 s0 r h
    exact t_X7_columnsIn_4 (f_X7_columnsIn_4  n) ih x1 x2 x3 s0 r h
def f_X7_columnsIn (x1 : Int) (s0 : SS) : Option Int :=
  f_X7_columnsIn_4  FU x1 (-1) 0 s0
set_option maxHeartbeats 4000000 in
theorem t_X7_columnsIn_0  : ∀ (x1 : Int) (s0 : SS) (r : Int), f_X7_columnsIn x1 s0 = some r → AW LM M_X7_columnsIn (some (vI r), s0) 0 [some (vR (some 0)), some (vI x1), none, none, none] [] s0 := by
  intro x1 s0 r h
  unfold f_X7_columnsIn at h
  refine aw_iconst dX7_columnsIn_0 ⟨by decide, by decide⟩ ?_
  refine aw_istore_nA dX7_columnsIn_1 rfl (by decide) rfl ?_
  show AW _ _ _ 2 [some (vR (some 0)), some (vI x1), some (vI (-1)), none, none] _ _
  refine aw_iconst dX7_columnsIn_2 ⟨by decide, by decide⟩ ?_
  refine aw_istore_nA dX7_columnsIn_3 rfl (by decide) rfl ?_
  show AW _ _ _ 4 [some (vR (some 0)), some (vI x1), some (vI (-1)), some (vI 0), none] _ _
  exact (s_X7_columnsIn_4   FU x1 (-1) 0 s0 _ h)
theorem c_X7_columnsIn {x1 : Int} {s0 : SS} {y : Int} (h : f_X7_columnsIn x1 s0 = some y) : CT LM M_X7_columnsIn [vR (some 0), vI x1] s0 (some (vI y), s0) :=
  ct_of (n := 3) (by decide) (Nat.le_of_ble_eq_true rfl) (t_X7_columnsIn_0 x1 s0  _ h)
def g_X7_byteIn_113 (x3 : Int) (s0 : SS) : Option Int :=
  some x3
set_option maxHeartbeats 4000000 in
theorem t_X7_byteIn_113  : ∀ (x3 : Int) (s0 : SS) (r : Int), g_X7_byteIn_113 x3 s0 = some r → AW LM M_X7_byteIn (some (vI r), s0) 113 [none, none, none, some (vI x3), none, none] [] s0 := by
  intro x3 s0 r h
  unfold g_X7_byteIn_113 at h
  refine aw_iload_n dX7_byteIn_113 rfl rfl ?_
  obtain rfl := Option.some.inj h
  exact aw_iret dX7_byteIn_114 rfl
def g_X7_byteIn_106 (k6 : Int → Int → Int → Int → SS → Option Int) (x1 : Int) (x2 : Int) (x4 : Int) (z0 : Int) (s0 : SS) : Option Int :=
  sb (wr (x4 + 1)) fun y1 =>
  k6 x1 x2 z0 y1 s0
set_option maxHeartbeats 4000000 in
theorem t_X7_byteIn_106 (k6 : Int → Int → Int → Int → SS → Option Int) (hk6 : ∀ (x1 : Int) (x2 : Int) (x3 : Int) (x4 : Int) (s0 : SS) (r : Int), k6 x1 x2 x3 x4 s0 = some r → AW LM M_X7_byteIn (some (vI r), s0) 6 [some (vR (some 0)), some (vI x1), some (vI x2), some (vI x3), some (vI x4), none] [] s0) : ∀ (x1 : Int) (x2 : Int) (x4 : Int) (z0 : Int) (s0 : SS) (r : Int), g_X7_byteIn_106 k6 x1 x2 x4 z0 s0 = some r → AW LM M_X7_byteIn (some (vI r), s0) 106 [some (vR (some 0)), some (vI x1), some (vI x2), none, some (vI x4), none] [vI z0] s0 := by
  intro x1 x2 x4 z0 s0 r h
  unfold g_X7_byteIn_106 at h
  refine aw_istore_nA dX7_byteIn_106 rfl (by decide) rfl ?_
  show AW _ _ _ 107 [some (vR (some 0)), some (vI x1), some (vI x2), some (vI z0), some (vI x4), none] _ _
  refine aw_iinc dX7_byteIn_107 rfl (by decide) rfl (fun y1 e => ?_)
  replace h := sb_e h e
  clear e
  show AW _ _ _ 110 [some (vR (some 0)), some (vI x1), some (vI x2), some (vI z0), some (vI y1), none] _ _
  refine aw_goto (tgt := 6) dX7_byteIn_110 (by decide) ?_
  exact (hk6 x1 x2 z0 y1 s0 _ h)
def g_X7_byteIn_83 (k6 : Int → Int → Int → Int → SS → Option Int) (x1 : Int) (x2 : Int) (x3 : Int) (x4 : Int) (z0 : Int) (s0 : SS) : Option Int :=
  if z0 = 0 then (
    g_X7_byteIn_106 k6 x1 x2 x4 x3 s0
  ) else (
    gx x4 40 <|
    g_X7_byteIn_106 k6 x1 x2 x4 (wr ((wr (97 + (s0 3 x4.toNat))) - 1)) s0
  )
set_option maxHeartbeats 4000000 in
theorem t_X7_byteIn_83 (k6 : Int → Int → Int → Int → SS → Option Int) (hk6 : ∀ (x1 : Int) (x2 : Int) (x3 : Int) (x4 : Int) (s0 : SS) (r : Int), k6 x1 x2 x3 x4 s0 = some r → AW LM M_X7_byteIn (some (vI r), s0) 6 [some (vR (some 0)), some (vI x1), some (vI x2), some (vI x3), some (vI x4), none] [] s0) : ∀ (x1 : Int) (x2 : Int) (x3 : Int) (x4 : Int) (z0 : Int) (s0 : SS) (r : Int), g_X7_byteIn_83 k6 x1 x2 x3 x4 z0 s0 = some r → AW LM M_X7_byteIn (some (vI r), s0) 83 [some (vR (some 0)), some (vI x1), some (vI x2), some (vI x3), some (vI x4), none] [vI z0] s0 := by
  intro x1 x2 x3 x4 z0 s0 r h
  unfold g_X7_byteIn_83 at h
  refine aw_istoreA dX7_byteIn_83 (by decide) rfl ?_
  show AW _ _ _ 85 [some (vR (some 0)), some (vI x1), some (vI x2), some (vI x3), some (vI x4), some (vI z0)] _ _
  refine aw_iload dX7_byteIn_85 rfl ?_
  refine aw_if_eq (tgt := 105) dX7_byteIn_87 (by decide) (fun hc => ?_) (fun hc => ?_)
  · replace h := ip hc h
    refine aw_iload_n dX7_byteIn_105 rfl rfl ?_
    exact aw_less (ls' := [some (vR (some 0)), some (vI x1), some (vI x2), none, some (vI x4), none]) (⟨rfl, ⟨rfl, ⟨rfl, ⟨rfl, trivial⟩⟩⟩⟩) (t_X7_byteIn_106 k6 hk6 x1 x2 x4 x3 s0 _ h)
  · replace h := ic hc h
    refine aw_bipush dX7_byteIn_90 ⟨by decide, by decide⟩ (by decide) ?_
    refine aw_aload_n dX7_byteIn_92 rfl rfl ?_
    refine aw_getR (t := 3) dX7_byteIn_93 fk_X7_20 pM_0 rfl ?_
    refine aw_iload dX7_byteIn_96 rfl ?_
    obtain ⟨hg1, h⟩ := gx_e h
    refine aw_iald dX7_byteIn_98 aM_3 hg1 ?_
    refine aw_iadd dX7_byteIn_99 ?_
    refine aw_iconst dX7_byteIn_100 ⟨by decide, by decide⟩ ?_
    refine aw_isub dX7_byteIn_101 ?_
    refine aw_goto (tgt := 106) dX7_byteIn_102 (by decide) ?_
    exact aw_less (ls' := [some (vR (some 0)), some (vI x1), some (vI x2), none, some (vI x4), none]) (⟨rfl, ⟨rfl, ⟨rfl, ⟨rfl, trivial⟩⟩⟩⟩) (t_X7_byteIn_106 k6 hk6 x1 x2 x4 (wr ((wr (97 + (s0 3 x4.toNat))) - 1)) s0 _ h)
def g_X7_byteIn_82 (k6 : Int → Int → Int → Int → SS → Option Int) (x1 : Int) (x2 : Int) (x3 : Int) (x4 : Int) (s0 : SS) : Option Int :=
  g_X7_byteIn_83 k6 x1 x2 x3 x4 0 s0
set_option maxHeartbeats 4000000 in
theorem t_X7_byteIn_82 (k6 : Int → Int → Int → Int → SS → Option Int) (hk6 : ∀ (x1 : Int) (x2 : Int) (x3 : Int) (x4 : Int) (s0 : SS) (r : Int), k6 x1 x2 x3 x4 s0 = some r → AW LM M_X7_byteIn (some (vI r), s0) 6 [some (vR (some 0)), some (vI x1), some (vI x2), some (vI x3), some (vI x4), none] [] s0) : ∀ (x1 : Int) (x2 : Int) (x3 : Int) (x4 : Int) (s0 : SS) (r : Int), g_X7_byteIn_82 k6 x1 x2 x3 x4 s0 = some r → AW LM M_X7_byteIn (some (vI r), s0) 82 [some (vR (some 0)), some (vI x1), some (vI x2), some (vI x3), some (vI x4), none] [] s0 := by
  intro x1 x2 x3 x4 s0 r h
  unfold g_X7_byteIn_82 at h
  refine aw_iconst dX7_byteIn_82 ⟨by decide, by decide⟩ ?_
  exact (t_X7_byteIn_83 k6 hk6 x1 x2 x3 x4 0 s0 _ h)
def g_X7_byteIn_6 (k6 : Int → Int → Int → Int → SS → Option Int) (x1 : Int) (x2 : Int) (x3 : Int) (x4 : Int) (s0 : SS) : Option Int :=
  if (s0 0 4) ≤ x4 then (
    g_X7_byteIn_113  x3 s0
  ) else (
    gx x4 40 <|
    if (s0 2 x4.toNat) = 0 then (
      gx x4 40 <|
      if (s0 15 x4.toNat) = 1 then (
        gx x4 40 <|
        if (s0 13 x4.toNat) = x1 then (
          gx x4 40 <|
          gx x4 40 <|
          gx x4 40 <|
          bn (f_X7_in x2 (s0 14 x4.toNat) (wr ((wr ((s0 14 x4.toNat) + (s0 3 x4.toNat))) - 1))) fun y1 =>
          if y1 = 0 then (
            g_X7_byteIn_82 k6 x1 x2 x3 x4 s0
          ) else (
            g_X7_byteIn_83 k6 x1 x2 x3 x4 1 s0
          )
        ) else (
          g_X7_byteIn_82 k6 x1 x2 x3 x4 s0
        )
      ) else (
        g_X7_byteIn_82 k6 x1 x2 x3 x4 s0
      )
    ) else (
      g_X7_byteIn_82 k6 x1 x2 x3 x4 s0
    )
  )
set_option maxHeartbeats 4000000 in
theorem t_X7_byteIn_6 (k6 : Int → Int → Int → Int → SS → Option Int) (hk6 : ∀ (x1 : Int) (x2 : Int) (x3 : Int) (x4 : Int) (s0 : SS) (r : Int), k6 x1 x2 x3 x4 s0 = some r → AW LM M_X7_byteIn (some (vI r), s0) 6 [some (vR (some 0)), some (vI x1), some (vI x2), some (vI x3), some (vI x4), none] [] s0) : ∀ (x1 : Int) (x2 : Int) (x3 : Int) (x4 : Int) (s0 : SS) (r : Int), g_X7_byteIn_6 k6 x1 x2 x3 x4 s0 = some r → AW LM M_X7_byteIn (some (vI r), s0) 6 [some (vR (some 0)), some (vI x1), some (vI x2), some (vI x3), some (vI x4), none] [] s0 := by
  intro x1 x2 x3 x4 s0 r h
  unfold g_X7_byteIn_6 at h
  refine aw_iload dX7_byteIn_6 rfl ?_
  refine aw_aload_n dX7_byteIn_8 rfl rfl ?_
  refine aw_getI dX7_byteIn_9 fk_X7_93 pM_0 rfl ?_
  refine aw_icmp_ge (tgt := 113) dX7_byteIn_12 (by decide) (fun hc => ?_) (fun hc => ?_)
  · replace h := ip hc h
    exact aw_less (ls' := [none, none, none, some (vI x3), none, none]) (⟨rfl, trivial⟩) (t_X7_byteIn_113   x3 s0 _ h)
  · replace h := ic hc h
    refine aw_aload_n dX7_byteIn_15 rfl rfl ?_
    refine aw_getR (t := 2) dX7_byteIn_16 fk_X7_17 pM_0 rfl ?_
    refine aw_iload dX7_byteIn_19 rfl ?_
    obtain ⟨hg1, h⟩ := gx_e h
    refine aw_iald dX7_byteIn_21 aM_2 hg1 ?_
    refine aw_if_ne (tgt := 82) dX7_byteIn_22 (by decide) (fun hc => ?_) (fun hc => ?_)
    rotate_left
    · replace h := ip hc h
      refine aw_aload_n dX7_byteIn_25 rfl rfl ?_
      refine aw_getR (t := 15) dX7_byteIn_26 fk_X7_56 pM_0 rfl ?_
      refine aw_iload dX7_byteIn_29 rfl ?_
      obtain ⟨hg2, h⟩ := gx_e h
      refine aw_iald dX7_byteIn_31 aM_15 hg2 ?_
      refine aw_iconst dX7_byteIn_32 ⟨by decide, by decide⟩ ?_
      refine aw_icmp_ne (tgt := 82) dX7_byteIn_33 (by decide) (fun hc => ?_) (fun hc => ?_)
      rotate_left
      · replace h := ip hc h
        refine aw_aload_n dX7_byteIn_36 rfl rfl ?_
        refine aw_getR (t := 13) dX7_byteIn_37 fk_X7_50 pM_0 rfl ?_
        refine aw_iload dX7_byteIn_40 rfl ?_
        obtain ⟨hg3, h⟩ := gx_e h
        refine aw_iald dX7_byteIn_42 aM_13 hg3 ?_
        refine aw_iload_n dX7_byteIn_43 rfl rfl ?_
        refine aw_icmp_ne (tgt := 82) dX7_byteIn_44 (by decide) (fun hc => ?_) (fun hc => ?_)
        rotate_left
        · replace h := ip hc h
          refine aw_iload_n dX7_byteIn_47 rfl rfl ?_
          refine aw_aload_n dX7_byteIn_48 rfl rfl ?_
          refine aw_getR (t := 14) dX7_byteIn_49 fk_X7_53 pM_0 rfl ?_
          refine aw_iload dX7_byteIn_52 rfl ?_
          obtain ⟨hg4, h⟩ := gx_e h
          refine aw_iald dX7_byteIn_54 aM_14 hg4 ?_
          refine aw_aload_n dX7_byteIn_55 rfl rfl ?_
          refine aw_getR (t := 14) dX7_byteIn_56 fk_X7_53 pM_0 rfl ?_
          refine aw_iload dX7_byteIn_59 rfl ?_
          obtain ⟨hg5, h⟩ := gx_e h
          refine aw_iald dX7_byteIn_61 aM_14 hg5 ?_
          refine aw_aload_n dX7_byteIn_62 rfl rfl ?_
          refine aw_getR (t := 3) dX7_byteIn_63 fk_X7_20 pM_0 rfl ?_
          refine aw_iload dX7_byteIn_66 rfl ?_
          obtain ⟨hg6, h⟩ := gx_e h
          refine aw_iald dX7_byteIn_68 aM_3 hg6 ?_
          refine aw_iadd dX7_byteIn_69 ?_
          refine aw_iconst dX7_byteIn_70 ⟨by decide, by decide⟩ ?_
          refine aw_isub dX7_byteIn_71 ?_
          obtain ⟨y1, hg7, h⟩ := bn_e h
          refine aw_S3i (M2 := M_X7_in) dX7_byteIn_72 lk_X7_75 mk_X7_in ms_X7_in ⟨by decide, by decide⟩ (Nat.le_of_ble_eq_true rfl) (c_X7_in  hg7) ?_
          refine aw_if_eq (tgt := 82) dX7_byteIn_75 (by decide) (fun hc => ?_) (fun hc => ?_)
          · replace h := ip hc h
            exact (t_X7_byteIn_82 k6 hk6 x1 x2 x3 x4 s0 _ h)
          · replace h := ic hc h
            refine aw_iconst dX7_byteIn_78 ⟨by decide, by decide⟩ ?_
            refine aw_goto (tgt := 83) dX7_byteIn_79 (by decide) ?_
            exact (t_X7_byteIn_83 k6 hk6 x1 x2 x3 x4 1 s0 _ h)
        · replace h := ic hc h
          exact (t_X7_byteIn_82 k6 hk6 x1 x2 x3 x4 s0 _ h)
      · replace h := ic hc h
        exact (t_X7_byteIn_82 k6 hk6 x1 x2 x3 x4 s0 _ h)
    · replace h := ic hc h
      exact (t_X7_byteIn_82 k6 hk6 x1 x2 x3 x4 s0 _ h)
def f_X7_byteIn_6 : Nat → Int → Int → Int → Int → SS → Option Int
  | 0 => fun _ _ _ _ _ => none
  | n + 1 => g_X7_byteIn_6 (f_X7_byteIn_6  n)
theorem s_X7_byteIn_6  : ∀ (n : Nat), ∀ (x1 : Int) (x2 : Int) (x3 : Int) (x4 : Int) (s0 : SS) (r : Int), f_X7_byteIn_6 n x1 x2 x3 x4 s0 = some r → AW LM M_X7_byteIn (some (vI r), s0) 6 [some (vR (some 0)), some (vI x1), some (vI x2), some (vI x3), some (vI x4), none] [] s0 := by
  intro n
  induction n with
  | zero =>
    intro x1 x2 x3 x4 s0 r h
    cases h
  | succ n ih =>
    intro x1 x2 x3 x4 s0 r h
    exact t_X7_byteIn_6 (f_X7_byteIn_6  n) ih x1 x2 x3 x4 s0 r h
def f_X7_byteIn (x1 : Int) (x2 : Int) (s0 : SS) : Option Int :=
  f_X7_byteIn_6  FU x1 x2 32 0 s0
set_option maxHeartbeats 4000000 in
theorem t_X7_byteIn_0  : ∀ (x1 : Int) (x2 : Int) (s0 : SS) (r : Int), f_X7_byteIn x1 x2 s0 = some r → AW LM M_X7_byteIn (some (vI r), s0) 0 [some (vR (some 0)), some (vI x1), some (vI x2), none, none, none] [] s0 := by
  intro x1 x2 s0 r h
  unfold f_X7_byteIn at h
  refine aw_bipush dX7_byteIn_0 ⟨by decide, by decide⟩ (by decide) ?_
  refine aw_istore_nA dX7_byteIn_2 rfl (by decide) rfl ?_
  show AW _ _ _ 3 [some (vR (some 0)), some (vI x1), some (vI x2), some (vI 32), none, none] _ _
  refine aw_iconst dX7_byteIn_3 ⟨by decide, by decide⟩ ?_
  refine aw_istoreA dX7_byteIn_4 (by decide) rfl ?_
  show AW _ _ _ 6 [some (vR (some 0)), some (vI x1), some (vI x2), some (vI 32), some (vI 0), none] _ _
  exact (s_X7_byteIn_6   FU x1 x2 32 0 s0 _ h)
theorem c_X7_byteIn {x1 : Int} {x2 : Int} {s0 : SS} {y : Int} (h : f_X7_byteIn x1 x2 s0 = some y) : CT LM M_X7_byteIn [vR (some 0), vI x1, vI x2] s0 (some (vI y), s0) :=
  ct_of (n := 3) (by decide) (Nat.le_of_ble_eq_true rfl) (t_X7_byteIn_0 x1 x2 s0  _ h)
def g_X7_lineOf_34 (z0 : Int) (s0 : SS) : Option (Int × SS) :=
  some (z0, s0)
set_option maxHeartbeats 4000000 in
theorem t_X7_lineOf_34  : ∀ (z0 : Int) (s0 : SS) (r : (Int × SS)), g_X7_lineOf_34 z0 s0 = some r → AW LM M_X7_lineOf (some (vI r.1), r.2) 34 [none, none, none, none] [vI z0] s0 := by
  intro z0 s0 r h
  unfold g_X7_lineOf_34 at h
  obtain rfl := Option.some.inj h
  exact aw_iret dX7_lineOf_34 rfl
def f_X7_lineOf (x1 : Int) (x2 : Int) (s0 : SS) : Option (Int × SS) :=
  bn (f_X7_sets s0) fun s1 =>
  bn (f_X7_columnsIn x1 s1) fun y1 =>
  if x2 = (-1) then (
    g_X7_lineOf_34  y1 s1
  ) else (
    if y1 ≤ x2 then (
      g_X7_lineOf_34  (-1) s1
    ) else (
      bn (f_X7_byteIn x1 x2 s1) fun y2 =>
      g_X7_lineOf_34  y2 s1
    )
  )
set_option maxHeartbeats 4000000 in
theorem t_X7_lineOf_0  : ∀ (x1 : Int) (x2 : Int) (s0 : SS) (r : (Int × SS)), f_X7_lineOf x1 x2 s0 = some r → AW LM M_X7_lineOf (some (vI r.1), r.2) 0 [some (vR (some 0)), some (vI x1), some (vI x2), none] [] s0 := by
  intro x1 x2 s0 r h
  unfold f_X7_lineOf at h
  refine aw_aload_n dX7_lineOf_0 rfl rfl ?_
  obtain ⟨s1, hg1, h⟩ := bn_e h
  refine aw_V0v (M2 := M_X7_sets) dX7_lineOf_1 lk_X7_228 mk_X7_sets mv_X7_sets ⟨by decide, by decide⟩ pM_0 ⟨_, _, rfl⟩ (Nat.le_of_ble_eq_true rfl) (c_X7_sets  hg1) ?_
  refine aw_aload_n dX7_lineOf_4 rfl rfl ?_
  refine aw_iload_n dX7_lineOf_5 rfl rfl ?_
  obtain ⟨y1, hg2, h⟩ := bn_e h
  refine aw_V1i (M2 := M_X7_columnsIn) dX7_lineOf_6 lk_X7_231 mk_X7_columnsIn mv_X7_columnsIn ⟨by decide, by decide⟩ pM_0 ⟨_, _, rfl⟩ (Nat.le_of_ble_eq_true rfl) (c_X7_columnsIn  hg2) ?_
  refine aw_istore_nA dX7_lineOf_9 rfl (by decide) rfl ?_
  show AW _ _ _ 10 [some (vR (some 0)), some (vI x1), some (vI x2), some (vI y1)] _ _
  refine aw_iload_n dX7_lineOf_10 rfl rfl ?_
  refine aw_iconst dX7_lineOf_11 ⟨by decide, by decide⟩ ?_
  refine aw_icmp_ne (tgt := 19) dX7_lineOf_12 (by decide) (fun hc => ?_) (fun hc => ?_)
  rotate_left
  · replace h := ip hc h
    refine aw_iload_n dX7_lineOf_15 rfl rfl ?_
    refine aw_goto (tgt := 34) dX7_lineOf_16 (by decide) ?_
    exact aw_less (ls' := [none, none, none, none]) (trivial) (t_X7_lineOf_34   y1 s1 _ h)
  · replace h := ic hc h
    refine aw_iload_n dX7_lineOf_19 rfl rfl ?_
    refine aw_iload_n dX7_lineOf_20 rfl rfl ?_
    refine aw_icmp_ge (tgt := 33) dX7_lineOf_21 (by decide) (fun hc => ?_) (fun hc => ?_)
    · replace h := ip hc h
      refine aw_iconst dX7_lineOf_33 ⟨by decide, by decide⟩ ?_
      exact aw_less (ls' := [none, none, none, none]) (trivial) (t_X7_lineOf_34   (-1) s1 _ h)
    · replace h := ic hc h
      refine aw_aload_n dX7_lineOf_24 rfl rfl ?_
      refine aw_iload_n dX7_lineOf_25 rfl rfl ?_
      refine aw_iload_n dX7_lineOf_26 rfl rfl ?_
      obtain ⟨y2, hg3, h⟩ := bn_e h
      refine aw_V2i (M2 := M_X7_byteIn) dX7_lineOf_27 lk_X7_234 mk_X7_byteIn mv_X7_byteIn ⟨by decide, by decide⟩ pM_0 ⟨_, _, rfl⟩ (Nat.le_of_ble_eq_true rfl) (c_X7_byteIn  hg3) ?_
      refine aw_goto (tgt := 34) dX7_lineOf_30 (by decide) ?_
      exact aw_less (ls' := [none, none, none, none]) (trivial) (t_X7_lineOf_34   y2 s1 _ h)
theorem c_X7_lineOf {x1 : Int} {x2 : Int} {s0 : SS} {y : Int} {s1 : SS} (h : f_X7_lineOf x1 x2 s0 = some (y, s1)) : CT LM M_X7_lineOf [vR (some 0), vI x1, vI x2] s0 (some (vI y), s1) :=
  ct_of (n := 1) (by decide) (Nat.le_of_ble_eq_true rfl) (t_X7_lineOf_0 x1 x2 s0  _ h)
def g_X7_line_32 (z0 : Int) (s0 : SS) : Option (Int × SS) :=
  some (z0, s0)
set_option maxHeartbeats 4000000 in
theorem t_X7_line_32  : ∀ (z0 : Int) (s0 : SS) (r : (Int × SS)), g_X7_line_32 z0 s0 = some r → AW LM M_X7_line (some (vI r.1), r.2) 32 [none, none, none] [vI z0] s0 := by
  intro z0 s0 r h
  unfold g_X7_line_32 at h
  obtain rfl := Option.some.inj h
  exact aw_iret dX7_line_32 rfl
def g_X7_line_30  (s0 : SS) : Option (Int × SS) :=
  g_X7_line_32  (-2) s0
set_option maxHeartbeats 4000000 in
theorem t_X7_line_30  : ∀ (s0 : SS) (r : (Int × SS)), g_X7_line_30 s0 = some r → AW LM M_X7_line (some (vI r.1), r.2) 30 [none, none, none] [] s0 := by
  intro s0 r h
  unfold g_X7_line_30 at h
  refine aw_bipush dX7_line_30 ⟨by decide, by decide⟩ (by decide) ?_
  exact (t_X7_line_32   (-2) s0 _ h)
def f_X7_line (x1 : Int) (x2 : Int) (s0 : SS) : Option (Int × SS) :=
  bn (f_X7_in x1 0 99) fun y1 =>
  if y1 = 0 then (
    g_X7_line_30  s0
  ) else (
    bn (f_X7_in x2 (-1) 399) fun y2 =>
    if y2 = 0 then (
      g_X7_line_30  s0
    ) else (
      cb (f_X7_lineOf x1 x2 s0) fun y3 s1 =>
      g_X7_line_32  y3 s1
    )
  )
set_option maxHeartbeats 4000000 in
theorem t_X7_line_0  : ∀ (x1 : Int) (x2 : Int) (s0 : SS) (r : (Int × SS)), f_X7_line x1 x2 s0 = some r → AW LM M_X7_line (some (vI r.1), r.2) 0 [some (vR (some 0)), some (vI x1), some (vI x2)] [] s0 := by
  intro x1 x2 s0 r h
  unfold f_X7_line at h
  refine aw_iload_n dX7_line_0 rfl rfl ?_
  refine aw_iconst dX7_line_1 ⟨by decide, by decide⟩ ?_
  refine aw_bipush dX7_line_2 ⟨by decide, by decide⟩ (by decide) ?_
  obtain ⟨y1, hg1, h⟩ := bn_e h
  refine aw_S3i (M2 := M_X7_in) dX7_line_4 lk_X7_75 mk_X7_in ms_X7_in ⟨by decide, by decide⟩ (Nat.le_of_ble_eq_true rfl) (c_X7_in  hg1) ?_
  refine aw_if_eq (tgt := 30) dX7_line_7 (by decide) (fun hc => ?_) (fun hc => ?_)
  · replace h := ip hc h
    exact aw_less (ls' := [none, none, none]) (trivial) (t_X7_line_30   s0 _ h)
  · replace h := ic hc h
    refine aw_iload_n dX7_line_10 rfl rfl ?_
    refine aw_iconst dX7_line_11 ⟨by decide, by decide⟩ ?_
    refine aw_sipush dX7_line_12 ⟨by decide, by decide⟩ (by decide) ?_
    obtain ⟨y2, hg2, h⟩ := bn_e h
    refine aw_S3i (M2 := M_X7_in) dX7_line_15 lk_X7_75 mk_X7_in ms_X7_in ⟨by decide, by decide⟩ (Nat.le_of_ble_eq_true rfl) (c_X7_in  hg2) ?_
    refine aw_if_eq (tgt := 30) dX7_line_18 (by decide) (fun hc => ?_) (fun hc => ?_)
    · replace h := ip hc h
      exact aw_less (ls' := [none, none, none]) (trivial) (t_X7_line_30   s0 _ h)
    · replace h := ic hc h
      refine aw_aload_n dX7_line_21 rfl rfl ?_
      refine aw_iload_n dX7_line_22 rfl rfl ?_
      refine aw_iload_n dX7_line_23 rfl rfl ?_
      obtain ⟨y3, s1, hg3, h⟩ := cb_e h
      refine aw_V2i (M2 := M_X7_lineOf) dX7_line_24 lk_X7_237 mk_X7_lineOf mv_X7_lineOf ⟨by decide, by decide⟩ pM_0 ⟨_, _, rfl⟩ (Nat.le_of_ble_eq_true rfl) (c_X7_lineOf  hg3) ?_
      refine aw_goto (tgt := 32) dX7_line_27 (by decide) ?_
      exact aw_less (ls' := [none, none, none]) (trivial) (t_X7_line_32   y3 s1 _ h)
theorem c_X7_line {x1 : Int} {x2 : Int} {s0 : SS} {y : Int} {s1 : SS} (h : f_X7_line x1 x2 s0 = some (y, s1)) : CT LM M_X7_line [vR (some 0), vI x1, vI x2] s0 (some (vI y), s1) :=
  ct_of (n := 0) (by decide) (Nat.le_of_ble_eq_true rfl) (t_X7_line_0 x1 x2 s0  _ h)
def g_X7_isAllowed_28 (z0 : Int) (s0 : SS) : Option Int :=
  gb z0 <|
  some z0
set_option maxHeartbeats 4000000 in
theorem t_X7_isAllowed_28  : ∀ (z0 : Int) (s0 : SS) (r : Int), g_X7_isAllowed_28 z0 s0 = some r → AW LM M_X7_isAllowed (some (vI r), s0) 28 [none, none, none] [vI z0] s0 := by
  intro z0 s0 r h
  unfold g_X7_isAllowed_28 at h
  obtain ⟨hg1, h⟩ := gb_e h
  obtain rfl := Option.some.inj h
  exact aw_zret dX7_isAllowed_28 rfl hg1
def g_X7_isAllowed_27  (s0 : SS) : Option Int :=
  g_X7_isAllowed_28  0 s0
set_option maxHeartbeats 4000000 in
theorem t_X7_isAllowed_27  : ∀ (s0 : SS) (r : Int), g_X7_isAllowed_27 s0 = some r → AW LM M_X7_isAllowed (some (vI r), s0) 27 [none, none, none] [] s0 := by
  intro s0 r h
  unfold g_X7_isAllowed_27 at h
  refine aw_iconst dX7_isAllowed_27 ⟨by decide, by decide⟩ ?_
  exact (t_X7_isAllowed_28   0 s0 _ h)
def f_X7_isAllowed (x1 : Int) (x2 : Int) (s0 : SS) : Option Int :=
  gx x1 64 <|
  if (s0 12 x1.toNat) = (-1) then (
    g_X7_isAllowed_27  s0
  ) else (
    gx x1 64 <|
    bn (f_X7_most (s0 12 x1.toNat)) fun y1 =>
    if x2 < y1 then (
      g_X7_isAllowed_27  s0
    ) else (
      g_X7_isAllowed_28  1 s0
    )
  )
set_option maxHeartbeats 4000000 in
theorem t_X7_isAllowed_0  : ∀ (x1 : Int) (x2 : Int) (s0 : SS) (r : Int), f_X7_isAllowed x1 x2 s0 = some r → AW LM M_X7_isAllowed (some (vI r), s0) 0 [some (vR (some 0)), some (vI x1), some (vI x2)] [] s0 := by
  intro x1 x2 s0 r h
  unfold f_X7_isAllowed at h
  refine aw_aload_n dX7_isAllowed_0 rfl rfl ?_
  refine aw_getR (t := 12) dX7_isAllowed_1 fk_X7_47 pM_0 rfl ?_
  refine aw_iload_n dX7_isAllowed_4 rfl rfl ?_
  obtain ⟨hg1, h⟩ := gx_e h
  refine aw_iald dX7_isAllowed_5 aM_12 hg1 ?_
  refine aw_iconst dX7_isAllowed_6 ⟨by decide, by decide⟩ ?_
  refine aw_icmp_eq (tgt := 27) dX7_isAllowed_7 (by decide) (fun hc => ?_) (fun hc => ?_)
  · replace h := ip hc h
    exact aw_less (ls' := [none, none, none]) (trivial) (t_X7_isAllowed_27   s0 _ h)
  · replace h := ic hc h
    refine aw_aload_n dX7_isAllowed_10 rfl rfl ?_
    refine aw_getR (t := 12) dX7_isAllowed_11 fk_X7_47 pM_0 rfl ?_
    refine aw_iload_n dX7_isAllowed_14 rfl rfl ?_
    obtain ⟨hg2, h⟩ := gx_e h
    refine aw_iald dX7_isAllowed_15 aM_12 hg2 ?_
    obtain ⟨y1, hg3, h⟩ := bn_e h
    refine aw_S1i (M2 := M_X7_most) dX7_isAllowed_16 lk_X7_127 mk_X7_most ms_X7_most ⟨by decide, by decide⟩ (Nat.le_of_ble_eq_true rfl) (c_X7_most  hg3) ?_
    refine aw_iload_n dX7_isAllowed_19 rfl rfl ?_
    refine aw_icmp_gt (tgt := 27) dX7_isAllowed_20 (by decide) (fun hc => ?_) (fun hc => ?_)
    · replace h := ip hc h
      exact aw_less (ls' := [none, none, none]) (trivial) (t_X7_isAllowed_27   s0 _ h)
    · replace h := ic hc h
      refine aw_iconst dX7_isAllowed_23 ⟨by decide, by decide⟩ ?_
      refine aw_goto (tgt := 28) dX7_isAllowed_24 (by decide) ?_
      exact aw_less (ls' := [none, none, none]) (trivial) (t_X7_isAllowed_28   1 s0 _ h)
theorem c_X7_isAllowed {x1 : Int} {x2 : Int} {s0 : SS} {y : Int} (h : f_X7_isAllowed x1 x2 s0 = some y) : CT LM M_X7_isAllowed [vR (some 0), vI x1, vI x2] s0 (some (vI y), s0) :=
  ct_of (n := 0) (by decide) (Nat.le_of_ble_eq_true rfl) (t_X7_isAllowed_0 x1 x2 s0  _ h)
def g_X7_isAny_53 (x3 : Int) (s0 : SS) : Option Int :=
  gb x3 <|
  some x3
set_option maxHeartbeats 4000000 in
theorem t_X7_isAny_53  : ∀ (x3 : Int) (s0 : SS) (r : Int), g_X7_isAny_53 x3 s0 = some r → AW LM M_X7_isAny (some (vI r), s0) 53 [none, none, none, some (vI x3), none] [] s0 := by
  intro x3 s0 r h
  unfold g_X7_isAny_53 at h
  refine aw_iload_n dX7_isAny_53 rfl rfl ?_
  obtain ⟨hg1, h⟩ := gb_e h
  obtain rfl := Option.some.inj h
  exact aw_zret dX7_isAny_54 rfl hg1
def g_X7_isAny_46 (k5 : Int → Int → Int → Int → SS → Option Int) (x1 : Int) (x2 : Int) (x4 : Int) (z0 : Int) (s0 : SS) : Option Int :=
  sb (wr (x4 + 1)) fun y1 =>
  k5 x1 x2 z0 y1 s0
set_option maxHeartbeats 4000000 in
theorem t_X7_isAny_46 (k5 : Int → Int → Int → Int → SS → Option Int) (hk5 : ∀ (x1 : Int) (x2 : Int) (x3 : Int) (x4 : Int) (s0 : SS) (r : Int), k5 x1 x2 x3 x4 s0 = some r → AW LM M_X7_isAny (some (vI r), s0) 5 [some (vR (some 0)), some (vI x1), some (vI x2), some (vI x3), some (vI x4)] [] s0) : ∀ (x1 : Int) (x2 : Int) (x4 : Int) (z0 : Int) (s0 : SS) (r : Int), g_X7_isAny_46 k5 x1 x2 x4 z0 s0 = some r → AW LM M_X7_isAny (some (vI r), s0) 46 [some (vR (some 0)), some (vI x1), some (vI x2), none, some (vI x4)] [vI z0] s0 := by
  intro x1 x2 x4 z0 s0 r h
  unfold g_X7_isAny_46 at h
  refine aw_istore_nA dX7_isAny_46 rfl (by decide) rfl ?_
  show AW _ _ _ 47 [some (vR (some 0)), some (vI x1), some (vI x2), some (vI z0), some (vI x4)] _ _
  refine aw_iinc dX7_isAny_47 rfl (by decide) rfl (fun y1 e => ?_)
  replace h := sb_e h e
  clear e
  show AW _ _ _ 50 [some (vR (some 0)), some (vI x1), some (vI x2), some (vI z0), some (vI y1)] _ _
  refine aw_goto (tgt := 5) dX7_isAny_50 (by decide) ?_
  exact (hk5 x1 x2 z0 y1 s0 _ h)
def g_X7_isAny_45 (k5 : Int → Int → Int → Int → SS → Option Int) (x1 : Int) (x2 : Int) (x4 : Int) (s0 : SS) : Option Int :=
  g_X7_isAny_46 k5 x1 x2 x4 0 s0
set_option maxHeartbeats 4000000 in
theorem t_X7_isAny_45 (k5 : Int → Int → Int → Int → SS → Option Int) (hk5 : ∀ (x1 : Int) (x2 : Int) (x3 : Int) (x4 : Int) (s0 : SS) (r : Int), k5 x1 x2 x3 x4 s0 = some r → AW LM M_X7_isAny (some (vI r), s0) 5 [some (vR (some 0)), some (vI x1), some (vI x2), some (vI x3), some (vI x4)] [] s0) : ∀ (x1 : Int) (x2 : Int) (x4 : Int) (s0 : SS) (r : Int), g_X7_isAny_45 k5 x1 x2 x4 s0 = some r → AW LM M_X7_isAny (some (vI r), s0) 45 [some (vR (some 0)), some (vI x1), some (vI x2), none, some (vI x4)] [] s0 := by
  intro x1 x2 x4 s0 r h
  unfold g_X7_isAny_45 at h
  refine aw_iconst dX7_isAny_45 ⟨by decide, by decide⟩ ?_
  exact (t_X7_isAny_46 k5 hk5 x1 x2 x4 0 s0 _ h)
def g_X7_isAny_41 (k5 : Int → Int → Int → Int → SS → Option Int) (x1 : Int) (x2 : Int) (x4 : Int) (s0 : SS) : Option Int :=
  g_X7_isAny_46 k5 x1 x2 x4 1 s0
set_option maxHeartbeats 4000000 in
theorem t_X7_isAny_41 (k5 : Int → Int → Int → Int → SS → Option Int) (hk5 : ∀ (x1 : Int) (x2 : Int) (x3 : Int) (x4 : Int) (s0 : SS) (r : Int), k5 x1 x2 x3 x4 s0 = some r → AW LM M_X7_isAny (some (vI r), s0) 5 [some (vR (some 0)), some (vI x1), some (vI x2), some (vI x3), some (vI x4)] [] s0) : ∀ (x1 : Int) (x2 : Int) (x4 : Int) (s0 : SS) (r : Int), g_X7_isAny_41 k5 x1 x2 x4 s0 = some r → AW LM M_X7_isAny (some (vI r), s0) 41 [some (vR (some 0)), some (vI x1), some (vI x2), none, some (vI x4)] [] s0 := by
  intro x1 x2 x4 s0 r h
  unfold g_X7_isAny_41 at h
  refine aw_iconst dX7_isAny_41 ⟨by decide, by decide⟩ ?_
  refine aw_goto (tgt := 46) dX7_isAny_42 (by decide) ?_
  exact (t_X7_isAny_46 k5 hk5 x1 x2 x4 1 s0 _ h)
def g_X7_isAny_5 (k5 : Int → Int → Int → Int → SS → Option Int) (x1 : Int) (x2 : Int) (x3 : Int) (x4 : Int) (s0 : SS) : Option Int :=
  if 64 ≤ x4 then (
    g_X7_isAny_53  x3 s0
  ) else (
    if x3 = 0 then (
      if (i_and x4 (wr ((i_shl 1 x2) - 1))) = x1 then (
        bn (f_X7_isAllowed x4 (s0 0 2) s0) fun y1 =>
        if y1 = 0 then (
          g_X7_isAny_45 k5 x1 x2 x4 s0
        ) else (
          g_X7_isAny_41 k5 x1 x2 x4 s0
        )
      ) else (
        g_X7_isAny_45 k5 x1 x2 x4 s0
      )
    ) else (
      g_X7_isAny_41 k5 x1 x2 x4 s0
    )
  )
set_option maxHeartbeats 4000000 in
theorem t_X7_isAny_5 (k5 : Int → Int → Int → Int → SS → Option Int) (hk5 : ∀ (x1 : Int) (x2 : Int) (x3 : Int) (x4 : Int) (s0 : SS) (r : Int), k5 x1 x2 x3 x4 s0 = some r → AW LM M_X7_isAny (some (vI r), s0) 5 [some (vR (some 0)), some (vI x1), some (vI x2), some (vI x3), some (vI x4)] [] s0) : ∀ (x1 : Int) (x2 : Int) (x3 : Int) (x4 : Int) (s0 : SS) (r : Int), g_X7_isAny_5 k5 x1 x2 x3 x4 s0 = some r → AW LM M_X7_isAny (some (vI r), s0) 5 [some (vR (some 0)), some (vI x1), some (vI x2), some (vI x3), some (vI x4)] [] s0 := by
  intro x1 x2 x3 x4 s0 r h
  unfold g_X7_isAny_5 at h
  refine aw_iload dX7_isAny_5 rfl ?_
  refine aw_bipush dX7_isAny_7 ⟨by decide, by decide⟩ (by decide) ?_
  refine aw_icmp_ge (tgt := 53) dX7_isAny_9 (by decide) (fun hc => ?_) (fun hc => ?_)
  · replace h := ip hc h
    exact aw_less (ls' := [none, none, none, some (vI x3), none]) (⟨rfl, trivial⟩) (t_X7_isAny_53   x3 s0 _ h)
  · replace h := ic hc h
    refine aw_iload_n dX7_isAny_12 rfl rfl ?_
    refine aw_if_ne (tgt := 41) dX7_isAny_13 (by decide) (fun hc => ?_) (fun hc => ?_)
    rotate_left
    · replace h := ip hc h
      refine aw_iload dX7_isAny_16 rfl ?_
      refine aw_iconst dX7_isAny_18 ⟨by decide, by decide⟩ ?_
      refine aw_iload_n dX7_isAny_19 rfl rfl ?_
      refine aw_ishl dX7_isAny_20 ?_
      refine aw_iconst dX7_isAny_21 ⟨by decide, by decide⟩ ?_
      refine aw_isub dX7_isAny_22 ?_
      refine aw_iand dX7_isAny_23 ?_
      refine aw_iload_n dX7_isAny_24 rfl rfl ?_
      refine aw_icmp_ne (tgt := 45) dX7_isAny_25 (by decide) (fun hc => ?_) (fun hc => ?_)
      rotate_left
      · replace h := ip hc h
        refine aw_aload_n dX7_isAny_28 rfl rfl ?_
        refine aw_iload dX7_isAny_29 rfl ?_
        refine aw_aload_n dX7_isAny_31 rfl rfl ?_
        refine aw_getI dX7_isAny_32 fk_X7_13 pM_0 rfl ?_
        obtain ⟨y1, hg1, h⟩ := bn_e h
        refine aw_V2i (M2 := M_X7_isAllowed) dX7_isAny_35 lk_X7_240 mk_X7_isAllowed mv_X7_isAllowed ⟨by decide, by decide⟩ pM_0 ⟨_, _, rfl⟩ (Nat.le_of_ble_eq_true rfl) (c_X7_isAllowed  hg1) ?_
        refine aw_if_eq (tgt := 45) dX7_isAny_38 (by decide) (fun hc => ?_) (fun hc => ?_)
        · replace h := ip hc h
          exact aw_less (ls' := [some (vR (some 0)), some (vI x1), some (vI x2), none, some (vI x4)]) (⟨rfl, ⟨rfl, ⟨rfl, ⟨rfl, trivial⟩⟩⟩⟩) (t_X7_isAny_45 k5 hk5 x1 x2 x4 s0 _ h)
        · replace h := ic hc h
          exact aw_less (ls' := [some (vR (some 0)), some (vI x1), some (vI x2), none, some (vI x4)]) (⟨rfl, ⟨rfl, ⟨rfl, ⟨rfl, trivial⟩⟩⟩⟩) (t_X7_isAny_41 k5 hk5 x1 x2 x4 s0 _ h)
      · replace h := ic hc h
        exact aw_less (ls' := [some (vR (some 0)), some (vI x1), some (vI x2), none, some (vI x4)]) (⟨rfl, ⟨rfl, ⟨rfl, ⟨rfl, trivial⟩⟩⟩⟩) (t_X7_isAny_45 k5 hk5 x1 x2 x4 s0 _ h)
    · replace h := ic hc h
      exact aw_less (ls' := [some (vR (some 0)), some (vI x1), some (vI x2), none, some (vI x4)]) (⟨rfl, ⟨rfl, ⟨rfl, ⟨rfl, trivial⟩⟩⟩⟩) (t_X7_isAny_41 k5 hk5 x1 x2 x4 s0 _ h)
def f_X7_isAny_5 : Nat → Int → Int → Int → Int → SS → Option Int
  | 0 => fun _ _ _ _ _ => none
  | n + 1 => g_X7_isAny_5 (f_X7_isAny_5  n)
theorem s_X7_isAny_5  : ∀ (n : Nat), ∀ (x1 : Int) (x2 : Int) (x3 : Int) (x4 : Int) (s0 : SS) (r : Int), f_X7_isAny_5 n x1 x2 x3 x4 s0 = some r → AW LM M_X7_isAny (some (vI r), s0) 5 [some (vR (some 0)), some (vI x1), some (vI x2), some (vI x3), some (vI x4)] [] s0 := by
  intro n
  induction n with
  | zero =>
    intro x1 x2 x3 x4 s0 r h
    cases h
  | succ n ih =>
    intro x1 x2 x3 x4 s0 r h
    exact t_X7_isAny_5 (f_X7_isAny_5  n) ih x1 x2 x3 x4 s0 r h
def f_X7_isAny (x1 : Int) (x2 : Int) (s0 : SS) : Option Int :=
  f_X7_isAny_5  FU x1 x2 0 0 s0
set_option maxHeartbeats 4000000 in
theorem t_X7_isAny_0  : ∀ (x1 : Int) (x2 : Int) (s0 : SS) (r : Int), f_X7_isAny x1 x2 s0 = some r → AW LM M_X7_isAny (some (vI r), s0) 0 [some (vR (some 0)), some (vI x1), some (vI x2), none, none] [] s0 := by
  intro x1 x2 s0 r h
  unfold f_X7_isAny at h
  refine aw_iconst dX7_isAny_0 ⟨by decide, by decide⟩ ?_
  refine aw_istore_nA dX7_isAny_1 rfl (by decide) rfl ?_
  show AW _ _ _ 2 [some (vR (some 0)), some (vI x1), some (vI x2), some (vI 0), none] _ _
  refine aw_iconst dX7_isAny_2 ⟨by decide, by decide⟩ ?_
  refine aw_istoreA dX7_isAny_3 (by decide) rfl ?_
  show AW _ _ _ 5 [some (vR (some 0)), some (vI x1), some (vI x2), some (vI 0), some (vI 0)] _ _
  exact (s_X7_isAny_5   FU x1 x2 0 0 s0 _ h)
theorem c_X7_isAny {x1 : Int} {x2 : Int} {s0 : SS} {y : Int} (h : f_X7_isAny x1 x2 s0 = some y) : CT LM M_X7_isAny [vR (some 0), vI x1, vI x2] s0 (some (vI y), s0) :=
  ct_of (n := 2) (by decide) (Nat.le_of_ble_eq_true rfl) (t_X7_isAny_0 x1 x2 s0  _ h)
def g_X7_hasteOf_88 (z0 : Int) (s0 : SS) : Option (Int × SS) :=
  some (z0, s0)
set_option maxHeartbeats 4000000 in
theorem t_X7_hasteOf_88  : ∀ (z0 : Int) (s0 : SS) (r : (Int × SS)), g_X7_hasteOf_88 z0 s0 = some r → AW LM M_X7_hasteOf (some (vI r.1), r.2) 88 [none, none, none, none] [vI z0] s0 := by
  intro z0 s0 r h
  unfold g_X7_hasteOf_88 at h
  obtain rfl := Option.some.inj h
  exact aw_iret dX7_hasteOf_88 rfl
def g_X7_hasteOf_54 (x1 : Int) (x2 : Int) (s0 : SS) : Option (Int × SS) :=
  if x1 = 0 then (
    g_X7_hasteOf_88  x2 s0
  ) else (
    if x1 = 1 then (
      gx x2 64 <|
      bn (f_X7_lines (s0 12 x2.toNat)) fun y1 =>
      g_X7_hasteOf_88  y1 s0
    ) else (
      gx x2 64 <|
      bn (f_X7_most (s0 12 x2.toNat)) fun y2 =>
      g_X7_hasteOf_88  y2 s0
    )
  )
set_option maxHeartbeats 4000000 in
theorem t_X7_hasteOf_54  : ∀ (x1 : Int) (x2 : Int) (s0 : SS) (r : (Int × SS)), g_X7_hasteOf_54 x1 x2 s0 = some r → AW LM M_X7_hasteOf (some (vI r.1), r.2) 54 [some (vR (some 0)), some (vI x1), some (vI x2), none] [] s0 := by
  intro x1 x2 s0 r h
  unfold g_X7_hasteOf_54 at h
  refine aw_iload_n dX7_hasteOf_54 rfl rfl ?_
  refine aw_if_ne (tgt := 62) dX7_hasteOf_55 (by decide) (fun hc => ?_) (fun hc => ?_)
  rotate_left
  · replace h := ip hc h
    refine aw_iload_n dX7_hasteOf_58 rfl rfl ?_
    refine aw_goto (tgt := 88) dX7_hasteOf_59 (by decide) ?_
    exact aw_less (ls' := [none, none, none, none]) (trivial) (t_X7_hasteOf_88   x2 s0 _ h)
  · replace h := ic hc h
    refine aw_iload_n dX7_hasteOf_62 rfl rfl ?_
    refine aw_iconst dX7_hasteOf_63 ⟨by decide, by decide⟩ ?_
    refine aw_icmp_ne (tgt := 79) dX7_hasteOf_64 (by decide) (fun hc => ?_) (fun hc => ?_)
    rotate_left
    · replace h := ip hc h
      refine aw_aload_n dX7_hasteOf_67 rfl rfl ?_
      refine aw_getR (t := 12) dX7_hasteOf_68 fk_X7_47 pM_0 rfl ?_
      refine aw_iload_n dX7_hasteOf_71 rfl rfl ?_
      obtain ⟨hg1, h⟩ := gx_e h
      refine aw_iald dX7_hasteOf_72 aM_12 hg1 ?_
      obtain ⟨y1, hg2, h⟩ := bn_e h
      refine aw_S1i (M2 := M_X7_lines) dX7_hasteOf_73 lk_X7_121 mk_X7_lines ms_X7_lines ⟨by decide, by decide⟩ (Nat.le_of_ble_eq_true rfl) (c_X7_lines  hg2) ?_
      refine aw_goto (tgt := 88) dX7_hasteOf_76 (by decide) ?_
      exact aw_less (ls' := [none, none, none, none]) (trivial) (t_X7_hasteOf_88   y1 s0 _ h)
    · replace h := ic hc h
      refine aw_aload_n dX7_hasteOf_79 rfl rfl ?_
      refine aw_getR (t := 12) dX7_hasteOf_80 fk_X7_47 pM_0 rfl ?_
      refine aw_iload_n dX7_hasteOf_83 rfl rfl ?_
      obtain ⟨hg3, h⟩ := gx_e h
      refine aw_iald dX7_hasteOf_84 aM_12 hg3 ?_
      obtain ⟨y2, hg4, h⟩ := bn_e h
      refine aw_S1i (M2 := M_X7_most) dX7_hasteOf_85 lk_X7_127 mk_X7_most ms_X7_most ⟨by decide, by decide⟩ (Nat.le_of_ble_eq_true rfl) (c_X7_most  hg4) ?_
      exact aw_less (ls' := [none, none, none, none]) (trivial) (t_X7_hasteOf_88   y2 s0 _ h)
def g_X7_hasteOf_46 (k19 : Int → Int → Int → SS → Option (Int × SS)) (x1 : Int) (x3 : Int) (z0 : Int) (z1 : Int) (s0 : SS) : Option (Int × SS) :=
  sb (i_or z1 z0) fun y1 =>
  sb (wr (x3 + 1)) fun y2 =>
  k19 x1 y1 y2 s0
set_option maxHeartbeats 4000000 in
theorem t_X7_hasteOf_46 (k19 : Int → Int → Int → SS → Option (Int × SS)) (hk19 : ∀ (x1 : Int) (x2 : Int) (x3 : Int) (s0 : SS) (r : (Int × SS)), k19 x1 x2 x3 s0 = some r → AW LM M_X7_hasteOf (some (vI r.1), r.2) 19 [some (vR (some 0)), some (vI x1), some (vI x2), some (vI x3)] [] s0) : ∀ (x1 : Int) (x3 : Int) (z0 : Int) (z1 : Int) (s0 : SS) (r : (Int × SS)), g_X7_hasteOf_46 k19 x1 x3 z0 z1 s0 = some r → AW LM M_X7_hasteOf (some (vI r.1), r.2) 46 [some (vR (some 0)), some (vI x1), none, some (vI x3)] [vI z0, vI z1] s0 := by
  intro x1 x3 z0 z1 s0 r h
  unfold g_X7_hasteOf_46 at h
  refine aw_ior dX7_hasteOf_46 ?_
  refine aw_istore_n dX7_hasteOf_47 rfl (by decide) rfl (fun y1 e => ?_)
  replace h := sb_e h e
  clear e
  show AW _ _ _ 48 [some (vR (some 0)), some (vI x1), some (vI y1), some (vI x3)] _ _
  refine aw_iinc dX7_hasteOf_48 rfl (by decide) rfl (fun y2 e => ?_)
  replace h := sb_e h e
  clear e
  show AW _ _ _ 51 [some (vR (some 0)), some (vI x1), some (vI y1), some (vI y2)] _ _
  refine aw_goto (tgt := 19) dX7_hasteOf_51 (by decide) ?_
  exact (hk19 x1 y1 y2 s0 _ h)
def g_X7_hasteOf_19 (k19 : Int → Int → Int → SS → Option (Int × SS)) (x1 : Int) (x2 : Int) (x3 : Int) (s0 : SS) : Option (Int × SS) :=
  if (s0 0 5) ≤ x3 then (
    g_X7_hasteOf_54  x1 x2 s0
  ) else (
    bn (f_X7_isAny x2 (wr (x3 + 1)) s0) fun y1 =>
    if y1 = 0 then (
      g_X7_hasteOf_46 k19 x1 x3 (i_shl 1 x3) x2 s0
    ) else (
      g_X7_hasteOf_46 k19 x1 x3 0 x2 s0
    )
  )
set_option maxHeartbeats 4000000 in
theorem t_X7_hasteOf_19 (k19 : Int → Int → Int → SS → Option (Int × SS)) (hk19 : ∀ (x1 : Int) (x2 : Int) (x3 : Int) (s0 : SS) (r : (Int × SS)), k19 x1 x2 x3 s0 = some r → AW LM M_X7_hasteOf (some (vI r.1), r.2) 19 [some (vR (some 0)), some (vI x1), some (vI x2), some (vI x3)] [] s0) : ∀ (x1 : Int) (x2 : Int) (x3 : Int) (s0 : SS) (r : (Int × SS)), g_X7_hasteOf_19 k19 x1 x2 x3 s0 = some r → AW LM M_X7_hasteOf (some (vI r.1), r.2) 19 [some (vR (some 0)), some (vI x1), some (vI x2), some (vI x3)] [] s0 := by
  intro x1 x2 x3 s0 r h
  unfold g_X7_hasteOf_19 at h
  refine aw_iload_n dX7_hasteOf_19 rfl rfl ?_
  refine aw_aload_n dX7_hasteOf_20 rfl rfl ?_
  refine aw_getI dX7_hasteOf_21 fk_X7_96 pM_0 rfl ?_
  refine aw_icmp_ge (tgt := 54) dX7_hasteOf_24 (by decide) (fun hc => ?_) (fun hc => ?_)
  · replace h := ip hc h
    exact aw_less (ls' := [some (vR (some 0)), some (vI x1), some (vI x2), none]) (⟨rfl, ⟨rfl, ⟨rfl, trivial⟩⟩⟩) (t_X7_hasteOf_54   x1 x2 s0 _ h)
  · replace h := ic hc h
    refine aw_iload_n dX7_hasteOf_27 rfl rfl ?_
    refine aw_aload_n dX7_hasteOf_28 rfl rfl ?_
    refine aw_iload_n dX7_hasteOf_29 rfl rfl ?_
    refine aw_iload_n dX7_hasteOf_30 rfl rfl ?_
    refine aw_iconst dX7_hasteOf_31 ⟨by decide, by decide⟩ ?_
    refine aw_iadd dX7_hasteOf_32 ?_
    obtain ⟨y1, hg1, h⟩ := bn_e h
    refine aw_V2i (M2 := M_X7_isAny) dX7_hasteOf_33 lk_X7_246 mk_X7_isAny mv_X7_isAny ⟨by decide, by decide⟩ pM_0 ⟨_, _, rfl⟩ (Nat.le_of_ble_eq_true rfl) (c_X7_isAny  hg1) ?_
    refine aw_if_eq (tgt := 43) dX7_hasteOf_36 (by decide) (fun hc => ?_) (fun hc => ?_)
    · replace h := ip hc h
      refine aw_iconst dX7_hasteOf_43 ⟨by decide, by decide⟩ ?_
      refine aw_iload_n dX7_hasteOf_44 rfl rfl ?_
      refine aw_ishl dX7_hasteOf_45 ?_
      exact aw_less (ls' := [some (vR (some 0)), some (vI x1), none, some (vI x3)]) (⟨rfl, ⟨rfl, ⟨rfl, trivial⟩⟩⟩) (t_X7_hasteOf_46 k19 hk19 x1 x3 (i_shl 1 x3) x2 s0 _ h)
    · replace h := ic hc h
      refine aw_iconst dX7_hasteOf_39 ⟨by decide, by decide⟩ ?_
      refine aw_goto (tgt := 46) dX7_hasteOf_40 (by decide) ?_
      exact aw_less (ls' := [some (vR (some 0)), some (vI x1), none, some (vI x3)]) (⟨rfl, ⟨rfl, ⟨rfl, trivial⟩⟩⟩) (t_X7_hasteOf_46 k19 hk19 x1 x3 0 x2 s0 _ h)
def f_X7_hasteOf_19 : Nat → Int → Int → Int → SS → Option (Int × SS)
  | 0 => fun _ _ _ _ => none
  | n + 1 => g_X7_hasteOf_19 (f_X7_hasteOf_19  n)
theorem s_X7_hasteOf_19  : ∀ (n : Nat), ∀ (x1 : Int) (x2 : Int) (x3 : Int) (s0 : SS) (r : (Int × SS)), f_X7_hasteOf_19 n x1 x2 x3 s0 = some r → AW LM M_X7_hasteOf (some (vI r.1), r.2) 19 [some (vR (some 0)), some (vI x1), some (vI x2), some (vI x3)] [] s0 := by
  intro n
  induction n with
  | zero =>
    intro x1 x2 x3 s0 r h
    cases h
  | succ n ih =>
    intro x1 x2 x3 s0 r h
    exact t_X7_hasteOf_19 (f_X7_hasteOf_19  n) ih x1 x2 x3 s0 r h
def f_X7_hasteOf (x1 : Int) (s0 : SS) : Option (Int × SS) :=
  bn (f_X7_findsWays s0) fun s1 =>
  bn (f_X7_isAny 0 0 s1) fun y1 =>
  if y1 = 0 then (
    some ((-1), s1)
  ) else (
    f_X7_hasteOf_19  FU x1 0 0 s1
  )
set_option maxHeartbeats 4000000 in
theorem t_X7_hasteOf_0  : ∀ (x1 : Int) (s0 : SS) (r : (Int × SS)), f_X7_hasteOf x1 s0 = some r → AW LM M_X7_hasteOf (some (vI r.1), r.2) 0 [some (vR (some 0)), some (vI x1), none, none] [] s0 := by
  intro x1 s0 r h
  unfold f_X7_hasteOf at h
  refine aw_aload_n dX7_hasteOf_0 rfl rfl ?_
  obtain ⟨s1, hg1, h⟩ := bn_e h
  refine aw_V0v (M2 := M_X7_findsWays) dX7_hasteOf_1 lk_X7_243 mk_X7_findsWays mv_X7_findsWays ⟨by decide, by decide⟩ pM_0 ⟨_, _, rfl⟩ (Nat.le_of_ble_eq_true rfl) (c_X7_findsWays  hg1) ?_
  refine aw_iconst dX7_hasteOf_4 ⟨by decide, by decide⟩ ?_
  refine aw_istore_nA dX7_hasteOf_5 rfl (by decide) rfl ?_
  show AW _ _ _ 6 [some (vR (some 0)), some (vI x1), some (vI 0), none] _ _
  refine aw_aload_n dX7_hasteOf_6 rfl rfl ?_
  refine aw_iconst dX7_hasteOf_7 ⟨by decide, by decide⟩ ?_
  refine aw_iconst dX7_hasteOf_8 ⟨by decide, by decide⟩ ?_
  obtain ⟨y1, hg2, h⟩ := bn_e h
  refine aw_V2i (M2 := M_X7_isAny) dX7_hasteOf_9 lk_X7_246 mk_X7_isAny mv_X7_isAny ⟨by decide, by decide⟩ pM_0 ⟨_, _, rfl⟩ (Nat.le_of_ble_eq_true rfl) (c_X7_isAny  hg2) ?_
  refine aw_if_ne (tgt := 17) dX7_hasteOf_12 (by decide) (fun hc => ?_) (fun hc => ?_)
  rotate_left
  · replace h := ip hc h
    refine aw_iconst dX7_hasteOf_15 ⟨by decide, by decide⟩ ?_
    obtain rfl := Option.some.inj h
    exact aw_iret dX7_hasteOf_16 rfl
  · replace h := ic hc h
    refine aw_iconst dX7_hasteOf_17 ⟨by decide, by decide⟩ ?_
    refine aw_istore_nA dX7_hasteOf_18 rfl (by decide) rfl ?_
    show AW _ _ _ 19 [some (vR (some 0)), some (vI x1), some (vI 0), some (vI 0)] _ _
    exact (s_X7_hasteOf_19   FU x1 0 0 s1 _ h)
theorem c_X7_hasteOf {x1 : Int} {s0 : SS} {y : Int} {s1 : SS} (h : f_X7_hasteOf x1 s0 = some (y, s1)) : CT LM M_X7_hasteOf [vR (some 0), vI x1] s0 (some (vI y), s1) :=
  ct_of (n := 2) (by decide) (Nat.le_of_ble_eq_true rfl) (t_X7_hasteOf_0 x1 s0  _ h)
def g_X7_haste_19 (z0 : Int) (s0 : SS) : Option (Int × SS) :=
  some (z0, s0)
set_option maxHeartbeats 4000000 in
theorem t_X7_haste_19  : ∀ (z0 : Int) (s0 : SS) (r : (Int × SS)), g_X7_haste_19 z0 s0 = some r → AW LM M_X7_haste (some (vI r.1), r.2) 19 [none, none] [vI z0] s0 := by
  intro z0 s0 r h
  unfold g_X7_haste_19 at h
  obtain rfl := Option.some.inj h
  exact aw_iret dX7_haste_19 rfl
def f_X7_haste (x1 : Int) (s0 : SS) : Option (Int × SS) :=
  bn (f_X7_in x1 0 2) fun y1 =>
  if y1 = 0 then (
    g_X7_haste_19  (-2) s0
  ) else (
    cb (f_X7_hasteOf x1 s0) fun y2 s1 =>
    g_X7_haste_19  y2 s1
  )
set_option maxHeartbeats 4000000 in
theorem t_X7_haste_0  : ∀ (x1 : Int) (s0 : SS) (r : (Int × SS)), f_X7_haste x1 s0 = some r → AW LM M_X7_haste (some (vI r.1), r.2) 0 [some (vR (some 0)), some (vI x1)] [] s0 := by
  intro x1 s0 r h
  unfold f_X7_haste at h
  refine aw_iload_n dX7_haste_0 rfl rfl ?_
  refine aw_iconst dX7_haste_1 ⟨by decide, by decide⟩ ?_
  refine aw_iconst dX7_haste_2 ⟨by decide, by decide⟩ ?_
  obtain ⟨y1, hg1, h⟩ := bn_e h
  refine aw_S3i (M2 := M_X7_in) dX7_haste_3 lk_X7_75 mk_X7_in ms_X7_in ⟨by decide, by decide⟩ (Nat.le_of_ble_eq_true rfl) (c_X7_in  hg1) ?_
  refine aw_if_eq (tgt := 17) dX7_haste_6 (by decide) (fun hc => ?_) (fun hc => ?_)
  · replace h := ip hc h
    refine aw_bipush dX7_haste_17 ⟨by decide, by decide⟩ (by decide) ?_
    exact aw_less (ls' := [none, none]) (trivial) (t_X7_haste_19   (-2) s0 _ h)
  · replace h := ic hc h
    refine aw_aload_n dX7_haste_9 rfl rfl ?_
    refine aw_iload_n dX7_haste_10 rfl rfl ?_
    obtain ⟨y2, s1, hg2, h⟩ := cb_e h
    refine aw_V1i (M2 := M_X7_hasteOf) dX7_haste_11 lk_X7_249 mk_X7_hasteOf mv_X7_hasteOf ⟨by decide, by decide⟩ pM_0 ⟨_, _, rfl⟩ (Nat.le_of_ble_eq_true rfl) (c_X7_hasteOf  hg2) ?_
    refine aw_goto (tgt := 19) dX7_haste_14 (by decide) ?_
    exact aw_less (ls' := [none, none]) (trivial) (t_X7_haste_19   y2 s1 _ h)
theorem c_X7_haste {x1 : Int} {s0 : SS} {y : Int} {s1 : SS} (h : f_X7_haste x1 s0 = some (y, s1)) : CT LM M_X7_haste [vR (some 0), vI x1] s0 (some (vI y), s1) :=
  ct_of (n := 0) (by decide) (Nat.le_of_ble_eq_true rfl) (t_X7_haste_0 x1 s0  _ h)
def g_X7_leastMost_68 (x1 : Int) (s0 : SS) : Option Int :=
  some x1
set_option maxHeartbeats 4000000 in
theorem t_X7_leastMost_68  : ∀ (x1 : Int) (s0 : SS) (r : Int), g_X7_leastMost_68 x1 s0 = some r → AW LM M_X7_leastMost (some (vI r), s0) 68 [none, some (vI x1), none, none] [] s0 := by
  intro x1 s0 r h
  unfold g_X7_leastMost_68 at h
  refine aw_iload_n dX7_leastMost_68 rfl rfl ?_
  obtain rfl := Option.some.inj h
  exact aw_iret dX7_leastMost_69 rfl
def g_X7_leastMost_61 (k4 : Int → Int → SS → Option Int) (x2 : Int) (z0 : Int) (s0 : SS) : Option Int :=
  sb (wr (x2 + 1)) fun y1 =>
  k4 z0 y1 s0
set_option maxHeartbeats 4000000 in
theorem t_X7_leastMost_61 (k4 : Int → Int → SS → Option Int) (hk4 : ∀ (x1 : Int) (x2 : Int) (s0 : SS) (r : Int), k4 x1 x2 s0 = some r → AW LM M_X7_leastMost (some (vI r), s0) 4 [some (vR (some 0)), some (vI x1), some (vI x2), none] [] s0) : ∀ (x2 : Int) (z0 : Int) (s0 : SS) (r : Int), g_X7_leastMost_61 k4 x2 z0 s0 = some r → AW LM M_X7_leastMost (some (vI r), s0) 61 [some (vR (some 0)), none, some (vI x2), none] [vI z0] s0 := by
  intro x2 z0 s0 r h
  unfold g_X7_leastMost_61 at h
  refine aw_istore_nA dX7_leastMost_61 rfl (by decide) rfl ?_
  show AW _ _ _ 62 [some (vR (some 0)), some (vI z0), some (vI x2), none] _ _
  refine aw_iinc dX7_leastMost_62 rfl (by decide) rfl (fun y1 e => ?_)
  replace h := sb_e h e
  clear e
  show AW _ _ _ 65 [some (vR (some 0)), some (vI z0), some (vI y1), none] _ _
  refine aw_goto (tgt := 4) dX7_leastMost_65 (by decide) ?_
  exact (hk4 z0 y1 s0 _ h)
def g_X7_leastMost_43 (k4 : Int → Int → SS → Option Int) (x1 : Int) (x2 : Int) (z0 : Int) (s0 : SS) : Option Int :=
  if z0 = 0 then (
    g_X7_leastMost_61 k4 x2 x1 s0
  ) else (
    gx x2 64 <|
    bn (f_X7_most (s0 12 x2.toNat)) fun y1 =>
    g_X7_leastMost_61 k4 x2 y1 s0
  )
set_option maxHeartbeats 4000000 in
theorem t_X7_leastMost_43 (k4 : Int → Int → SS → Option Int) (hk4 : ∀ (x1 : Int) (x2 : Int) (s0 : SS) (r : Int), k4 x1 x2 s0 = some r → AW LM M_X7_leastMost (some (vI r), s0) 4 [some (vR (some 0)), some (vI x1), some (vI x2), none] [] s0) : ∀ (x1 : Int) (x2 : Int) (z0 : Int) (s0 : SS) (r : Int), g_X7_leastMost_43 k4 x1 x2 z0 s0 = some r → AW LM M_X7_leastMost (some (vI r), s0) 43 [some (vR (some 0)), some (vI x1), some (vI x2), none] [vI z0] s0 := by
  intro x1 x2 z0 s0 r h
  unfold g_X7_leastMost_43 at h
  refine aw_istore_nA dX7_leastMost_43 rfl (by decide) rfl ?_
  show AW _ _ _ 44 [some (vR (some 0)), some (vI x1), some (vI x2), some (vI z0)] _ _
  refine aw_iload_n dX7_leastMost_44 rfl rfl ?_
  refine aw_if_eq (tgt := 60) dX7_leastMost_45 (by decide) (fun hc => ?_) (fun hc => ?_)
  · replace h := ip hc h
    refine aw_iload_n dX7_leastMost_60 rfl rfl ?_
    exact aw_less (ls' := [some (vR (some 0)), none, some (vI x2), none]) (⟨rfl, ⟨rfl, trivial⟩⟩) (t_X7_leastMost_61 k4 hk4 x2 x1 s0 _ h)
  · replace h := ic hc h
    refine aw_aload_n dX7_leastMost_48 rfl rfl ?_
    refine aw_getR (t := 12) dX7_leastMost_49 fk_X7_47 pM_0 rfl ?_
    refine aw_iload_n dX7_leastMost_52 rfl rfl ?_
    obtain ⟨hg1, h⟩ := gx_e h
    refine aw_iald dX7_leastMost_53 aM_12 hg1 ?_
    obtain ⟨y1, hg2, h⟩ := bn_e h
    refine aw_S1i (M2 := M_X7_most) dX7_leastMost_54 lk_X7_127 mk_X7_most ms_X7_most ⟨by decide, by decide⟩ (Nat.le_of_ble_eq_true rfl) (c_X7_most  hg2) ?_
    refine aw_goto (tgt := 61) dX7_leastMost_57 (by decide) ?_
    exact aw_less (ls' := [some (vR (some 0)), none, some (vI x2), none]) (⟨rfl, ⟨rfl, trivial⟩⟩) (t_X7_leastMost_61 k4 hk4 x2 y1 s0 _ h)
def g_X7_leastMost_42 (k4 : Int → Int → SS → Option Int) (x1 : Int) (x2 : Int) (s0 : SS) : Option Int :=
  g_X7_leastMost_43 k4 x1 x2 0 s0
set_option maxHeartbeats 4000000 in
theorem t_X7_leastMost_42 (k4 : Int → Int → SS → Option Int) (hk4 : ∀ (x1 : Int) (x2 : Int) (s0 : SS) (r : Int), k4 x1 x2 s0 = some r → AW LM M_X7_leastMost (some (vI r), s0) 4 [some (vR (some 0)), some (vI x1), some (vI x2), none] [] s0) : ∀ (x1 : Int) (x2 : Int) (s0 : SS) (r : Int), g_X7_leastMost_42 k4 x1 x2 s0 = some r → AW LM M_X7_leastMost (some (vI r), s0) 42 [some (vR (some 0)), some (vI x1), some (vI x2), none] [] s0 := by
  intro x1 x2 s0 r h
  unfold g_X7_leastMost_42 at h
  refine aw_iconst dX7_leastMost_42 ⟨by decide, by decide⟩ ?_
  exact (t_X7_leastMost_43 k4 hk4 x1 x2 0 s0 _ h)
def g_X7_leastMost_38 (k4 : Int → Int → SS → Option Int) (x1 : Int) (x2 : Int) (s0 : SS) : Option Int :=
  g_X7_leastMost_43 k4 x1 x2 1 s0
set_option maxHeartbeats 4000000 in
theorem t_X7_leastMost_38 (k4 : Int → Int → SS → Option Int) (hk4 : ∀ (x1 : Int) (x2 : Int) (s0 : SS) (r : Int), k4 x1 x2 s0 = some r → AW LM M_X7_leastMost (some (vI r), s0) 4 [some (vR (some 0)), some (vI x1), some (vI x2), none] [] s0) : ∀ (x1 : Int) (x2 : Int) (s0 : SS) (r : Int), g_X7_leastMost_38 k4 x1 x2 s0 = some r → AW LM M_X7_leastMost (some (vI r), s0) 38 [some (vR (some 0)), some (vI x1), some (vI x2), none] [] s0 := by
  intro x1 x2 s0 r h
  unfold g_X7_leastMost_38 at h
  refine aw_iconst dX7_leastMost_38 ⟨by decide, by decide⟩ ?_
  refine aw_goto (tgt := 43) dX7_leastMost_39 (by decide) ?_
  exact (t_X7_leastMost_43 k4 hk4 x1 x2 1 s0 _ h)
def g_X7_leastMost_4 (k4 : Int → Int → SS → Option Int) (x1 : Int) (x2 : Int) (s0 : SS) : Option Int :=
  if 64 ≤ x2 then (
    g_X7_leastMost_68  x1 s0
  ) else (
    gx x2 64 <|
    if (s0 12 x2.toNat) = (-1) then (
      g_X7_leastMost_42 k4 x1 x2 s0
    ) else (
      if x1 = (-1) then (
        g_X7_leastMost_38 k4 x1 x2 s0
      ) else (
        gx x2 64 <|
        bn (f_X7_most (s0 12 x2.toNat)) fun y1 =>
        if x1 ≤ y1 then (
          g_X7_leastMost_42 k4 x1 x2 s0
        ) else (
          g_X7_leastMost_38 k4 x1 x2 s0
        )
      )
    )
  )
set_option maxHeartbeats 4000000 in
theorem t_X7_leastMost_4 (k4 : Int → Int → SS → Option Int) (hk4 : ∀ (x1 : Int) (x2 : Int) (s0 : SS) (r : Int), k4 x1 x2 s0 = some r → AW LM M_X7_leastMost (some (vI r), s0) 4 [some (vR (some 0)), some (vI x1), some (vI x2), none] [] s0) : ∀ (x1 : Int) (x2 : Int) (s0 : SS) (r : Int), g_X7_leastMost_4 k4 x1 x2 s0 = some r → AW LM M_X7_leastMost (some (vI r), s0) 4 [some (vR (some 0)), some (vI x1), some (vI x2), none] [] s0 := by
  intro x1 x2 s0 r h
  unfold g_X7_leastMost_4 at h
  refine aw_iload_n dX7_leastMost_4 rfl rfl ?_
  refine aw_bipush dX7_leastMost_5 ⟨by decide, by decide⟩ (by decide) ?_
  refine aw_icmp_ge (tgt := 68) dX7_leastMost_7 (by decide) (fun hc => ?_) (fun hc => ?_)
  · replace h := ip hc h
    exact aw_less (ls' := [none, some (vI x1), none, none]) (⟨rfl, trivial⟩) (t_X7_leastMost_68   x1 s0 _ h)
  · replace h := ic hc h
    refine aw_aload_n dX7_leastMost_10 rfl rfl ?_
    refine aw_getR (t := 12) dX7_leastMost_11 fk_X7_47 pM_0 rfl ?_
    refine aw_iload_n dX7_leastMost_14 rfl rfl ?_
    obtain ⟨hg1, h⟩ := gx_e h
    refine aw_iald dX7_leastMost_15 aM_12 hg1 ?_
    refine aw_iconst dX7_leastMost_16 ⟨by decide, by decide⟩ ?_
    refine aw_icmp_eq (tgt := 42) dX7_leastMost_17 (by decide) (fun hc => ?_) (fun hc => ?_)
    · replace h := ip hc h
      exact (t_X7_leastMost_42 k4 hk4 x1 x2 s0 _ h)
    · replace h := ic hc h
      refine aw_iload_n dX7_leastMost_20 rfl rfl ?_
      refine aw_iconst dX7_leastMost_21 ⟨by decide, by decide⟩ ?_
      refine aw_icmp_eq (tgt := 38) dX7_leastMost_22 (by decide) (fun hc => ?_) (fun hc => ?_)
      · replace h := ip hc h
        exact (t_X7_leastMost_38 k4 hk4 x1 x2 s0 _ h)
      · replace h := ic hc h
        refine aw_aload_n dX7_leastMost_25 rfl rfl ?_
        refine aw_getR (t := 12) dX7_leastMost_26 fk_X7_47 pM_0 rfl ?_
        refine aw_iload_n dX7_leastMost_29 rfl rfl ?_
        obtain ⟨hg2, h⟩ := gx_e h
        refine aw_iald dX7_leastMost_30 aM_12 hg2 ?_
        obtain ⟨y1, hg3, h⟩ := bn_e h
        refine aw_S1i (M2 := M_X7_most) dX7_leastMost_31 lk_X7_127 mk_X7_most ms_X7_most ⟨by decide, by decide⟩ (Nat.le_of_ble_eq_true rfl) (c_X7_most  hg3) ?_
        refine aw_iload_n dX7_leastMost_34 rfl rfl ?_
        refine aw_icmp_ge (tgt := 42) dX7_leastMost_35 (by decide) (fun hc => ?_) (fun hc => ?_)
        · replace h := ip hc h
          exact (t_X7_leastMost_42 k4 hk4 x1 x2 s0 _ h)
        · replace h := ic hc h
          exact (t_X7_leastMost_38 k4 hk4 x1 x2 s0 _ h)
def f_X7_leastMost_4 : Nat → Int → Int → SS → Option Int
  | 0 => fun _ _ _ => none
  | n + 1 => g_X7_leastMost_4 (f_X7_leastMost_4  n)
theorem s_X7_leastMost_4  : ∀ (n : Nat), ∀ (x1 : Int) (x2 : Int) (s0 : SS) (r : Int), f_X7_leastMost_4 n x1 x2 s0 = some r → AW LM M_X7_leastMost (some (vI r), s0) 4 [some (vR (some 0)), some (vI x1), some (vI x2), none] [] s0 := by
  intro n
  induction n with
  | zero =>
    intro x1 x2 s0 r h
    cases h
  | succ n ih =>
    intro x1 x2 s0 r h
    exact t_X7_leastMost_4 (f_X7_leastMost_4  n) ih x1 x2 s0 r h
def f_X7_leastMost  (s0 : SS) : Option Int :=
  f_X7_leastMost_4  FU (-1) 0 s0
set_option maxHeartbeats 4000000 in
theorem t_X7_leastMost_0  : ∀ (s0 : SS) (r : Int), f_X7_leastMost s0 = some r → AW LM M_X7_leastMost (some (vI r), s0) 0 [some (vR (some 0)), none, none, none] [] s0 := by
  intro s0 r h
  unfold f_X7_leastMost at h
  refine aw_iconst dX7_leastMost_0 ⟨by decide, by decide⟩ ?_
  refine aw_istore_nA dX7_leastMost_1 rfl (by decide) rfl ?_
  show AW _ _ _ 2 [some (vR (some 0)), some (vI (-1)), none, none] _ _
  refine aw_iconst dX7_leastMost_2 ⟨by decide, by decide⟩ ?_
  refine aw_istore_nA dX7_leastMost_3 rfl (by decide) rfl ?_
  show AW _ _ _ 4 [some (vR (some 0)), some (vI (-1)), some (vI 0), none] _ _
  exact (s_X7_leastMost_4   FU (-1) 0 s0 _ h)
theorem c_X7_leastMost {s0 : SS} {y : Int} (h : f_X7_leastMost s0 = some y) : CT LM M_X7_leastMost [vR (some 0)] s0 (some (vI y), s0) :=
  ct_of (n := 3) (by decide) (Nat.le_of_ble_eq_true rfl) (t_X7_leastMost_0  s0  _ h)
def g_X7_enoughOf_20 (z0 : Int) (s0 : SS) : Option (Int × SS) :=
  some (z0, s0)
set_option maxHeartbeats 4000000 in
theorem t_X7_enoughOf_20  : ∀ (z0 : Int) (s0 : SS) (r : (Int × SS)), g_X7_enoughOf_20 z0 s0 = some r → AW LM M_X7_enoughOf (some (vI r.1), r.2) 20 [none, none] [vI z0] s0 := by
  intro z0 s0 r h
  unfold g_X7_enoughOf_20 at h
  obtain rfl := Option.some.inj h
  exact aw_iret dX7_enoughOf_20 rfl
def f_X7_enoughOf  (s0 : SS) : Option (Int × SS) :=
  bn (f_X7_findsWays s0) fun s1 =>
  bn (f_X7_leastMost s1) fun y1 =>
  if y1 ≤ 99 then (
    g_X7_enoughOf_20  y1 s1
  ) else (
    g_X7_enoughOf_20  (-1) s1
  )
set_option maxHeartbeats 4000000 in
theorem t_X7_enoughOf_0  : ∀ (s0 : SS) (r : (Int × SS)), f_X7_enoughOf s0 = some r → AW LM M_X7_enoughOf (some (vI r.1), r.2) 0 [some (vR (some 0)), none] [] s0 := by
  intro s0 r h
  unfold f_X7_enoughOf at h
  refine aw_aload_n dX7_enoughOf_0 rfl rfl ?_
  obtain ⟨s1, hg1, h⟩ := bn_e h
  refine aw_V0v (M2 := M_X7_findsWays) dX7_enoughOf_1 lk_X7_243 mk_X7_findsWays mv_X7_findsWays ⟨by decide, by decide⟩ pM_0 ⟨_, _, rfl⟩ (Nat.le_of_ble_eq_true rfl) (c_X7_findsWays  hg1) ?_
  refine aw_aload_n dX7_enoughOf_4 rfl rfl ?_
  obtain ⟨y1, hg2, h⟩ := bn_e h
  refine aw_V0i (M2 := M_X7_leastMost) dX7_enoughOf_5 lk_X7_252 mk_X7_leastMost mv_X7_leastMost ⟨by decide, by decide⟩ pM_0 ⟨_, _, rfl⟩ (Nat.le_of_ble_eq_true rfl) (c_X7_leastMost  hg2) ?_
  refine aw_istore_nA dX7_enoughOf_8 rfl (by decide) rfl ?_
  show AW _ _ _ 9 [some (vR (some 0)), some (vI y1)] _ _
  refine aw_iload_n dX7_enoughOf_9 rfl rfl ?_
  refine aw_bipush dX7_enoughOf_10 ⟨by decide, by decide⟩ (by decide) ?_
  refine aw_icmp_le (tgt := 19) dX7_enoughOf_12 (by decide) (fun hc => ?_) (fun hc => ?_)
  · replace h := ip hc h
    refine aw_iload_n dX7_enoughOf_19 rfl rfl ?_
    exact aw_less (ls' := [none, none]) (trivial) (t_X7_enoughOf_20   y1 s1 _ h)
  · replace h := ic hc h
    refine aw_iconst dX7_enoughOf_15 ⟨by decide, by decide⟩ ?_
    refine aw_goto (tgt := 20) dX7_enoughOf_16 (by decide) ?_
    exact aw_less (ls' := [none, none]) (trivial) (t_X7_enoughOf_20   (-1) s1 _ h)
theorem c_X7_enoughOf {s0 : SS} {y : Int} {s1 : SS} (h : f_X7_enoughOf s0 = some (y, s1)) : CT LM M_X7_enoughOf [vR (some 0)] s0 (some (vI y), s1) :=
  ct_of (n := 1) (by decide) (Nat.le_of_ble_eq_true rfl) (t_X7_enoughOf_0  s0  _ h)
def f_X7_enough  (s0 : SS) : Option (Int × SS) :=
  cb (f_X7_enoughOf s0) fun y1 s1 =>
  some (y1, s1)
set_option maxHeartbeats 4000000 in
theorem t_X7_enough_0  : ∀ (s0 : SS) (r : (Int × SS)), f_X7_enough s0 = some r → AW LM M_X7_enough (some (vI r.1), r.2) 0 [some (vR (some 0))] [] s0 := by
  intro s0 r h
  unfold f_X7_enough at h
  refine aw_aload_n dX7_enough_0 rfl rfl ?_
  obtain ⟨y1, s1, hg1, h⟩ := cb_e h
  refine aw_V0i (M2 := M_X7_enoughOf) dX7_enough_1 lk_X7_255 mk_X7_enoughOf mv_X7_enoughOf ⟨by decide, by decide⟩ pM_0 ⟨_, _, rfl⟩ (Nat.le_of_ble_eq_true rfl) (c_X7_enoughOf  hg1) ?_
  obtain rfl := Option.some.inj h
  exact aw_iret dX7_enough_4 rfl
theorem c_X7_enough {s0 : SS} {y : Int} {s1 : SS} (h : f_X7_enough s0 = some (y, s1)) : CT LM M_X7_enough [vR (some 0)] s0 (some (vI y), s1) :=
  ct_of (n := 0) (by decide) (Nat.le_of_ble_eq_true rfl) (t_X7_enough_0  s0  _ h)
def g_X7_fewest_81 (x3 : Int) (s0 : SS) : Option Int :=
  some x3
set_option maxHeartbeats 4000000 in
theorem t_X7_fewest_81  : ∀ (x3 : Int) (s0 : SS) (r : Int), g_X7_fewest_81 x3 s0 = some r → AW LM M_X7_fewest (some (vI r), s0) 81 [none, none, none, some (vI x3), none, none] [] s0 := by
  intro x3 s0 r h
  unfold g_X7_fewest_81 at h
  refine aw_iload_n dX7_fewest_81 rfl rfl ?_
  obtain rfl := Option.some.inj h
  exact aw_iret dX7_fewest_82 rfl
def g_X7_fewest_74 (k5 : Int → Int → Int → Int → SS → Option Int) (x1 : Int) (x2 : Int) (x4 : Int) (z0 : Int) (s0 : SS) : Option Int :=
  sb (wr (x4 + 1)) fun y1 =>
  k5 x1 x2 z0 y1 s0
set_option maxHeartbeats 4000000 in
theorem t_X7_fewest_74 (k5 : Int → Int → Int → Int → SS → Option Int) (hk5 : ∀ (x1 : Int) (x2 : Int) (x3 : Int) (x4 : Int) (s0 : SS) (r : Int), k5 x1 x2 x3 x4 s0 = some r → AW LM M_X7_fewest (some (vI r), s0) 5 [some (vR (some 0)), some (vI x1), some (vI x2), some (vI x3), some (vI x4), none] [] s0) : ∀ (x1 : Int) (x2 : Int) (x4 : Int) (z0 : Int) (s0 : SS) (r : Int), g_X7_fewest_74 k5 x1 x2 x4 z0 s0 = some r → AW LM M_X7_fewest (some (vI r), s0) 74 [some (vR (some 0)), some (vI x1), some (vI x2), none, some (vI x4), none] [vI z0] s0 := by
  intro x1 x2 x4 z0 s0 r h
  unfold g_X7_fewest_74 at h
  refine aw_istore_nA dX7_fewest_74 rfl (by decide) rfl ?_
  show AW _ _ _ 75 [some (vR (some 0)), some (vI x1), some (vI x2), some (vI z0), some (vI x4), none] _ _
  refine aw_iinc dX7_fewest_75 rfl (by decide) rfl (fun y1 e => ?_)
  replace h := sb_e h e
  clear e
  show AW _ _ _ 78 [some (vR (some 0)), some (vI x1), some (vI x2), some (vI z0), some (vI y1), none] _ _
  refine aw_goto (tgt := 5) dX7_fewest_78 (by decide) ?_
  exact (hk5 x1 x2 z0 y1 s0 _ h)
def g_X7_fewest_73 (k5 : Int → Int → Int → Int → SS → Option Int) (x1 : Int) (x2 : Int) (x3 : Int) (x4 : Int) (s0 : SS) : Option Int :=
  g_X7_fewest_74 k5 x1 x2 x4 x3 s0
set_option maxHeartbeats 4000000 in
theorem t_X7_fewest_73 (k5 : Int → Int → Int → Int → SS → Option Int) (hk5 : ∀ (x1 : Int) (x2 : Int) (x3 : Int) (x4 : Int) (s0 : SS) (r : Int), k5 x1 x2 x3 x4 s0 = some r → AW LM M_X7_fewest (some (vI r), s0) 5 [some (vR (some 0)), some (vI x1), some (vI x2), some (vI x3), some (vI x4), none] [] s0) : ∀ (x1 : Int) (x2 : Int) (x3 : Int) (x4 : Int) (s0 : SS) (r : Int), g_X7_fewest_73 k5 x1 x2 x3 x4 s0 = some r → AW LM M_X7_fewest (some (vI r), s0) 73 [some (vR (some 0)), some (vI x1), some (vI x2), some (vI x3), some (vI x4), none] [] s0 := by
  intro x1 x2 x3 x4 s0 r h
  unfold g_X7_fewest_73 at h
  refine aw_iload_n dX7_fewest_73 rfl rfl ?_
  exact aw_less (ls' := [some (vR (some 0)), some (vI x1), some (vI x2), none, some (vI x4), none]) (⟨rfl, ⟨rfl, ⟨rfl, ⟨rfl, trivial⟩⟩⟩⟩) (t_X7_fewest_74 k5 hk5 x1 x2 x4 x3 s0 _ h)
def g_X7_fewest_60 (k5 : Int → Int → Int → Int → SS → Option Int) (x1 : Int) (x2 : Int) (x4 : Int) (s0 : SS) : Option Int :=
  gx x4 64 <|
  bn (f_X7_lines (s0 12 x4.toNat)) fun y1 =>
  g_X7_fewest_74 k5 x1 x2 x4 y1 s0
set_option maxHeartbeats 4000000 in
theorem t_X7_fewest_60 (k5 : Int → Int → Int → Int → SS → Option Int) (hk5 : ∀ (x1 : Int) (x2 : Int) (x3 : Int) (x4 : Int) (s0 : SS) (r : Int), k5 x1 x2 x3 x4 s0 = some r → AW LM M_X7_fewest (some (vI r), s0) 5 [some (vR (some 0)), some (vI x1), some (vI x2), some (vI x3), some (vI x4), none] [] s0) : ∀ (x1 : Int) (x2 : Int) (x4 : Int) (s0 : SS) (r : Int), g_X7_fewest_60 k5 x1 x2 x4 s0 = some r → AW LM M_X7_fewest (some (vI r), s0) 60 [some (vR (some 0)), some (vI x1), some (vI x2), none, some (vI x4), none] [] s0 := by
  intro x1 x2 x4 s0 r h
  unfold g_X7_fewest_60 at h
  refine aw_aload_n dX7_fewest_60 rfl rfl ?_
  refine aw_getR (t := 12) dX7_fewest_61 fk_X7_47 pM_0 rfl ?_
  refine aw_iload dX7_fewest_64 rfl ?_
  obtain ⟨hg1, h⟩ := gx_e h
  refine aw_iald dX7_fewest_66 aM_12 hg1 ?_
  obtain ⟨y1, hg2, h⟩ := bn_e h
  refine aw_S1i (M2 := M_X7_lines) dX7_fewest_67 lk_X7_121 mk_X7_lines ms_X7_lines ⟨by decide, by decide⟩ (Nat.le_of_ble_eq_true rfl) (c_X7_lines  hg2) ?_
  refine aw_goto (tgt := 74) dX7_fewest_70 (by decide) ?_
  exact (t_X7_fewest_74 k5 hk5 x1 x2 x4 y1 s0 _ h)
def g_X7_fewest_34 (k5 : Int → Int → Int → Int → SS → Option Int) (x1 : Int) (x2 : Int) (x3 : Int) (x4 : Int) (z0 : Int) (s0 : SS) : Option Int :=
  if z0 = 0 then (
    g_X7_fewest_73 k5 x1 x2 x3 x4 s0
  ) else (
    if x3 = (-1) then (
      g_X7_fewest_60 k5 x1 x2 x4 s0
    ) else (
      gx x4 64 <|
      bn (f_X7_lines (s0 12 x4.toNat)) fun y1 =>
      if x3 ≤ y1 then (
        g_X7_fewest_73 k5 x1 x2 x3 x4 s0
      ) else (
        g_X7_fewest_60 k5 x1 x2 x4 s0
      )
    )
  )
set_option maxHeartbeats 4000000 in
theorem t_X7_fewest_34 (k5 : Int → Int → Int → Int → SS → Option Int) (hk5 : ∀ (x1 : Int) (x2 : Int) (x3 : Int) (x4 : Int) (s0 : SS) (r : Int), k5 x1 x2 x3 x4 s0 = some r → AW LM M_X7_fewest (some (vI r), s0) 5 [some (vR (some 0)), some (vI x1), some (vI x2), some (vI x3), some (vI x4), none] [] s0) : ∀ (x1 : Int) (x2 : Int) (x3 : Int) (x4 : Int) (z0 : Int) (s0 : SS) (r : Int), g_X7_fewest_34 k5 x1 x2 x3 x4 z0 s0 = some r → AW LM M_X7_fewest (some (vI r), s0) 34 [some (vR (some 0)), some (vI x1), some (vI x2), some (vI x3), some (vI x4), none] [vI z0] s0 := by
  intro x1 x2 x3 x4 z0 s0 r h
  unfold g_X7_fewest_34 at h
  refine aw_istoreA dX7_fewest_34 (by decide) rfl ?_
  show AW _ _ _ 36 [some (vR (some 0)), some (vI x1), some (vI x2), some (vI x3), some (vI x4), some (vI z0)] _ _
  refine aw_iload dX7_fewest_36 rfl ?_
  refine aw_if_eq (tgt := 73) dX7_fewest_38 (by decide) (fun hc => ?_) (fun hc => ?_)
  · replace h := ip hc h
    exact aw_less (ls' := [some (vR (some 0)), some (vI x1), some (vI x2), some (vI x3), some (vI x4), none]) (⟨rfl, ⟨rfl, ⟨rfl, ⟨rfl, ⟨rfl, trivial⟩⟩⟩⟩⟩) (t_X7_fewest_73 k5 hk5 x1 x2 x3 x4 s0 _ h)
  · replace h := ic hc h
    refine aw_iload_n dX7_fewest_41 rfl rfl ?_
    refine aw_iconst dX7_fewest_42 ⟨by decide, by decide⟩ ?_
    refine aw_icmp_eq (tgt := 60) dX7_fewest_43 (by decide) (fun hc => ?_) (fun hc => ?_)
    · replace h := ip hc h
      exact aw_less (ls' := [some (vR (some 0)), some (vI x1), some (vI x2), none, some (vI x4), none]) (⟨rfl, ⟨rfl, ⟨rfl, ⟨rfl, trivial⟩⟩⟩⟩) (t_X7_fewest_60 k5 hk5 x1 x2 x4 s0 _ h)
    · replace h := ic hc h
      refine aw_aload_n dX7_fewest_46 rfl rfl ?_
      refine aw_getR (t := 12) dX7_fewest_47 fk_X7_47 pM_0 rfl ?_
      refine aw_iload dX7_fewest_50 rfl ?_
      obtain ⟨hg1, h⟩ := gx_e h
      refine aw_iald dX7_fewest_52 aM_12 hg1 ?_
      obtain ⟨y1, hg2, h⟩ := bn_e h
      refine aw_S1i (M2 := M_X7_lines) dX7_fewest_53 lk_X7_121 mk_X7_lines ms_X7_lines ⟨by decide, by decide⟩ (Nat.le_of_ble_eq_true rfl) (c_X7_lines  hg2) ?_
      refine aw_iload_n dX7_fewest_56 rfl rfl ?_
      refine aw_icmp_ge (tgt := 73) dX7_fewest_57 (by decide) (fun hc => ?_) (fun hc => ?_)
      · replace h := ip hc h
        exact aw_less (ls' := [some (vR (some 0)), some (vI x1), some (vI x2), some (vI x3), some (vI x4), none]) (⟨rfl, ⟨rfl, ⟨rfl, ⟨rfl, ⟨rfl, trivial⟩⟩⟩⟩⟩) (t_X7_fewest_73 k5 hk5 x1 x2 x3 x4 s0 _ h)
      · replace h := ic hc h
        exact aw_less (ls' := [some (vR (some 0)), some (vI x1), some (vI x2), none, some (vI x4), none]) (⟨rfl, ⟨rfl, ⟨rfl, ⟨rfl, trivial⟩⟩⟩⟩) (t_X7_fewest_60 k5 hk5 x1 x2 x4 s0 _ h)
def g_X7_fewest_33 (k5 : Int → Int → Int → Int → SS → Option Int) (x1 : Int) (x2 : Int) (x3 : Int) (x4 : Int) (s0 : SS) : Option Int :=
  g_X7_fewest_34 k5 x1 x2 x3 x4 0 s0
set_option maxHeartbeats 4000000 in
theorem t_X7_fewest_33 (k5 : Int → Int → Int → Int → SS → Option Int) (hk5 : ∀ (x1 : Int) (x2 : Int) (x3 : Int) (x4 : Int) (s0 : SS) (r : Int), k5 x1 x2 x3 x4 s0 = some r → AW LM M_X7_fewest (some (vI r), s0) 5 [some (vR (some 0)), some (vI x1), some (vI x2), some (vI x3), some (vI x4), none] [] s0) : ∀ (x1 : Int) (x2 : Int) (x3 : Int) (x4 : Int) (s0 : SS) (r : Int), g_X7_fewest_33 k5 x1 x2 x3 x4 s0 = some r → AW LM M_X7_fewest (some (vI r), s0) 33 [some (vR (some 0)), some (vI x1), some (vI x2), some (vI x3), some (vI x4), none] [] s0 := by
  intro x1 x2 x3 x4 s0 r h
  unfold g_X7_fewest_33 at h
  refine aw_iconst dX7_fewest_33 ⟨by decide, by decide⟩ ?_
  exact (t_X7_fewest_34 k5 hk5 x1 x2 x3 x4 0 s0 _ h)
def g_X7_fewest_5 (k5 : Int → Int → Int → Int → SS → Option Int) (x1 : Int) (x2 : Int) (x3 : Int) (x4 : Int) (s0 : SS) : Option Int :=
  if 64 ≤ x4 then (
    g_X7_fewest_81  x3 s0
  ) else (
    if (i_and x4 x2) = 0 then (
      bn (f_X7_isAllowed x4 x1 s0) fun y1 =>
      if y1 = 0 then (
        g_X7_fewest_33 k5 x1 x2 x3 x4 s0
      ) else (
        g_X7_fewest_34 k5 x1 x2 x3 x4 1 s0
      )
    ) else (
      g_X7_fewest_33 k5 x1 x2 x3 x4 s0
    )
  )
set_option maxHeartbeats 4000000 in
theorem t_X7_fewest_5 (k5 : Int → Int → Int → Int → SS → Option Int) (hk5 : ∀ (x1 : Int) (x2 : Int) (x3 : Int) (x4 : Int) (s0 : SS) (r : Int), k5 x1 x2 x3 x4 s0 = some r → AW LM M_X7_fewest (some (vI r), s0) 5 [some (vR (some 0)), some (vI x1), some (vI x2), some (vI x3), some (vI x4), none] [] s0) : ∀ (x1 : Int) (x2 : Int) (x3 : Int) (x4 : Int) (s0 : SS) (r : Int), g_X7_fewest_5 k5 x1 x2 x3 x4 s0 = some r → AW LM M_X7_fewest (some (vI r), s0) 5 [some (vR (some 0)), some (vI x1), some (vI x2), some (vI x3), some (vI x4), none] [] s0 := by
  intro x1 x2 x3 x4 s0 r h
  unfold g_X7_fewest_5 at h
  refine aw_iload dX7_fewest_5 rfl ?_
  refine aw_bipush dX7_fewest_7 ⟨by decide, by decide⟩ (by decide) ?_
  refine aw_icmp_ge (tgt := 81) dX7_fewest_9 (by decide) (fun hc => ?_) (fun hc => ?_)
  · replace h := ip hc h
    exact aw_less (ls' := [none, none, none, some (vI x3), none, none]) (⟨rfl, trivial⟩) (t_X7_fewest_81   x3 s0 _ h)
  · replace h := ic hc h
    refine aw_iload dX7_fewest_12 rfl ?_
    refine aw_iload_n dX7_fewest_14 rfl rfl ?_
    refine aw_iand dX7_fewest_15 ?_
    refine aw_if_ne (tgt := 33) dX7_fewest_16 (by decide) (fun hc => ?_) (fun hc => ?_)
    rotate_left
    · replace h := ip hc h
      refine aw_aload_n dX7_fewest_19 rfl rfl ?_
      refine aw_iload dX7_fewest_20 rfl ?_
      refine aw_iload_n dX7_fewest_22 rfl rfl ?_
      obtain ⟨y1, hg1, h⟩ := bn_e h
      refine aw_V2i (M2 := M_X7_isAllowed) dX7_fewest_23 lk_X7_240 mk_X7_isAllowed mv_X7_isAllowed ⟨by decide, by decide⟩ pM_0 ⟨_, _, rfl⟩ (Nat.le_of_ble_eq_true rfl) (c_X7_isAllowed  hg1) ?_
      refine aw_if_eq (tgt := 33) dX7_fewest_26 (by decide) (fun hc => ?_) (fun hc => ?_)
      · replace h := ip hc h
        exact (t_X7_fewest_33 k5 hk5 x1 x2 x3 x4 s0 _ h)
      · replace h := ic hc h
        refine aw_iconst dX7_fewest_29 ⟨by decide, by decide⟩ ?_
        refine aw_goto (tgt := 34) dX7_fewest_30 (by decide) ?_
        exact (t_X7_fewest_34 k5 hk5 x1 x2 x3 x4 1 s0 _ h)
    · replace h := ic hc h
      exact (t_X7_fewest_33 k5 hk5 x1 x2 x3 x4 s0 _ h)
def f_X7_fewest_5 : Nat → Int → Int → Int → Int → SS → Option Int
  | 0 => fun _ _ _ _ _ => none
  | n + 1 => g_X7_fewest_5 (f_X7_fewest_5  n)
theorem s_X7_fewest_5  : ∀ (n : Nat), ∀ (x1 : Int) (x2 : Int) (x3 : Int) (x4 : Int) (s0 : SS) (r : Int), f_X7_fewest_5 n x1 x2 x3 x4 s0 = some r → AW LM M_X7_fewest (some (vI r), s0) 5 [some (vR (some 0)), some (vI x1), some (vI x2), some (vI x3), some (vI x4), none] [] s0 := by
  intro n
  induction n with
  | zero =>
    intro x1 x2 x3 x4 s0 r h
    cases h
  | succ n ih =>
    intro x1 x2 x3 x4 s0 r h
    exact t_X7_fewest_5 (f_X7_fewest_5  n) ih x1 x2 x3 x4 s0 r h
def f_X7_fewest (x1 : Int) (x2 : Int) (s0 : SS) : Option Int :=
  f_X7_fewest_5  FU x1 x2 (-1) 0 s0
set_option maxHeartbeats 4000000 in
theorem t_X7_fewest_0  : ∀ (x1 : Int) (x2 : Int) (s0 : SS) (r : Int), f_X7_fewest x1 x2 s0 = some r → AW LM M_X7_fewest (some (vI r), s0) 0 [some (vR (some 0)), some (vI x1), some (vI x2), none, none, none] [] s0 := by
  intro x1 x2 s0 r h
  unfold f_X7_fewest at h
  refine aw_iconst dX7_fewest_0 ⟨by decide, by decide⟩ ?_
  refine aw_istore_nA dX7_fewest_1 rfl (by decide) rfl ?_
  show AW _ _ _ 2 [some (vR (some 0)), some (vI x1), some (vI x2), some (vI (-1)), none, none] _ _
  refine aw_iconst dX7_fewest_2 ⟨by decide, by decide⟩ ?_
  refine aw_istoreA dX7_fewest_3 (by decide) rfl ?_
  show AW _ _ _ 5 [some (vR (some 0)), some (vI x1), some (vI x2), some (vI (-1)), some (vI 0), none] _ _
  exact (s_X7_fewest_5   FU x1 x2 (-1) 0 s0 _ h)
theorem c_X7_fewest {x1 : Int} {x2 : Int} {s0 : SS} {y : Int} (h : f_X7_fewest x1 x2 s0 = some y) : CT LM M_X7_fewest [vR (some 0), vI x1, vI x2] s0 (some (vI y), s0) :=
  ct_of (n := 3) (by decide) (Nat.le_of_ble_eq_true rfl) (t_X7_fewest_0 x1 x2 s0  _ h)
def g_X7_shrinksOf_83 (z0 : Int) (s0 : SS) : Option (Int × SS) :=
  some (z0, s0)
set_option maxHeartbeats 4000000 in
theorem t_X7_shrinksOf_83  : ∀ (z0 : Int) (s0 : SS) (r : (Int × SS)), g_X7_shrinksOf_83 z0 s0 = some r → AW LM M_X7_shrinksOf (some (vI r.1), r.2) 83 [none, none, none, none, none, none, none] [vI z0] s0 := by
  intro z0 s0 r h
  unfold g_X7_shrinksOf_83 at h
  obtain rfl := Option.some.inj h
  exact aw_iret dX7_shrinksOf_83 rfl
def g_X7_shrinksOf_73 (x1 : Int) (x2 : Int) (x3 : Int) (s0 : SS) : Option (Int × SS) :=
  if x1 = (-1) then (
    g_X7_shrinksOf_83  x2 s0
  ) else (
    g_X7_shrinksOf_83  x3 s0
  )
set_option maxHeartbeats 4000000 in
theorem t_X7_shrinksOf_73  : ∀ (x1 : Int) (x2 : Int) (x3 : Int) (s0 : SS) (r : (Int × SS)), g_X7_shrinksOf_73 x1 x2 x3 s0 = some r → AW LM M_X7_shrinksOf (some (vI r.1), r.2) 73 [none, some (vI x1), some (vI x2), some (vI x3), none, none, none] [] s0 := by
  intro x1 x2 x3 s0 r h
  unfold g_X7_shrinksOf_73 at h
  refine aw_iload_n dX7_shrinksOf_73 rfl rfl ?_
  refine aw_iconst dX7_shrinksOf_74 ⟨by decide, by decide⟩ ?_
  refine aw_icmp_ne (tgt := 82) dX7_shrinksOf_75 (by decide) (fun hc => ?_) (fun hc => ?_)
  rotate_left
  · replace h := ip hc h
    refine aw_iload_n dX7_shrinksOf_78 rfl rfl ?_
    refine aw_goto (tgt := 83) dX7_shrinksOf_79 (by decide) ?_
    exact aw_less (ls' := [none, none, none, none, none, none, none]) (trivial) (t_X7_shrinksOf_83   x2 s0 _ h)
  · replace h := ic hc h
    refine aw_iload_n dX7_shrinksOf_82 rfl rfl ?_
    exact aw_less (ls' := [none, none, none, none, none, none, none]) (trivial) (t_X7_shrinksOf_83   x3 s0 _ h)
def g_X7_shrinksOf_63 (k19 : Int → Int → Int → Int → Int → SS → Option (Int × SS)) (x1 : Int) (x2 : Int) (x3 : Int) (x5 : Int) (x6 : Int) (s0 : SS) : Option (Int × SS) :=
  sb (wr (x5 + 1)) fun y1 =>
  k19 x1 x2 x3 x6 y1 s0
set_option maxHeartbeats 4000000 in
theorem t_X7_shrinksOf_63 (k19 : Int → Int → Int → Int → Int → SS → Option (Int × SS)) (hk19 : ∀ (x1 : Int) (x2 : Int) (x3 : Int) (x4 : Int) (x5 : Int) (s0 : SS) (r : (Int × SS)), k19 x1 x2 x3 x4 x5 s0 = some r → AW LM M_X7_shrinksOf (some (vI r.1), r.2) 19 [some (vR (some 0)), some (vI x1), some (vI x2), some (vI x3), some (vI x4), some (vI x5), none] [] s0) : ∀ (x1 : Int) (x2 : Int) (x3 : Int) (x5 : Int) (x6 : Int) (s0 : SS) (r : (Int × SS)), g_X7_shrinksOf_63 k19 x1 x2 x3 x5 x6 s0 = some r → AW LM M_X7_shrinksOf (some (vI r.1), r.2) 63 [some (vR (some 0)), some (vI x1), some (vI x2), some (vI x3), none, some (vI x5), some (vI x6)] [] s0 := by
  intro x1 x2 x3 x5 x6 s0 r h
  unfold g_X7_shrinksOf_63 at h
  refine aw_iload dX7_shrinksOf_63 rfl ?_
  refine aw_istoreA dX7_shrinksOf_65 (by decide) rfl ?_
  show AW _ _ _ 67 [some (vR (some 0)), some (vI x1), some (vI x2), some (vI x3), some (vI x6), some (vI x5), some (vI x6)] _ _
  refine aw_iinc dX7_shrinksOf_67 rfl (by decide) rfl (fun y1 e => ?_)
  replace h := sb_e h e
  clear e
  show AW _ _ _ 70 [some (vR (some 0)), some (vI x1), some (vI x2), some (vI x3), some (vI x6), some (vI y1), some (vI x6)] _ _
  refine aw_goto (tgt := 19) dX7_shrinksOf_70 (by decide) ?_
  exact aw_less (ls' := [some (vR (some 0)), some (vI x1), some (vI x2), some (vI x3), some (vI x6), some (vI y1), none]) (⟨rfl, ⟨rfl, ⟨rfl, ⟨rfl, ⟨rfl, ⟨rfl, trivial⟩⟩⟩⟩⟩⟩) (hk19 x1 x2 x3 x6 y1 s0 _ h)
def g_X7_shrinksOf_59 (k19 : Int → Int → Int → Int → Int → SS → Option (Int × SS)) (x1 : Int) (x2 : Int) (x5 : Int) (x6 : Int) (z0 : Int) (s0 : SS) : Option (Int × SS) :=
  sb (wr (x2 + 1)) fun y1 =>
  g_X7_shrinksOf_63 k19 x1 y1 z0 x5 x6 s0
set_option maxHeartbeats 4000000 in
theorem t_X7_shrinksOf_59 (k19 : Int → Int → Int → Int → Int → SS → Option (Int × SS)) (hk19 : ∀ (x1 : Int) (x2 : Int) (x3 : Int) (x4 : Int) (x5 : Int) (s0 : SS) (r : (Int × SS)), k19 x1 x2 x3 x4 x5 s0 = some r → AW LM M_X7_shrinksOf (some (vI r.1), r.2) 19 [some (vR (some 0)), some (vI x1), some (vI x2), some (vI x3), some (vI x4), some (vI x5), none] [] s0) : ∀ (x1 : Int) (x2 : Int) (x5 : Int) (x6 : Int) (z0 : Int) (s0 : SS) (r : (Int × SS)), g_X7_shrinksOf_59 k19 x1 x2 x5 x6 z0 s0 = some r → AW LM M_X7_shrinksOf (some (vI r.1), r.2) 59 [some (vR (some 0)), some (vI x1), some (vI x2), none, none, some (vI x5), some (vI x6)] [vI z0] s0 := by
  intro x1 x2 x5 x6 z0 s0 r h
  unfold g_X7_shrinksOf_59 at h
  refine aw_istore_nA dX7_shrinksOf_59 rfl (by decide) rfl ?_
  show AW _ _ _ 60 [some (vR (some 0)), some (vI x1), some (vI x2), some (vI z0), none, some (vI x5), some (vI x6)] _ _
  refine aw_iinc dX7_shrinksOf_60 rfl (by decide) rfl (fun y1 e => ?_)
  replace h := sb_e h e
  clear e
  show AW _ _ _ 63 [some (vR (some 0)), some (vI x1), some (vI y1), some (vI z0), none, some (vI x5), some (vI x6)] _ _
  exact (t_X7_shrinksOf_63 k19 hk19 x1 y1 z0 x5 x6 s0 _ h)
def g_X7_shrinksOf_19 (k19 : Int → Int → Int → Int → Int → SS → Option (Int × SS)) (x1 : Int) (x2 : Int) (x3 : Int) (x4 : Int) (x5 : Int) (s0 : SS) : Option (Int × SS) :=
  if 100 ≤ x5 then (
    g_X7_shrinksOf_73  x1 x2 x3 s0
  ) else (
    bn (f_X7_fewest x5 0 s0) fun y1 =>
    if x4 = (-1) then (
      g_X7_shrinksOf_63 k19 x1 x2 x3 x5 y1 s0
    ) else (
      if x4 ≤ y1 then (
        g_X7_shrinksOf_63 k19 x1 x2 x3 x5 y1 s0
      ) else (
        if x2 = x1 then (
          g_X7_shrinksOf_59 k19 x1 x2 x5 y1 x5 s0
        ) else (
          g_X7_shrinksOf_59 k19 x1 x2 x5 y1 x3 s0
        )
      )
    )
  )
set_option maxHeartbeats 4000000 in
theorem t_X7_shrinksOf_19 (k19 : Int → Int → Int → Int → Int → SS → Option (Int × SS)) (hk19 : ∀ (x1 : Int) (x2 : Int) (x3 : Int) (x4 : Int) (x5 : Int) (s0 : SS) (r : (Int × SS)), k19 x1 x2 x3 x4 x5 s0 = some r → AW LM M_X7_shrinksOf (some (vI r.1), r.2) 19 [some (vR (some 0)), some (vI x1), some (vI x2), some (vI x3), some (vI x4), some (vI x5), none] [] s0) : ∀ (x1 : Int) (x2 : Int) (x3 : Int) (x4 : Int) (x5 : Int) (s0 : SS) (r : (Int × SS)), g_X7_shrinksOf_19 k19 x1 x2 x3 x4 x5 s0 = some r → AW LM M_X7_shrinksOf (some (vI r.1), r.2) 19 [some (vR (some 0)), some (vI x1), some (vI x2), some (vI x3), some (vI x4), some (vI x5), none] [] s0 := by
  intro x1 x2 x3 x4 x5 s0 r h
  unfold g_X7_shrinksOf_19 at h
  refine aw_iload dX7_shrinksOf_19 rfl ?_
  refine aw_bipush dX7_shrinksOf_21 ⟨by decide, by decide⟩ (by decide) ?_
  refine aw_icmp_ge (tgt := 73) dX7_shrinksOf_23 (by decide) (fun hc => ?_) (fun hc => ?_)
  · replace h := ip hc h
    exact aw_less (ls' := [none, some (vI x1), some (vI x2), some (vI x3), none, none, none]) (⟨rfl, ⟨rfl, ⟨rfl, trivial⟩⟩⟩) (t_X7_shrinksOf_73   x1 x2 x3 s0 _ h)
  · replace h := ic hc h
    refine aw_aload_n dX7_shrinksOf_26 rfl rfl ?_
    refine aw_iload dX7_shrinksOf_27 rfl ?_
    refine aw_iconst dX7_shrinksOf_29 ⟨by decide, by decide⟩ ?_
    obtain ⟨y1, hg1, h⟩ := bn_e h
    refine aw_V2i (M2 := M_X7_fewest) dX7_shrinksOf_30 lk_X7_258 mk_X7_fewest mv_X7_fewest ⟨by decide, by decide⟩ pM_0 ⟨_, _, rfl⟩ (Nat.le_of_ble_eq_true rfl) (c_X7_fewest  hg1) ?_
    refine aw_istoreA dX7_shrinksOf_33 (by decide) rfl ?_
    show AW _ _ _ 35 [some (vR (some 0)), some (vI x1), some (vI x2), some (vI x3), some (vI x4), some (vI x5), some (vI y1)] _ _
    refine aw_iload dX7_shrinksOf_35 rfl ?_
    refine aw_iconst dX7_shrinksOf_37 ⟨by decide, by decide⟩ ?_
    refine aw_icmp_eq (tgt := 63) dX7_shrinksOf_38 (by decide) (fun hc => ?_) (fun hc => ?_)
    · replace h := ip hc h
      exact aw_less (ls' := [some (vR (some 0)), some (vI x1), some (vI x2), some (vI x3), none, some (vI x5), some (vI y1)]) (⟨rfl, ⟨rfl, ⟨rfl, ⟨rfl, ⟨rfl, ⟨rfl, trivial⟩⟩⟩⟩⟩⟩) (t_X7_shrinksOf_63 k19 hk19 x1 x2 x3 x5 y1 s0 _ h)
    · replace h := ic hc h
      refine aw_iload dX7_shrinksOf_41 rfl ?_
      refine aw_iload dX7_shrinksOf_43 rfl ?_
      refine aw_icmp_ge (tgt := 63) dX7_shrinksOf_45 (by decide) (fun hc => ?_) (fun hc => ?_)
      · replace h := ip hc h
        exact aw_less (ls' := [some (vR (some 0)), some (vI x1), some (vI x2), some (vI x3), none, some (vI x5), some (vI y1)]) (⟨rfl, ⟨rfl, ⟨rfl, ⟨rfl, ⟨rfl, ⟨rfl, trivial⟩⟩⟩⟩⟩⟩) (t_X7_shrinksOf_63 k19 hk19 x1 x2 x3 x5 y1 s0 _ h)
      · replace h := ic hc h
        refine aw_iload_n dX7_shrinksOf_48 rfl rfl ?_
        refine aw_iload_n dX7_shrinksOf_49 rfl rfl ?_
        refine aw_icmp_ne (tgt := 58) dX7_shrinksOf_50 (by decide) (fun hc => ?_) (fun hc => ?_)
        rotate_left
        · replace h := ip hc h
          refine aw_iload dX7_shrinksOf_53 rfl ?_
          refine aw_goto (tgt := 59) dX7_shrinksOf_55 (by decide) ?_
          exact aw_less (ls' := [some (vR (some 0)), some (vI x1), some (vI x2), none, none, some (vI x5), some (vI y1)]) (⟨rfl, ⟨rfl, ⟨rfl, ⟨rfl, ⟨rfl, trivial⟩⟩⟩⟩⟩) (t_X7_shrinksOf_59 k19 hk19 x1 x2 x5 y1 x5 s0 _ h)
        · replace h := ic hc h
          refine aw_iload_n dX7_shrinksOf_58 rfl rfl ?_
          exact aw_less (ls' := [some (vR (some 0)), some (vI x1), some (vI x2), none, none, some (vI x5), some (vI y1)]) (⟨rfl, ⟨rfl, ⟨rfl, ⟨rfl, ⟨rfl, trivial⟩⟩⟩⟩⟩) (t_X7_shrinksOf_59 k19 hk19 x1 x2 x5 y1 x3 s0 _ h)
def f_X7_shrinksOf_19 : Nat → Int → Int → Int → Int → Int → SS → Option (Int × SS)
  | 0 => fun _ _ _ _ _ _ => none
  | n + 1 => g_X7_shrinksOf_19 (f_X7_shrinksOf_19  n)
theorem s_X7_shrinksOf_19  : ∀ (n : Nat), ∀ (x1 : Int) (x2 : Int) (x3 : Int) (x4 : Int) (x5 : Int) (s0 : SS) (r : (Int × SS)), f_X7_shrinksOf_19 n x1 x2 x3 x4 x5 s0 = some r → AW LM M_X7_shrinksOf (some (vI r.1), r.2) 19 [some (vR (some 0)), some (vI x1), some (vI x2), some (vI x3), some (vI x4), some (vI x5), none] [] s0 := by
  intro n
  induction n with
  | zero =>
    intro x1 x2 x3 x4 x5 s0 r h
    cases h
  | succ n ih =>
    intro x1 x2 x3 x4 x5 s0 r h
    exact t_X7_shrinksOf_19 (f_X7_shrinksOf_19  n) ih x1 x2 x3 x4 x5 s0 r h
def f_X7_shrinksOf (x1 : Int) (s0 : SS) : Option (Int × SS) :=
  bn (f_X7_findsWays s0) fun s1 =>
  bn (f_X7_fewest 1 0 s1) fun y1 =>
  f_X7_shrinksOf_19  FU x1 0 (-1) y1 2 s1
set_option maxHeartbeats 4000000 in
theorem t_X7_shrinksOf_0  : ∀ (x1 : Int) (s0 : SS) (r : (Int × SS)), f_X7_shrinksOf x1 s0 = some r → AW LM M_X7_shrinksOf (some (vI r.1), r.2) 0 [some (vR (some 0)), some (vI x1), none, none, none, none, none] [] s0 := by
  intro x1 s0 r h
  unfold f_X7_shrinksOf at h
  refine aw_aload_n dX7_shrinksOf_0 rfl rfl ?_
  obtain ⟨s1, hg1, h⟩ := bn_e h
  refine aw_V0v (M2 := M_X7_findsWays) dX7_shrinksOf_1 lk_X7_243 mk_X7_findsWays mv_X7_findsWays ⟨by decide, by decide⟩ pM_0 ⟨_, _, rfl⟩ (Nat.le_of_ble_eq_true rfl) (c_X7_findsWays  hg1) ?_
  refine aw_iconst dX7_shrinksOf_4 ⟨by decide, by decide⟩ ?_
  refine aw_istore_nA dX7_shrinksOf_5 rfl (by decide) rfl ?_
  show AW _ _ _ 6 [some (vR (some 0)), some (vI x1), some (vI 0), none, none, none, none] _ _
  refine aw_iconst dX7_shrinksOf_6 ⟨by decide, by decide⟩ ?_
  refine aw_istore_nA dX7_shrinksOf_7 rfl (by decide) rfl ?_
  show AW _ _ _ 8 [some (vR (some 0)), some (vI x1), some (vI 0), some (vI (-1)), none, none, none] _ _
  refine aw_aload_n dX7_shrinksOf_8 rfl rfl ?_
  refine aw_iconst dX7_shrinksOf_9 ⟨by decide, by decide⟩ ?_
  refine aw_iconst dX7_shrinksOf_10 ⟨by decide, by decide⟩ ?_
  obtain ⟨y1, hg2, h⟩ := bn_e h
  refine aw_V2i (M2 := M_X7_fewest) dX7_shrinksOf_11 lk_X7_258 mk_X7_fewest mv_X7_fewest ⟨by decide, by decide⟩ pM_0 ⟨_, _, rfl⟩ (Nat.le_of_ble_eq_true rfl) (c_X7_fewest  hg2) ?_
  refine aw_istoreA dX7_shrinksOf_14 (by decide) rfl ?_
  show AW _ _ _ 16 [some (vR (some 0)), some (vI x1), some (vI 0), some (vI (-1)), some (vI y1), none, none] _ _
  refine aw_iconst dX7_shrinksOf_16 ⟨by decide, by decide⟩ ?_
  refine aw_istoreA dX7_shrinksOf_17 (by decide) rfl ?_
  show AW _ _ _ 19 [some (vR (some 0)), some (vI x1), some (vI 0), some (vI (-1)), some (vI y1), some (vI 2), none] _ _
  exact (s_X7_shrinksOf_19   FU x1 0 (-1) y1 2 s1 _ h)
theorem c_X7_shrinksOf {x1 : Int} {s0 : SS} {y : Int} {s1 : SS} (h : f_X7_shrinksOf x1 s0 = some (y, s1)) : CT LM M_X7_shrinksOf [vR (some 0), vI x1] s0 (some (vI y), s1) :=
  ct_of (n := 5) (by decide) (Nat.le_of_ble_eq_true rfl) (t_X7_shrinksOf_0 x1 s0  _ h)
def g_X7_shrinks_20 (z0 : Int) (s0 : SS) : Option (Int × SS) :=
  some (z0, s0)
set_option maxHeartbeats 4000000 in
theorem t_X7_shrinks_20  : ∀ (z0 : Int) (s0 : SS) (r : (Int × SS)), g_X7_shrinks_20 z0 s0 = some r → AW LM M_X7_shrinks (some (vI r.1), r.2) 20 [none, none] [vI z0] s0 := by
  intro z0 s0 r h
  unfold g_X7_shrinks_20 at h
  obtain rfl := Option.some.inj h
  exact aw_iret dX7_shrinks_20 rfl
def f_X7_shrinks (x1 : Int) (s0 : SS) : Option (Int × SS) :=
  bn (f_X7_in x1 (-1) 39) fun y1 =>
  if y1 = 0 then (
    g_X7_shrinks_20  (-2) s0
  ) else (
    cb (f_X7_shrinksOf x1 s0) fun y2 s1 =>
    g_X7_shrinks_20  y2 s1
  )
set_option maxHeartbeats 4000000 in
theorem t_X7_shrinks_0  : ∀ (x1 : Int) (s0 : SS) (r : (Int × SS)), f_X7_shrinks x1 s0 = some r → AW LM M_X7_shrinks (some (vI r.1), r.2) 0 [some (vR (some 0)), some (vI x1)] [] s0 := by
  intro x1 s0 r h
  unfold f_X7_shrinks at h
  refine aw_iload_n dX7_shrinks_0 rfl rfl ?_
  refine aw_iconst dX7_shrinks_1 ⟨by decide, by decide⟩ ?_
  refine aw_bipush dX7_shrinks_2 ⟨by decide, by decide⟩ (by decide) ?_
  obtain ⟨y1, hg1, h⟩ := bn_e h
  refine aw_S3i (M2 := M_X7_in) dX7_shrinks_4 lk_X7_75 mk_X7_in ms_X7_in ⟨by decide, by decide⟩ (Nat.le_of_ble_eq_true rfl) (c_X7_in  hg1) ?_
  refine aw_if_eq (tgt := 18) dX7_shrinks_7 (by decide) (fun hc => ?_) (fun hc => ?_)
  · replace h := ip hc h
    refine aw_bipush dX7_shrinks_18 ⟨by decide, by decide⟩ (by decide) ?_
    exact aw_less (ls' := [none, none]) (trivial) (t_X7_shrinks_20   (-2) s0 _ h)
  · replace h := ic hc h
    refine aw_aload_n dX7_shrinks_10 rfl rfl ?_
    refine aw_iload_n dX7_shrinks_11 rfl rfl ?_
    obtain ⟨y2, s1, hg2, h⟩ := cb_e h
    refine aw_V1i (M2 := M_X7_shrinksOf) dX7_shrinks_12 lk_X7_261 mk_X7_shrinksOf mv_X7_shrinksOf ⟨by decide, by decide⟩ pM_0 ⟨_, _, rfl⟩ (Nat.le_of_ble_eq_true rfl) (c_X7_shrinksOf  hg2) ?_
    refine aw_goto (tgt := 20) dX7_shrinks_15 (by decide) ?_
    exact aw_less (ls' := [none, none]) (trivial) (t_X7_shrinks_20   y2 s1 _ h)
theorem c_X7_shrinks {x1 : Int} {s0 : SS} {y : Int} {s1 : SS} (h : f_X7_shrinks x1 s0 = some (y, s1)) : CT LM M_X7_shrinks [vR (some 0), vI x1] s0 (some (vI y), s1) :=
  ct_of (n := 0) (by decide) (Nat.le_of_ble_eq_true rfl) (t_X7_shrinks_0 x1 s0  _ h)
def g_X7_leastWithout_76 (x2 : Int) (s0 : SS) : Option Int :=
  some x2
set_option maxHeartbeats 4000000 in
theorem t_X7_leastWithout_76  : ∀ (x2 : Int) (s0 : SS) (r : Int), g_X7_leastWithout_76 x2 s0 = some r → AW LM M_X7_leastWithout (some (vI r), s0) 76 [none, none, some (vI x2), none, none] [] s0 := by
  intro x2 s0 r h
  unfold g_X7_leastWithout_76 at h
  refine aw_iload_n dX7_leastWithout_76 rfl rfl ?_
  obtain rfl := Option.some.inj h
  exact aw_iret dX7_leastWithout_77 rfl
def g_X7_leastWithout_69 (k4 : Int → Int → Int → SS → Option Int) (x1 : Int) (x3 : Int) (z0 : Int) (s0 : SS) : Option Int :=
  sb (wr (x3 + 1)) fun y1 =>
  k4 x1 z0 y1 s0
set_option maxHeartbeats 4000000 in
theorem t_X7_leastWithout_69 (k4 : Int → Int → Int → SS → Option Int) (hk4 : ∀ (x1 : Int) (x2 : Int) (x3 : Int) (s0 : SS) (r : Int), k4 x1 x2 x3 s0 = some r → AW LM M_X7_leastWithout (some (vI r), s0) 4 [some (vR (some 0)), some (vI x1), some (vI x2), some (vI x3), none] [] s0) : ∀ (x1 : Int) (x3 : Int) (z0 : Int) (s0 : SS) (r : Int), g_X7_leastWithout_69 k4 x1 x3 z0 s0 = some r → AW LM M_X7_leastWithout (some (vI r), s0) 69 [some (vR (some 0)), some (vI x1), none, some (vI x3), none] [vI z0] s0 := by
  intro x1 x3 z0 s0 r h
  unfold g_X7_leastWithout_69 at h
  refine aw_istore_nA dX7_leastWithout_69 rfl (by decide) rfl ?_
  show AW _ _ _ 70 [some (vR (some 0)), some (vI x1), some (vI z0), some (vI x3), none] _ _
  refine aw_iinc dX7_leastWithout_70 rfl (by decide) rfl (fun y1 e => ?_)
  replace h := sb_e h e
  clear e
  show AW _ _ _ 73 [some (vR (some 0)), some (vI x1), some (vI z0), some (vI y1), none] _ _
  refine aw_goto (tgt := 4) dX7_leastWithout_73 (by decide) ?_
  exact (hk4 x1 z0 y1 s0 _ h)
def g_X7_leastWithout_49 (k4 : Int → Int → Int → SS → Option Int) (x1 : Int) (x2 : Int) (x3 : Int) (z0 : Int) (s0 : SS) : Option Int :=
  if z0 = 0 then (
    g_X7_leastWithout_69 k4 x1 x3 x2 s0
  ) else (
    gx x3 64 <|
    bn (f_X7_most (s0 12 x3.toNat)) fun y1 =>
    g_X7_leastWithout_69 k4 x1 x3 y1 s0
  )
set_option maxHeartbeats 4000000 in
theorem t_X7_leastWithout_49 (k4 : Int → Int → Int → SS → Option Int) (hk4 : ∀ (x1 : Int) (x2 : Int) (x3 : Int) (s0 : SS) (r : Int), k4 x1 x2 x3 s0 = some r → AW LM M_X7_leastWithout (some (vI r), s0) 4 [some (vR (some 0)), some (vI x1), some (vI x2), some (vI x3), none] [] s0) : ∀ (x1 : Int) (x2 : Int) (x3 : Int) (z0 : Int) (s0 : SS) (r : Int), g_X7_leastWithout_49 k4 x1 x2 x3 z0 s0 = some r → AW LM M_X7_leastWithout (some (vI r), s0) 49 [some (vR (some 0)), some (vI x1), some (vI x2), some (vI x3), none] [vI z0] s0 := by
  intro x1 x2 x3 z0 s0 r h
  unfold g_X7_leastWithout_49 at h
  refine aw_istoreA dX7_leastWithout_49 (by decide) rfl ?_
  show AW _ _ _ 51 [some (vR (some 0)), some (vI x1), some (vI x2), some (vI x3), some (vI z0)] _ _
  refine aw_iload dX7_leastWithout_51 rfl ?_
  refine aw_if_eq (tgt := 68) dX7_leastWithout_53 (by decide) (fun hc => ?_) (fun hc => ?_)
  · replace h := ip hc h
    refine aw_iload_n dX7_leastWithout_68 rfl rfl ?_
    exact aw_less (ls' := [some (vR (some 0)), some (vI x1), none, some (vI x3), none]) (⟨rfl, ⟨rfl, ⟨rfl, trivial⟩⟩⟩) (t_X7_leastWithout_69 k4 hk4 x1 x3 x2 s0 _ h)
  · replace h := ic hc h
    refine aw_aload_n dX7_leastWithout_56 rfl rfl ?_
    refine aw_getR (t := 12) dX7_leastWithout_57 fk_X7_47 pM_0 rfl ?_
    refine aw_iload_n dX7_leastWithout_60 rfl rfl ?_
    obtain ⟨hg1, h⟩ := gx_e h
    refine aw_iald dX7_leastWithout_61 aM_12 hg1 ?_
    obtain ⟨y1, hg2, h⟩ := bn_e h
    refine aw_S1i (M2 := M_X7_most) dX7_leastWithout_62 lk_X7_127 mk_X7_most ms_X7_most ⟨by decide, by decide⟩ (Nat.le_of_ble_eq_true rfl) (c_X7_most  hg2) ?_
    refine aw_goto (tgt := 69) dX7_leastWithout_65 (by decide) ?_
    exact aw_less (ls' := [some (vR (some 0)), some (vI x1), none, some (vI x3), none]) (⟨rfl, ⟨rfl, ⟨rfl, trivial⟩⟩⟩) (t_X7_leastWithout_69 k4 hk4 x1 x3 y1 s0 _ h)
def g_X7_leastWithout_48 (k4 : Int → Int → Int → SS → Option Int) (x1 : Int) (x2 : Int) (x3 : Int) (s0 : SS) : Option Int :=
  g_X7_leastWithout_49 k4 x1 x2 x3 0 s0
set_option maxHeartbeats 4000000 in
theorem t_X7_leastWithout_48 (k4 : Int → Int → Int → SS → Option Int) (hk4 : ∀ (x1 : Int) (x2 : Int) (x3 : Int) (s0 : SS) (r : Int), k4 x1 x2 x3 s0 = some r → AW LM M_X7_leastWithout (some (vI r), s0) 4 [some (vR (some 0)), some (vI x1), some (vI x2), some (vI x3), none] [] s0) : ∀ (x1 : Int) (x2 : Int) (x3 : Int) (s0 : SS) (r : Int), g_X7_leastWithout_48 k4 x1 x2 x3 s0 = some r → AW LM M_X7_leastWithout (some (vI r), s0) 48 [some (vR (some 0)), some (vI x1), some (vI x2), some (vI x3), none] [] s0 := by
  intro x1 x2 x3 s0 r h
  unfold g_X7_leastWithout_48 at h
  refine aw_iconst dX7_leastWithout_48 ⟨by decide, by decide⟩ ?_
  exact (t_X7_leastWithout_49 k4 hk4 x1 x2 x3 0 s0 _ h)
def g_X7_leastWithout_44 (k4 : Int → Int → Int → SS → Option Int) (x1 : Int) (x2 : Int) (x3 : Int) (s0 : SS) : Option Int :=
  g_X7_leastWithout_49 k4 x1 x2 x3 1 s0
set_option maxHeartbeats 4000000 in
theorem t_X7_leastWithout_44 (k4 : Int → Int → Int → SS → Option Int) (hk4 : ∀ (x1 : Int) (x2 : Int) (x3 : Int) (s0 : SS) (r : Int), k4 x1 x2 x3 s0 = some r → AW LM M_X7_leastWithout (some (vI r), s0) 4 [some (vR (some 0)), some (vI x1), some (vI x2), some (vI x3), none] [] s0) : ∀ (x1 : Int) (x2 : Int) (x3 : Int) (s0 : SS) (r : Int), g_X7_leastWithout_44 k4 x1 x2 x3 s0 = some r → AW LM M_X7_leastWithout (some (vI r), s0) 44 [some (vR (some 0)), some (vI x1), some (vI x2), some (vI x3), none] [] s0 := by
  intro x1 x2 x3 s0 r h
  unfold g_X7_leastWithout_44 at h
  refine aw_iconst dX7_leastWithout_44 ⟨by decide, by decide⟩ ?_
  refine aw_goto (tgt := 49) dX7_leastWithout_45 (by decide) ?_
  exact (t_X7_leastWithout_49 k4 hk4 x1 x2 x3 1 s0 _ h)
def g_X7_leastWithout_4 (k4 : Int → Int → Int → SS → Option Int) (x1 : Int) (x2 : Int) (x3 : Int) (s0 : SS) : Option Int :=
  if 64 ≤ x3 then (
    g_X7_leastWithout_76  x2 s0
  ) else (
    if (i_and x3 x1) = 0 then (
      gx x3 64 <|
      if (s0 12 x3.toNat) = (-1) then (
        g_X7_leastWithout_48 k4 x1 x2 x3 s0
      ) else (
        if x2 = (-1) then (
          g_X7_leastWithout_44 k4 x1 x2 x3 s0
        ) else (
          gx x3 64 <|
          bn (f_X7_most (s0 12 x3.toNat)) fun y1 =>
          if x2 ≤ y1 then (
            g_X7_leastWithout_48 k4 x1 x2 x3 s0
          ) else (
            g_X7_leastWithout_44 k4 x1 x2 x3 s0
          )
        )
      )
    ) else (
      g_X7_leastWithout_48 k4 x1 x2 x3 s0
    )
  )
set_option maxHeartbeats 4000000 in
theorem t_X7_leastWithout_4 (k4 : Int → Int → Int → SS → Option Int) (hk4 : ∀ (x1 : Int) (x2 : Int) (x3 : Int) (s0 : SS) (r : Int), k4 x1 x2 x3 s0 = some r → AW LM M_X7_leastWithout (some (vI r), s0) 4 [some (vR (some 0)), some (vI x1), some (vI x2), some (vI x3), none] [] s0) : ∀ (x1 : Int) (x2 : Int) (x3 : Int) (s0 : SS) (r : Int), g_X7_leastWithout_4 k4 x1 x2 x3 s0 = some r → AW LM M_X7_leastWithout (some (vI r), s0) 4 [some (vR (some 0)), some (vI x1), some (vI x2), some (vI x3), none] [] s0 := by
  intro x1 x2 x3 s0 r h
  unfold g_X7_leastWithout_4 at h
  refine aw_iload_n dX7_leastWithout_4 rfl rfl ?_
  refine aw_bipush dX7_leastWithout_5 ⟨by decide, by decide⟩ (by decide) ?_
  refine aw_icmp_ge (tgt := 76) dX7_leastWithout_7 (by decide) (fun hc => ?_) (fun hc => ?_)
  · replace h := ip hc h
    exact aw_less (ls' := [none, none, some (vI x2), none, none]) (⟨rfl, trivial⟩) (t_X7_leastWithout_76   x2 s0 _ h)
  · replace h := ic hc h
    refine aw_iload_n dX7_leastWithout_10 rfl rfl ?_
    refine aw_iload_n dX7_leastWithout_11 rfl rfl ?_
    refine aw_iand dX7_leastWithout_12 ?_
    refine aw_if_ne (tgt := 48) dX7_leastWithout_13 (by decide) (fun hc => ?_) (fun hc => ?_)
    rotate_left
    · replace h := ip hc h
      refine aw_aload_n dX7_leastWithout_16 rfl rfl ?_
      refine aw_getR (t := 12) dX7_leastWithout_17 fk_X7_47 pM_0 rfl ?_
      refine aw_iload_n dX7_leastWithout_20 rfl rfl ?_
      obtain ⟨hg1, h⟩ := gx_e h
      refine aw_iald dX7_leastWithout_21 aM_12 hg1 ?_
      refine aw_iconst dX7_leastWithout_22 ⟨by decide, by decide⟩ ?_
      refine aw_icmp_eq (tgt := 48) dX7_leastWithout_23 (by decide) (fun hc => ?_) (fun hc => ?_)
      · replace h := ip hc h
        exact (t_X7_leastWithout_48 k4 hk4 x1 x2 x3 s0 _ h)
      · replace h := ic hc h
        refine aw_iload_n dX7_leastWithout_26 rfl rfl ?_
        refine aw_iconst dX7_leastWithout_27 ⟨by decide, by decide⟩ ?_
        refine aw_icmp_eq (tgt := 44) dX7_leastWithout_28 (by decide) (fun hc => ?_) (fun hc => ?_)
        · replace h := ip hc h
          exact (t_X7_leastWithout_44 k4 hk4 x1 x2 x3 s0 _ h)
        · replace h := ic hc h
          refine aw_aload_n dX7_leastWithout_31 rfl rfl ?_
          refine aw_getR (t := 12) dX7_leastWithout_32 fk_X7_47 pM_0 rfl ?_
          refine aw_iload_n dX7_leastWithout_35 rfl rfl ?_
          obtain ⟨hg2, h⟩ := gx_e h
          refine aw_iald dX7_leastWithout_36 aM_12 hg2 ?_
          obtain ⟨y1, hg3, h⟩ := bn_e h
          refine aw_S1i (M2 := M_X7_most) dX7_leastWithout_37 lk_X7_127 mk_X7_most ms_X7_most ⟨by decide, by decide⟩ (Nat.le_of_ble_eq_true rfl) (c_X7_most  hg3) ?_
          refine aw_iload_n dX7_leastWithout_40 rfl rfl ?_
          refine aw_icmp_ge (tgt := 48) dX7_leastWithout_41 (by decide) (fun hc => ?_) (fun hc => ?_)
          · replace h := ip hc h
            exact (t_X7_leastWithout_48 k4 hk4 x1 x2 x3 s0 _ h)
          · replace h := ic hc h
            exact (t_X7_leastWithout_44 k4 hk4 x1 x2 x3 s0 _ h)
    · replace h := ic hc h
      exact (t_X7_leastWithout_48 k4 hk4 x1 x2 x3 s0 _ h)
def f_X7_leastWithout_4 : Nat → Int → Int → Int → SS → Option Int
  | 0 => fun _ _ _ _ => none
  | n + 1 => g_X7_leastWithout_4 (f_X7_leastWithout_4  n)
theorem s_X7_leastWithout_4  : ∀ (n : Nat), ∀ (x1 : Int) (x2 : Int) (x3 : Int) (s0 : SS) (r : Int), f_X7_leastWithout_4 n x1 x2 x3 s0 = some r → AW LM M_X7_leastWithout (some (vI r), s0) 4 [some (vR (some 0)), some (vI x1), some (vI x2), some (vI x3), none] [] s0 := by
  intro n
  induction n with
  | zero =>
    intro x1 x2 x3 s0 r h
    cases h
  | succ n ih =>
    intro x1 x2 x3 s0 r h
    exact t_X7_leastWithout_4 (f_X7_leastWithout_4  n) ih x1 x2 x3 s0 r h
def f_X7_leastWithout (x1 : Int) (s0 : SS) : Option Int :=
  f_X7_leastWithout_4  FU x1 (-1) 0 s0
set_option maxHeartbeats 4000000 in
theorem t_X7_leastWithout_0  : ∀ (x1 : Int) (s0 : SS) (r : Int), f_X7_leastWithout x1 s0 = some r → AW LM M_X7_leastWithout (some (vI r), s0) 0 [some (vR (some 0)), some (vI x1), none, none, none] [] s0 := by
  intro x1 s0 r h
  unfold f_X7_leastWithout at h
  refine aw_iconst dX7_leastWithout_0 ⟨by decide, by decide⟩ ?_
  refine aw_istore_nA dX7_leastWithout_1 rfl (by decide) rfl ?_
  show AW _ _ _ 2 [some (vR (some 0)), some (vI x1), some (vI (-1)), none, none] _ _
  refine aw_iconst dX7_leastWithout_2 ⟨by decide, by decide⟩ ?_
  refine aw_istore_nA dX7_leastWithout_3 rfl (by decide) rfl ?_
  show AW _ _ _ 4 [some (vR (some 0)), some (vI x1), some (vI (-1)), some (vI 0), none] _ _
  exact (s_X7_leastWithout_4   FU x1 (-1) 0 s0 _ h)
theorem c_X7_leastWithout {x1 : Int} {s0 : SS} {y : Int} (h : f_X7_leastWithout x1 s0 = some y) : CT LM M_X7_leastWithout [vR (some 0), vI x1] s0 (some (vI y), s0) :=
  ct_of (n := 3) (by decide) (Nat.le_of_ble_eq_true rfl) (t_X7_leastWithout_0 x1 s0  _ h)
