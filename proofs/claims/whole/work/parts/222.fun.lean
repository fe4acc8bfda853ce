def g_X7_isAhead_137 (z0 : Int) (s0 : SS) : Option Int :=
  gb z0 <|
  some z0
set_option maxHeartbeats 4000000 in
theorem t_X7_isAhead_137  : ∀ (z0 : Int) (s0 : SS) (r : Int), g_X7_isAhead_137 z0 s0 = some r → AW LM M_X7_isAhead (some (vI r), s0) 137 [none, none, none, none, none, none, none] [vI z0] s0 := by
  intro z0 s0 r h
  unfold g_X7_isAhead_137 at h
  obtain ⟨hg1, h⟩ := gb_e h
  obtain rfl := Option.some.inj h
  exact aw_zret dX7_isAhead_137 rfl hg1
def g_X7_isAhead_77 (x1 : Int) (x2 : Int) (x3 : Int) (x4 : Int) (x5 : Int) (z0 : Int) (s0 : SS) : Option Int :=
  if x3 = x4 then (
    if x5 = z0 then (
      bn (f_X7_last x1) fun y1 =>
      bn (f_X7_last x2) fun y2 =>
      if y2 ≤ y1 then (
        g_X7_isAhead_137  0 s0
      ) else (
        g_X7_isAhead_137  1 s0
      )
    ) else (
      if z0 ≤ x5 then (
        g_X7_isAhead_137  0 s0
      ) else (
        g_X7_isAhead_137  1 s0
      )
    )
  ) else (
    if x4 ≤ x3 then (
      g_X7_isAhead_137  0 s0
    ) else (
      g_X7_isAhead_137  1 s0
    )
  )
set_option maxHeartbeats 4000000 in
theorem t_X7_isAhead_77  : ∀ (x1 : Int) (x2 : Int) (x3 : Int) (x4 : Int) (x5 : Int) (z0 : Int) (s0 : SS) (r : Int), g_X7_isAhead_77 x1 x2 x3 x4 x5 z0 s0 = some r → AW LM M_X7_isAhead (some (vI r), s0) 77 [none, some (vI x1), some (vI x2), some (vI x3), some (vI x4), some (vI x5), none] [vI z0] s0 := by
  intro x1 x2 x3 x4 x5 z0 s0 r h
  unfold g_X7_isAhead_77 at h
  refine aw_istoreA dX7_isAhead_77 (by decide) rfl ?_
  show AW _ _ _ 79 [none, some (vI x1), some (vI x2), some (vI x3), some (vI x4), some (vI x5), some (vI z0)] _ _
  refine aw_iload_n dX7_isAhead_79 rfl rfl ?_
  refine aw_iload dX7_isAhead_80 rfl ?_
  refine aw_icmp_eq (tgt := 99) dX7_isAhead_82 (by decide) (fun hc => ?_) (fun hc => ?_)
  · replace h := ip hc h
    refine aw_iload dX7_isAhead_99 rfl ?_
    refine aw_iload dX7_isAhead_101 rfl ?_
    refine aw_icmp_eq (tgt := 121) dX7_isAhead_103 (by decide) (fun hc => ?_) (fun hc => ?_)
    · replace h := ip hc h
      refine aw_iload_n dX7_isAhead_121 rfl rfl ?_
      obtain ⟨y1, hg1, h⟩ := bn_e h
      refine aw_S1i (M2 := M_X7_last) dX7_isAhead_122 lk_X7_124 mk_X7_last ms_X7_last ⟨by decide, by decide⟩ (Nat.le_of_ble_eq_true rfl) (c_X7_last  hg1) ?_
      refine aw_iload_n dX7_isAhead_125 rfl rfl ?_
      obtain ⟨y2, hg2, h⟩ := bn_e h
      refine aw_S1i (M2 := M_X7_last) dX7_isAhead_126 lk_X7_124 mk_X7_last ms_X7_last ⟨by decide, by decide⟩ (Nat.le_of_ble_eq_true rfl) (c_X7_last  hg2) ?_
      refine aw_icmp_ge (tgt := 136) dX7_isAhead_129 (by decide) (fun hc => ?_) (fun hc => ?_)
      · replace h := ip hc h
        refine aw_iconst dX7_isAhead_136 ⟨by decide, by decide⟩ ?_
        exact aw_less (ls' := [none, none, none, none, none, none, none]) (trivial) (t_X7_isAhead_137   0 s0 _ h)
      · replace h := ic hc h
        refine aw_iconst dX7_isAhead_132 ⟨by decide, by decide⟩ ?_
        refine aw_goto (tgt := 137) dX7_isAhead_133 (by decide) ?_
        exact aw_less (ls' := [none, none, none, none, none, none, none]) (trivial) (t_X7_isAhead_137   1 s0 _ h)
    · replace h := ic hc h
      refine aw_iload dX7_isAhead_106 rfl ?_
      refine aw_iload dX7_isAhead_108 rfl ?_
      refine aw_icmp_ge (tgt := 117) dX7_isAhead_110 (by decide) (fun hc => ?_) (fun hc => ?_)
      · replace h := ip hc h
        refine aw_iconst dX7_isAhead_117 ⟨by decide, by decide⟩ ?_
        refine aw_goto (tgt := 137) dX7_isAhead_118 (by decide) ?_
        exact aw_less (ls' := [none, none, none, none, none, none, none]) (trivial) (t_X7_isAhead_137   0 s0 _ h)
      · replace h := ic hc h
        refine aw_iconst dX7_isAhead_113 ⟨by decide, by decide⟩ ?_
        refine aw_goto (tgt := 137) dX7_isAhead_114 (by decide) ?_
        exact aw_less (ls' := [none, none, none, none, none, none, none]) (trivial) (t_X7_isAhead_137   1 s0 _ h)
  · replace h := ic hc h
    refine aw_iload_n dX7_isAhead_85 rfl rfl ?_
    refine aw_iload dX7_isAhead_86 rfl ?_
    refine aw_icmp_ge (tgt := 95) dX7_isAhead_88 (by decide) (fun hc => ?_) (fun hc => ?_)
    · replace h := ip hc h
      refine aw_iconst dX7_isAhead_95 ⟨by decide, by decide⟩ ?_
      refine aw_goto (tgt := 137) dX7_isAhead_96 (by decide) ?_
      exact aw_less (ls' := [none, none, none, none, none, none, none]) (trivial) (t_X7_isAhead_137   0 s0 _ h)
    · replace h := ic hc h
      refine aw_iconst dX7_isAhead_91 ⟨by decide, by decide⟩ ?_
      refine aw_goto (tgt := 137) dX7_isAhead_92 (by decide) ?_
      exact aw_less (ls' := [none, none, none, none, none, none, none]) (trivial) (t_X7_isAhead_137   1 s0 _ h)
def g_X7_isAhead_57 (x1 : Int) (x2 : Int) (x3 : Int) (x4 : Int) (z0 : Int) (s0 : SS) : Option Int :=
  if (s0 0 19) = 0 then (
    bn (f_X7_most x2) fun y1 =>
    g_X7_isAhead_77  x1 x2 x3 x4 z0 y1 s0
  ) else (
    bn (f_X7_lines x2) fun y2 =>
    g_X7_isAhead_77  x1 x2 x3 x4 z0 y2 s0
  )
set_option maxHeartbeats 4000000 in
theorem t_X7_isAhead_57  : ∀ (x1 : Int) (x2 : Int) (x3 : Int) (x4 : Int) (z0 : Int) (s0 : SS) (r : Int), g_X7_isAhead_57 x1 x2 x3 x4 z0 s0 = some r → AW LM M_X7_isAhead (some (vI r), s0) 57 [some (vR (some 0)), some (vI x1), some (vI x2), some (vI x3), some (vI x4), none, none] [vI z0] s0 := by
  intro x1 x2 x3 x4 z0 s0 r h
  unfold g_X7_isAhead_57 at h
  refine aw_istoreA dX7_isAhead_57 (by decide) rfl ?_
  show AW _ _ _ 59 [some (vR (some 0)), some (vI x1), some (vI x2), some (vI x3), some (vI x4), some (vI z0), none] _ _
  refine aw_aload_n dX7_isAhead_59 rfl rfl ?_
  refine aw_getI dX7_isAhead_60 fk_X7_193 pM_0 rfl ?_
  refine aw_if_eq (tgt := 73) dX7_isAhead_63 (by decide) (fun hc => ?_) (fun hc => ?_)
  · replace h := ip hc h
    refine aw_iload_n dX7_isAhead_73 rfl rfl ?_
    obtain ⟨y1, hg1, h⟩ := bn_e h
    refine aw_S1i (M2 := M_X7_most) dX7_isAhead_74 lk_X7_127 mk_X7_most ms_X7_most ⟨by decide, by decide⟩ (Nat.le_of_ble_eq_true rfl) (c_X7_most  hg1) ?_
    exact aw_less (ls' := [none, some (vI x1), some (vI x2), some (vI x3), some (vI x4), some (vI z0), none]) (⟨rfl, ⟨rfl, ⟨rfl, ⟨rfl, ⟨rfl, trivial⟩⟩⟩⟩⟩) (t_X7_isAhead_77   x1 x2 x3 x4 z0 y1 s0 _ h)
  · replace h := ic hc h
    refine aw_iload_n dX7_isAhead_66 rfl rfl ?_
    obtain ⟨y2, hg2, h⟩ := bn_e h
    refine aw_S1i (M2 := M_X7_lines) dX7_isAhead_67 lk_X7_121 mk_X7_lines ms_X7_lines ⟨by decide, by decide⟩ (Nat.le_of_ble_eq_true rfl) (c_X7_lines  hg2) ?_
    refine aw_goto (tgt := 77) dX7_isAhead_70 (by decide) ?_
    exact aw_less (ls' := [none, some (vI x1), some (vI x2), some (vI x3), some (vI x4), some (vI z0), none]) (⟨rfl, ⟨rfl, ⟨rfl, ⟨rfl, ⟨rfl, trivial⟩⟩⟩⟩⟩) (t_X7_isAhead_77   x1 x2 x3 x4 z0 y2 s0 _ h)
def g_X7_isAhead_37 (x1 : Int) (x2 : Int) (x3 : Int) (z0 : Int) (s0 : SS) : Option Int :=
  if (s0 0 19) = 0 then (
    bn (f_X7_most x1) fun y1 =>
    g_X7_isAhead_57  x1 x2 x3 z0 y1 s0
  ) else (
    bn (f_X7_lines x1) fun y2 =>
    g_X7_isAhead_57  x1 x2 x3 z0 y2 s0
  )
set_option maxHeartbeats 4000000 in
theorem t_X7_isAhead_37  : ∀ (x1 : Int) (x2 : Int) (x3 : Int) (z0 : Int) (s0 : SS) (r : Int), g_X7_isAhead_37 x1 x2 x3 z0 s0 = some r → AW LM M_X7_isAhead (some (vI r), s0) 37 [some (vR (some 0)), some (vI x1), some (vI x2), some (vI x3), none, none, none] [vI z0] s0 := by
  intro x1 x2 x3 z0 s0 r h
  unfold g_X7_isAhead_37 at h
  refine aw_istoreA dX7_isAhead_37 (by decide) rfl ?_
  show AW _ _ _ 39 [some (vR (some 0)), some (vI x1), some (vI x2), some (vI x3), some (vI z0), none, none] _ _
  refine aw_aload_n dX7_isAhead_39 rfl rfl ?_
  refine aw_getI dX7_isAhead_40 fk_X7_193 pM_0 rfl ?_
  refine aw_if_eq (tgt := 53) dX7_isAhead_43 (by decide) (fun hc => ?_) (fun hc => ?_)
  · replace h := ip hc h
    refine aw_iload_n dX7_isAhead_53 rfl rfl ?_
    obtain ⟨y1, hg1, h⟩ := bn_e h
    refine aw_S1i (M2 := M_X7_most) dX7_isAhead_54 lk_X7_127 mk_X7_most ms_X7_most ⟨by decide, by decide⟩ (Nat.le_of_ble_eq_true rfl) (c_X7_most  hg1) ?_
    exact (t_X7_isAhead_57   x1 x2 x3 z0 y1 s0 _ h)
  · replace h := ic hc h
    refine aw_iload_n dX7_isAhead_46 rfl rfl ?_
    obtain ⟨y2, hg2, h⟩ := bn_e h
    refine aw_S1i (M2 := M_X7_lines) dX7_isAhead_47 lk_X7_121 mk_X7_lines ms_X7_lines ⟨by decide, by decide⟩ (Nat.le_of_ble_eq_true rfl) (c_X7_lines  hg2) ?_
    refine aw_goto (tgt := 57) dX7_isAhead_50 (by decide) ?_
    exact (t_X7_isAhead_57   x1 x2 x3 z0 y2 s0 _ h)
def g_X7_isAhead_18 (x1 : Int) (x2 : Int) (z0 : Int) (s0 : SS) : Option Int :=
  if (s0 0 19) = 0 then (
    bn (f_X7_lines x2) fun y1 =>
    g_X7_isAhead_37  x1 x2 z0 y1 s0
  ) else (
    bn (f_X7_most x2) fun y2 =>
    g_X7_isAhead_37  x1 x2 z0 y2 s0
  )
set_option maxHeartbeats 4000000 in
theorem t_X7_isAhead_18  : ∀ (x1 : Int) (x2 : Int) (z0 : Int) (s0 : SS) (r : Int), g_X7_isAhead_18 x1 x2 z0 s0 = some r → AW LM M_X7_isAhead (some (vI r), s0) 18 [some (vR (some 0)), some (vI x1), some (vI x2), none, none, none, none] [vI z0] s0 := by
  intro x1 x2 z0 s0 r h
  unfold g_X7_isAhead_18 at h
  refine aw_istore_nA dX7_isAhead_18 rfl (by decide) rfl ?_
  show AW _ _ _ 19 [some (vR (some 0)), some (vI x1), some (vI x2), some (vI z0), none, none, none] _ _
  refine aw_aload_n dX7_isAhead_19 rfl rfl ?_
  refine aw_getI dX7_isAhead_20 fk_X7_193 pM_0 rfl ?_
  refine aw_if_eq (tgt := 33) dX7_isAhead_23 (by decide) (fun hc => ?_) (fun hc => ?_)
  · replace h := ip hc h
    refine aw_iload_n dX7_isAhead_33 rfl rfl ?_
    obtain ⟨y1, hg1, h⟩ := bn_e h
    refine aw_S1i (M2 := M_X7_lines) dX7_isAhead_34 lk_X7_121 mk_X7_lines ms_X7_lines ⟨by decide, by decide⟩ (Nat.le_of_ble_eq_true rfl) (c_X7_lines  hg1) ?_
    exact (t_X7_isAhead_37   x1 x2 z0 y1 s0 _ h)
  · replace h := ic hc h
    refine aw_iload_n dX7_isAhead_26 rfl rfl ?_
    obtain ⟨y2, hg2, h⟩ := bn_e h
    refine aw_S1i (M2 := M_X7_most) dX7_isAhead_27 lk_X7_127 mk_X7_most ms_X7_most ⟨by decide, by decide⟩ (Nat.le_of_ble_eq_true rfl) (c_X7_most  hg2) ?_
    refine aw_goto (tgt := 37) dX7_isAhead_30 (by decide) ?_
    exact (t_X7_isAhead_37   x1 x2 z0 y2 s0 _ h)
def f_X7_isAhead (x1 : Int) (x2 : Int) (s0 : SS) : Option Int :=
  if (s0 0 19) = 0 then (
    bn (f_X7_lines x1) fun y1 =>
    g_X7_isAhead_18  x1 x2 y1 s0
  ) else (
    bn (f_X7_most x1) fun y2 =>
    g_X7_isAhead_18  x1 x2 y2 s0
  )
set_option maxHeartbeats 4000000 in
theorem t_X7_isAhead_0  : ∀ (x1 : Int) (x2 : Int) (s0 : SS) (r : Int), f_X7_isAhead x1 x2 s0 = some r → AW LM M_X7_isAhead (some (vI r), s0) 0 [some (vR (some 0)), some (vI x1), some (vI x2), none, none, none, none] [] s0 := by
  intro x1 x2 s0 r h
  unfold f_X7_isAhead at h
  refine aw_aload_n dX7_isAhead_0 rfl rfl ?_
  refine aw_getI dX7_isAhead_1 fk_X7_193 pM_0 rfl ?_
  refine aw_if_eq (tgt := 14) dX7_isAhead_4 (by decide) (fun hc => ?_) (fun hc => ?_)
  · replace h := ip hc h
    refine aw_iload_n dX7_isAhead_14 rfl rfl ?_
    obtain ⟨y1, hg1, h⟩ := bn_e h
    refine aw_S1i (M2 := M_X7_lines) dX7_isAhead_15 lk_X7_121 mk_X7_lines ms_X7_lines ⟨by decide, by decide⟩ (Nat.le_of_ble_eq_true rfl) (c_X7_lines  hg1) ?_
    exact (t_X7_isAhead_18   x1 x2 y1 s0 _ h)
  · replace h := ic hc h
    refine aw_iload_n dX7_isAhead_7 rfl rfl ?_
    obtain ⟨y2, hg2, h⟩ := bn_e h
    refine aw_S1i (M2 := M_X7_most) dX7_isAhead_8 lk_X7_127 mk_X7_most ms_X7_most ⟨by decide, by decide⟩ (Nat.le_of_ble_eq_true rfl) (c_X7_most  hg2) ?_
    refine aw_goto (tgt := 18) dX7_isAhead_11 (by decide) ?_
    exact (t_X7_isAhead_18   x1 x2 y2 s0 _ h)
theorem c_X7_isAhead {x1 : Int} {x2 : Int} {s0 : SS} {y : Int} (h : f_X7_isAhead x1 x2 s0 = some y) : CT LM M_X7_isAhead [vR (some 0), vI x1, vI x2] s0 (some (vI y), s0) :=
  ct_of (n := 4) (by decide) (Nat.le_of_ble_eq_true rfl) (t_X7_isAhead_0 x1 x2 s0  _ h)
def g_X7_findsBest_115  (s0 : SS) : Option SS :=
  some s0
set_option maxHeartbeats 4000000 in
theorem t_X7_findsBest_115  : ∀ (s0 : SS) (r : SS), g_X7_findsBest_115 s0 = some r → AW LM M_X7_findsBest (none, r) 115 [none, none] [] s0 := by
  intro s0 r h
  unfold g_X7_findsBest_115 at h
  obtain rfl := Option.some.inj h
  exact aw_vret dX7_findsBest_115 rfl
def g_X7_findsBest_106 (k50 : Int → SS → Option SS) (x1 : Int) (z0 : Int) (s0 : SS) : Option SS :=
  sb (up s0 0 18 z0) fun s1 =>
  sb (wr (x1 + 1)) fun y1 =>
  k50 y1 s1
set_option maxHeartbeats 4000000 in
theorem t_X7_findsBest_106 (k50 : Int → SS → Option SS) (hk50 : ∀ (x1 : Int) (s0 : SS) (r : SS), k50 x1 s0 = some r → AW LM M_X7_findsBest (none, r) 50 [some (vR (some 0)), some (vI x1)] [] s0) : ∀ (x1 : Int) (z0 : Int) (s0 : SS) (r : SS), g_X7_findsBest_106 k50 x1 z0 s0 = some r → AW LM M_X7_findsBest (none, r) 106 [some (vR (some 0)), some (vI x1)] [vI z0, vR (some 0)] s0 := by
  intro x1 z0 s0 r h
  unfold g_X7_findsBest_106 at h
  refine aw_put dX7_findsBest_106 fk_X7_197 pM_0 rfl ft_7_18 (nar_int _) (fun s1 e => ?_)
  replace h := sb_e h e
  clear e
  refine aw_iinc dX7_findsBest_109 rfl (by decide) rfl (fun y1 e => ?_)
  replace h := sb_e h e
  clear e
  show AW _ _ _ 112 [some (vR (some 0)), some (vI y1)] _ _
  refine aw_goto (tgt := 50) dX7_findsBest_112 (by decide) ?_
  exact (hk50 y1 s1 _ h)
def g_X7_findsBest_93 (k50 : Int → SS → Option SS) (x1 : Int) (s0 : SS) : Option SS :=
  gx x1 2560 <|
  g_X7_findsBest_106 k50 x1 (s0 9 x1.toNat) s0
set_option maxHeartbeats 4000000 in
theorem t_X7_findsBest_93 (k50 : Int → SS → Option SS) (hk50 : ∀ (x1 : Int) (s0 : SS) (r : SS), k50 x1 s0 = some r → AW LM M_X7_findsBest (none, r) 50 [some (vR (some 0)), some (vI x1)] [] s0) : ∀ (x1 : Int) (s0 : SS) (r : SS), g_X7_findsBest_93 k50 x1 s0 = some r → AW LM M_X7_findsBest (none, r) 93 [some (vR (some 0)), some (vI x1)] [vR (some 0)] s0 := by
  intro x1 s0 r h
  unfold g_X7_findsBest_93 at h
  refine aw_aload_n dX7_findsBest_93 rfl rfl ?_
  refine aw_getR (t := 9) dX7_findsBest_94 fk_X7_38 pM_0 rfl ?_
  refine aw_iload_n dX7_findsBest_97 rfl rfl ?_
  obtain ⟨hg1, h⟩ := gx_e h
  refine aw_iald dX7_findsBest_98 aM_9 hg1 ?_
  refine aw_goto (tgt := 106) dX7_findsBest_99 (by decide) ?_
  exact (t_X7_findsBest_106 k50 hk50 x1 (s0 9 x1.toNat) s0 _ h)
def g_X7_findsBest_50 (k50 : Int → SS → Option SS) (x1 : Int) (s0 : SS) : Option SS :=
  gx 0 40 <|
  if (s0 10 (0 : Int).toNat) ≤ x1 then (
    g_X7_findsBest_115  s0
  ) else (
    if (s0 0 4) ≤ 0 then (
      g_X7_findsBest_115  s0
    ) else (
      if (s0 0 18) = (-1) then (
        g_X7_findsBest_93 k50 x1 s0
      ) else (
        gx x1 2560 <|
        bn (f_X7_isAhead (s0 9 x1.toNat) (s0 0 18) s0) fun y1 =>
        if y1 = 0 then (
          g_X7_findsBest_106 k50 x1 (s0 0 18) s0
        ) else (
          g_X7_findsBest_93 k50 x1 s0
        )
      )
    )
  )
set_option maxHeartbeats 4000000 in
theorem t_X7_findsBest_50 (k50 : Int → SS → Option SS) (hk50 : ∀ (x1 : Int) (s0 : SS) (r : SS), k50 x1 s0 = some r → AW LM M_X7_findsBest (none, r) 50 [some (vR (some 0)), some (vI x1)] [] s0) : ∀ (x1 : Int) (s0 : SS) (r : SS), g_X7_findsBest_50 k50 x1 s0 = some r → AW LM M_X7_findsBest (none, r) 50 [some (vR (some 0)), some (vI x1)] [] s0 := by
  intro x1 s0 r h
  unfold g_X7_findsBest_50 at h
  refine aw_iload_n dX7_findsBest_50 rfl rfl ?_
  refine aw_aload_n dX7_findsBest_51 rfl rfl ?_
  refine aw_getR (t := 10) dX7_findsBest_52 fk_X7_41 pM_0 rfl ?_
  refine aw_iconst dX7_findsBest_55 ⟨by decide, by decide⟩ ?_
  obtain ⟨hg1, h⟩ := gx_e h
  refine aw_iald dX7_findsBest_56 aM_10 hg1 ?_
  refine aw_icmp_ge (tgt := 115) dX7_findsBest_57 (by decide) (fun hc => ?_) (fun hc => ?_)
  · replace h := ip hc h
    exact aw_less (ls' := [none, none]) (trivial) (t_X7_findsBest_115   s0 _ h)
  · replace h := ic hc h
    refine aw_aload_n dX7_findsBest_60 rfl rfl ?_
    refine aw_getI dX7_findsBest_61 fk_X7_93 pM_0 rfl ?_
    refine aw_if_le (tgt := 115) dX7_findsBest_64 (by decide) (fun hc => ?_) (fun hc => ?_)
    · replace h := ip hc h
      exact aw_less (ls' := [none, none]) (trivial) (t_X7_findsBest_115   s0 _ h)
    · replace h := ic hc h
      refine aw_aload_n dX7_findsBest_67 rfl rfl ?_
      refine aw_aload_n dX7_findsBest_68 rfl rfl ?_
      refine aw_getI dX7_findsBest_69 fk_X7_197 pM_0 rfl ?_
      refine aw_iconst dX7_findsBest_72 ⟨by decide, by decide⟩ ?_
      refine aw_icmp_eq (tgt := 93) dX7_findsBest_73 (by decide) (fun hc => ?_) (fun hc => ?_)
      · replace h := ip hc h
        exact (t_X7_findsBest_93 k50 hk50 x1 s0 _ h)
      · replace h := ic hc h
        refine aw_aload_n dX7_findsBest_76 rfl rfl ?_
        refine aw_aload_n dX7_findsBest_77 rfl rfl ?_
        refine aw_getR (t := 9) dX7_findsBest_78 fk_X7_38 pM_0 rfl ?_
        refine aw_iload_n dX7_findsBest_81 rfl rfl ?_
        obtain ⟨hg2, h⟩ := gx_e h
        refine aw_iald dX7_findsBest_82 aM_9 hg2 ?_
        refine aw_aload_n dX7_findsBest_83 rfl rfl ?_
        refine aw_getI dX7_findsBest_84 fk_X7_197 pM_0 rfl ?_
        obtain ⟨y1, hg3, h⟩ := bn_e h
        refine aw_V2i (M2 := M_X7_isAhead) dX7_findsBest_87 lk_X7_200 mk_X7_isAhead mv_X7_isAhead ⟨by decide, by decide⟩ pM_0 ⟨_, _, rfl⟩ (Nat.le_of_ble_eq_true rfl) (c_X7_isAhead  hg3) ?_
        refine aw_if_eq (tgt := 102) dX7_findsBest_90 (by decide) (fun hc => ?_) (fun hc => ?_)
        · replace h := ip hc h
          refine aw_aload_n dX7_findsBest_102 rfl rfl ?_
          refine aw_getI dX7_findsBest_103 fk_X7_197 pM_0 rfl ?_
          exact (t_X7_findsBest_106 k50 hk50 x1 (s0 0 18) s0 _ h)
        · replace h := ic hc h
          exact (t_X7_findsBest_93 k50 hk50 x1 s0 _ h)
def f_X7_findsBest_50 : Nat → Int → SS → Option SS
  | 0 => fun _ _ => none
  | n + 1 => g_X7_findsBest_50 (f_X7_findsBest_50  n)
theorem s_X7_findsBest_50  : ∀ (n : Nat), ∀ (x1 : Int) (s0 : SS) (r : SS), f_X7_findsBest_50 n x1 s0 = some r → AW LM M_X7_findsBest (none, r) 50 [some (vR (some 0)), some (vI x1)] [] s0 := by
  intro n
  induction n with
  | zero =>
    intro x1 s0 r h
    cases h
  | succ n ih =>
    intro x1 s0 r h
    exact t_X7_findsBest_50 (f_X7_findsBest_50  n) ih x1 s0 r h
def g_X7_findsBest_48  (s0 : SS) : Option SS :=
  f_X7_findsBest_50  FU 0 s0
set_option maxHeartbeats 4000000 in
theorem t_X7_findsBest_48  : ∀ (s0 : SS) (r : SS), g_X7_findsBest_48 s0 = some r → AW LM M_X7_findsBest (none, r) 48 [some (vR (some 0)), none] [] s0 := by
  intro s0 r h
  unfold g_X7_findsBest_48 at h
  refine aw_iconst dX7_findsBest_48 ⟨by decide, by decide⟩ ?_
  refine aw_istore_nA dX7_findsBest_49 rfl (by decide) rfl ?_
  show AW _ _ _ 50 [some (vR (some 0)), some (vI 0)] _ _
  exact (s_X7_findsBest_50   FU 0 s0 _ h)
def g_X7_findsBest_31 (z0 : Int) (s0 : SS) : Option SS :=
  gb z0 <|
  sb (up s0 0 19 z0) fun s1 =>
  if (s1 0 19) = 0 then (
    g_X7_findsBest_48  s1
  ) else (
    bn (f_X7_findsFronts 500 s1) fun s2 =>
    g_X7_findsBest_48  s2
  )
set_option maxHeartbeats 4000000 in
theorem t_X7_findsBest_31  : ∀ (z0 : Int) (s0 : SS) (r : SS), g_X7_findsBest_31 z0 s0 = some r → AW LM M_X7_findsBest (none, r) 31 [some (vR (some 0)), none] [vI z0, vR (some 0)] s0 := by
  intro z0 s0 r h
  unfold g_X7_findsBest_31 at h
  obtain ⟨hg1, h⟩ := gb_e h
  refine aw_put dX7_findsBest_31 fk_X7_193 pM_0 rfl ft_7_19 (nar_bool hg1) (fun s1 e => ?_)
  replace h := sb_e h e
  clear e
  refine aw_aload_n dX7_findsBest_34 rfl rfl ?_
  refine aw_getI dX7_findsBest_35 fk_X7_193 pM_0 rfl ?_
  refine aw_if_eq (tgt := 48) dX7_findsBest_38 (by decide) (fun hc => ?_) (fun hc => ?_)
  · replace h := ip hc h
    exact (t_X7_findsBest_48   s1 _ h)
  · replace h := ic hc h
    refine aw_aload_n dX7_findsBest_41 rfl rfl ?_
    refine aw_sipush dX7_findsBest_42 ⟨by decide, by decide⟩ (by decide) ?_
    obtain ⟨s2, hg2, h⟩ := bn_e h
    refine aw_V1v (M2 := M_X7_findsFronts) dX7_findsBest_45 lk_X7_169 mk_X7_findsFronts mv_X7_findsFronts ⟨by decide, by decide⟩ pM_0 ⟨_, _, rfl⟩ (Nat.le_of_ble_eq_true rfl) (c_X7_findsFronts  hg2) ?_
    exact (t_X7_findsBest_48   s2 _ h)
def g_X7_findsBest_30  (s0 : SS) : Option SS :=
  g_X7_findsBest_31  0 s0
set_option maxHeartbeats 4000000 in
theorem t_X7_findsBest_30  : ∀ (s0 : SS) (r : SS), g_X7_findsBest_30 s0 = some r → AW LM M_X7_findsBest (none, r) 30 [some (vR (some 0)), none] [vR (some 0)] s0 := by
  intro s0 r h
  unfold g_X7_findsBest_30 at h
  refine aw_iconst dX7_findsBest_30 ⟨by decide, by decide⟩ ?_
  exact (t_X7_findsBest_31   0 s0 _ h)
def f_X7_findsBest  (s0 : SS) : Option SS :=
  bn (f_X7_frontsTold s0) fun s1 =>
  sb (up s1 0 18 (-1)) fun s2 =>
  if (s2 0 4) ≤ 0 then (
    g_X7_findsBest_30  s2
  ) else (
    gx 0 40 <|
    if (s2 10 (0 : Int).toNat) = 0 then (
      g_X7_findsBest_31  1 s2
    ) else (
      g_X7_findsBest_30  s2
    )
  )
set_option maxHeartbeats 4000000 in
theorem t_X7_findsBest_0  : ∀ (s0 : SS) (r : SS), f_X7_findsBest s0 = some r → AW LM M_X7_findsBest (none, r) 0 [some (vR (some 0)), none] [] s0 := by
  intro s0 r h
  unfold f_X7_findsBest at h
  refine aw_aload_n dX7_findsBest_0 rfl rfl ?_
  obtain ⟨s1, hg1, h⟩ := bn_e h
  refine aw_V0v (M2 := M_X7_frontsTold) dX7_findsBest_1 lk_X7_172 mk_X7_frontsTold mv_X7_frontsTold ⟨by decide, by decide⟩ pM_0 ⟨_, _, rfl⟩ (Nat.le_of_ble_eq_true rfl) (c_X7_frontsTold  hg1) ?_
  refine aw_aload_n dX7_findsBest_4 rfl rfl ?_
  refine aw_iconst dX7_findsBest_5 ⟨by decide, by decide⟩ ?_
  refine aw_put dX7_findsBest_6 fk_X7_197 pM_0 rfl ft_7_18 (nar_int _) (fun s2 e => ?_)
  replace h := sb_e h e
  clear e
  refine aw_aload_n dX7_findsBest_9 rfl rfl ?_
  refine aw_aload_n dX7_findsBest_10 rfl rfl ?_
  refine aw_getI dX7_findsBest_11 fk_X7_93 pM_0 rfl ?_
  refine aw_if_le (tgt := 30) dX7_findsBest_14 (by decide) (fun hc => ?_) (fun hc => ?_)
  · replace h := ip hc h
    exact (t_X7_findsBest_30   s2 _ h)
  · replace h := ic hc h
    refine aw_aload_n dX7_findsBest_17 rfl rfl ?_
    refine aw_getR (t := 10) dX7_findsBest_18 fk_X7_41 pM_0 rfl ?_
    refine aw_iconst dX7_findsBest_21 ⟨by decide, by decide⟩ ?_
    obtain ⟨hg2, h⟩ := gx_e h
    refine aw_iald dX7_findsBest_22 aM_10 hg2 ?_
    refine aw_if_ne (tgt := 30) dX7_findsBest_23 (by decide) (fun hc => ?_) (fun hc => ?_)
    rotate_left
    · replace h := ip hc h
      refine aw_iconst dX7_findsBest_26 ⟨by decide, by decide⟩ ?_
      refine aw_goto (tgt := 31) dX7_findsBest_27 (by decide) ?_
      exact (t_X7_findsBest_31   1 s2 _ h)
    · replace h := ic hc h
      exact (t_X7_findsBest_30   s2 _ h)
theorem c_X7_findsBest {s0 : SS} {s1 : SS} (h : f_X7_findsBest s0 = some s1) : CT LM M_X7_findsBest [vR (some 0)] s0 (none, s1) :=
  ct_of (n := 1) (by decide) (Nat.le_of_ble_eq_true rfl) (t_X7_findsBest_0  s0  _ h)
def g_X7_bestOf_44 (z0 : Int) (s0 : SS) : Option (Int × SS) :=
  some (z0, s0)
set_option maxHeartbeats 4000000 in
theorem t_X7_bestOf_44  : ∀ (z0 : Int) (s0 : SS) (r : (Int × SS)), g_X7_bestOf_44 z0 s0 = some r → AW LM M_X7_bestOf (some (vI r.1), r.2) 44 [none, none] [vI z0] s0 := by
  intro z0 s0 r h
  unfold g_X7_bestOf_44 at h
  obtain rfl := Option.some.inj h
  exact aw_iret dX7_bestOf_44 rfl
def f_X7_bestOf (x1 : Int) (s0 : SS) : Option (Int × SS) :=
  bn (f_X7_findsBest s0) fun s1 =>
  if (s1 0 18) = (-1) then (
    g_X7_bestOf_44  (-1) s1
  ) else (
    if x1 = 4 then (
      if (s1 0 19) = 0 then (
        g_X7_bestOf_44  0 s1
      ) else (
        g_X7_bestOf_44  1 s1
      )
    ) else (
      bn (f_X7_tellOf (s1 0 18) x1) fun y1 =>
      g_X7_bestOf_44  y1 s1
    )
  )
set_option maxHeartbeats 4000000 in
theorem t_X7_bestOf_0  : ∀ (x1 : Int) (s0 : SS) (r : (Int × SS)), f_X7_bestOf x1 s0 = some r → AW LM M_X7_bestOf (some (vI r.1), r.2) 0 [some (vR (some 0)), some (vI x1)] [] s0 := by
  intro x1 s0 r h
  unfold f_X7_bestOf at h
  refine aw_aload_n dX7_bestOf_0 rfl rfl ?_
  obtain ⟨s1, hg1, h⟩ := bn_e h
  refine aw_V0v (M2 := M_X7_findsBest) dX7_bestOf_1 lk_X7_203 mk_X7_findsBest mv_X7_findsBest ⟨by decide, by decide⟩ pM_0 ⟨_, _, rfl⟩ (Nat.le_of_ble_eq_true rfl) (c_X7_findsBest  hg1) ?_
  refine aw_aload_n dX7_bestOf_4 rfl rfl ?_
  refine aw_getI dX7_bestOf_5 fk_X7_197 pM_0 rfl ?_
  refine aw_iconst dX7_bestOf_8 ⟨by decide, by decide⟩ ?_
  refine aw_icmp_ne (tgt := 16) dX7_bestOf_9 (by decide) (fun hc => ?_) (fun hc => ?_)
  rotate_left
  · replace h := ip hc h
    refine aw_iconst dX7_bestOf_12 ⟨by decide, by decide⟩ ?_
    refine aw_goto (tgt := 44) dX7_bestOf_13 (by decide) ?_
    exact aw_less (ls' := [none, none]) (trivial) (t_X7_bestOf_44   (-1) s1 _ h)
  · replace h := ic hc h
    refine aw_iload_n dX7_bestOf_16 rfl rfl ?_
    refine aw_iconst dX7_bestOf_17 ⟨by decide, by decide⟩ ?_
    refine aw_icmp_ne (tgt := 36) dX7_bestOf_18 (by decide) (fun hc => ?_) (fun hc => ?_)
    rotate_left
    · replace h := ip hc h
      refine aw_aload_n dX7_bestOf_21 rfl rfl ?_
      refine aw_getI dX7_bestOf_22 fk_X7_193 pM_0 rfl ?_
      refine aw_if_eq (tgt := 32) dX7_bestOf_25 (by decide) (fun hc => ?_) (fun hc => ?_)
      · replace h := ip hc h
        refine aw_iconst dX7_bestOf_32 ⟨by decide, by decide⟩ ?_
        refine aw_goto (tgt := 44) dX7_bestOf_33 (by decide) ?_
        exact aw_less (ls' := [none, none]) (trivial) (t_X7_bestOf_44   0 s1 _ h)
      · replace h := ic hc h
        refine aw_iconst dX7_bestOf_28 ⟨by decide, by decide⟩ ?_
        refine aw_goto (tgt := 44) dX7_bestOf_29 (by decide) ?_
        exact aw_less (ls' := [none, none]) (trivial) (t_X7_bestOf_44   1 s1 _ h)
    · replace h := ic hc h
      refine aw_aload_n dX7_bestOf_36 rfl rfl ?_
      refine aw_getI dX7_bestOf_37 fk_X7_197 pM_0 rfl ?_
      refine aw_iload_n dX7_bestOf_40 rfl rfl ?_
      obtain ⟨y1, hg2, h⟩ := bn_e h
      refine aw_S2i (M2 := M_X7_tellOf) dX7_bestOf_41 lk_X7_184 mk_X7_tellOf ms_X7_tellOf ⟨by decide, by decide⟩ (Nat.le_of_ble_eq_true rfl) (c_X7_tellOf  hg2) ?_
      exact aw_less (ls' := [none, none]) (trivial) (t_X7_bestOf_44   y1 s1 _ h)
theorem c_X7_bestOf {x1 : Int} {s0 : SS} {y : Int} {s1 : SS} (h : f_X7_bestOf x1 s0 = some (y, s1)) : CT LM M_X7_bestOf [vR (some 0), vI x1] s0 (some (vI y), s1) :=
  ct_of (n := 0) (by decide) (Nat.le_of_ble_eq_true rfl) (t_X7_bestOf_0 x1 s0  _ h)
def g_X7_best_19 (z0 : Int) (s0 : SS) : Option (Int × SS) :=
  some (z0, s0)
set_option maxHeartbeats 4000000 in
theorem t_X7_best_19  : ∀ (z0 : Int) (s0 : SS) (r : (Int × SS)), g_X7_best_19 z0 s0 = some r → AW LM M_X7_best (some (vI r.1), r.2) 19 [none, none] [vI z0] s0 := by
  intro z0 s0 r h
  unfold g_X7_best_19 at h
  obtain rfl := Option.some.inj h
  exact aw_iret dX7_best_19 rfl
def f_X7_best (x1 : Int) (s0 : SS) : Option (Int × SS) :=
  bn (f_X7_in x1 0 4) fun y1 =>
  if y1 = 0 then (
    g_X7_best_19  (-2) s0
  ) else (
    cb (f_X7_bestOf x1 s0) fun y2 s1 =>
    g_X7_best_19  y2 s1
  )
set_option maxHeartbeats 4000000 in
theorem t_X7_best_0  : ∀ (x1 : Int) (s0 : SS) (r : (Int × SS)), f_X7_best x1 s0 = some r → AW LM M_X7_best (some (vI r.1), r.2) 0 [some (vR (some 0)), some (vI x1)] [] s0 := by
  intro x1 s0 r h
  unfold f_X7_best at h
  refine aw_iload_n dX7_best_0 rfl rfl ?_
  refine aw_iconst dX7_best_1 ⟨by decide, by decide⟩ ?_
  refine aw_iconst dX7_best_2 ⟨by decide, by decide⟩ ?_
  obtain ⟨y1, hg1, h⟩ := bn_e h
  refine aw_S3i (M2 := M_X7_in) dX7_best_3 lk_X7_75 mk_X7_in ms_X7_in ⟨by decide, by decide⟩ (Nat.le_of_ble_eq_true rfl) (c_X7_in  hg1) ?_
  refine aw_if_eq (tgt := 17) dX7_best_6 (by decide) (fun hc => ?_) (fun hc => ?_)
  · replace h := ip hc h
    refine aw_bipush dX7_best_17 ⟨by decide, by decide⟩ (by decide) ?_
    exact aw_less (ls' := [none, none]) (trivial) (t_X7_best_19   (-2) s0 _ h)
  · replace h := ic hc h
    refine aw_aload_n dX7_best_9 rfl rfl ?_
    refine aw_iload_n dX7_best_10 rfl rfl ?_
    obtain ⟨y2, s1, hg2, h⟩ := cb_e h
    refine aw_V1i (M2 := M_X7_bestOf) dX7_best_11 lk_X7_206 mk_X7_bestOf mv_X7_bestOf ⟨by decide, by decide⟩ pM_0 ⟨_, _, rfl⟩ (Nat.le_of_ble_eq_true rfl) (c_X7_bestOf  hg2) ?_
    refine aw_goto (tgt := 19) dX7_best_14 (by decide) ?_
    exact aw_less (ls' := [none, none]) (trivial) (t_X7_best_19   y2 s1 _ h)
theorem c_X7_best {x1 : Int} {s0 : SS} {y : Int} {s1 : SS} (h : f_X7_best x1 s0 = some (y, s1)) : CT LM M_X7_best [vR (some 0), vI x1] s0 (some (vI y), s1) :=
  ct_of (n := 0) (by decide) (Nat.le_of_ble_eq_true rfl) (t_X7_best_0 x1 s0  _ h)
def g_X7_shapeBy_126 (z0 : Int) (s0 : SS) : Option Int :=
  some z0
set_option maxHeartbeats 4000000 in
theorem t_X7_shapeBy_126  : ∀ (z0 : Int) (s0 : SS) (r : Int), g_X7_shapeBy_126 z0 s0 = some r → AW LM M_X7_shapeBy (some (vI r), s0) 126 [none, none, none, none, none, none] [vI z0] s0 := by
  intro z0 s0 r h
  unfold g_X7_shapeBy_126 at h
  obtain rfl := Option.some.inj h
  exact aw_iret dX7_shapeBy_126 rfl
def g_X7_shapeBy_148 (z0 : Int) (s0 : SS) : Option Int :=
  some z0
set_option maxHeartbeats 4000000 in
theorem t_X7_shapeBy_148  : ∀ (z0 : Int) (s0 : SS) (r : Int), g_X7_shapeBy_148 z0 s0 = some r → AW LM M_X7_shapeBy (some (vI r), s0) 148 [none, none, none, none, none, none] [vI z0] s0 := by
  intro z0 s0 r h
  unfold g_X7_shapeBy_148 at h
  obtain rfl := Option.some.inj h
  exact aw_iret dX7_shapeBy_148 rfl
def g_X7_shapeBy_170 (z0 : Int) (s0 : SS) : Option Int :=
  some z0
set_option maxHeartbeats 4000000 in
theorem t_X7_shapeBy_170  : ∀ (z0 : Int) (s0 : SS) (r : Int), g_X7_shapeBy_170 z0 s0 = some r → AW LM M_X7_shapeBy (some (vI r), s0) 170 [none, none, none, none, none, none] [vI z0] s0 := by
  intro z0 s0 r h
  unfold g_X7_shapeBy_170 at h
  obtain rfl := Option.some.inj h
  exact aw_iret dX7_shapeBy_170 rfl
def g_X7_shapeBy_164  (s0 : SS) : Option Int :=
  g_X7_shapeBy_170  (-1) s0
set_option maxHeartbeats 4000000 in
theorem t_X7_shapeBy_164  : ∀ (s0 : SS) (r : Int), g_X7_shapeBy_164 s0 = some r → AW LM M_X7_shapeBy (some (vI r), s0) 164 [none, none, none, none, none, none] [] s0 := by
  intro s0 r h
  unfold g_X7_shapeBy_164 at h
  refine aw_iconst dX7_shapeBy_164 ⟨by decide, by decide⟩ ?_
  refine aw_goto (tgt := 170) dX7_shapeBy_165 (by decide) ?_
  exact (t_X7_shapeBy_170   (-1) s0 _ h)
def g_X7_shapeBy_195 (z0 : Int) (s0 : SS) : Option Int :=
  some z0
set_option maxHeartbeats 4000000 in
theorem t_X7_shapeBy_195  : ∀ (z0 : Int) (s0 : SS) (r : Int), g_X7_shapeBy_195 z0 s0 = some r → AW LM M_X7_shapeBy (some (vI r), s0) 195 [none, none, none, none, none, none] [vI z0] s0 := by
  intro z0 s0 r h
  unfold g_X7_shapeBy_195 at h
  obtain rfl := Option.some.inj h
  exact aw_iret dX7_shapeBy_195 rfl
def g_X7_shapeBy_183  (s0 : SS) : Option Int :=
  g_X7_shapeBy_195  (-1) s0
set_option maxHeartbeats 4000000 in
theorem t_X7_shapeBy_183  : ∀ (s0 : SS) (r : Int), g_X7_shapeBy_183 s0 = some r → AW LM M_X7_shapeBy (some (vI r), s0) 183 [none, none, none, none, none, none] [] s0 := by
  intro s0 r h
  unfold g_X7_shapeBy_183 at h
  refine aw_iconst dX7_shapeBy_183 ⟨by decide, by decide⟩ ?_
  refine aw_goto (tgt := 195) dX7_shapeBy_184 (by decide) ?_
  exact (t_X7_shapeBy_195   (-1) s0 _ h)
def g_X7_shapeBy_171 (x3 : Int) (x4 : Int) (x5 : Int) (s0 : SS) : Option Int :=
  if x4 = (-1) then (
    g_X7_shapeBy_183  s0
  ) else (
    if x5 = (-1) then (
      g_X7_shapeBy_183  s0
    ) else (
      bn (f_X7_both x3 x4 x5) fun y1 =>
      g_X7_shapeBy_195  y1 s0
    )
  )
set_option maxHeartbeats 4000000 in
theorem t_X7_shapeBy_171  : ∀ (x3 : Int) (x4 : Int) (x5 : Int) (s0 : SS) (r : Int), g_X7_shapeBy_171 x3 x4 x5 s0 = some r → AW LM M_X7_shapeBy (some (vI r), s0) 171 [none, none, none, some (vI x3), some (vI x4), some (vI x5)] [] s0 := by
  intro x3 x4 x5 s0 r h
  unfold g_X7_shapeBy_171 at h
  refine aw_iload dX7_shapeBy_171 rfl ?_
  refine aw_iconst dX7_shapeBy_173 ⟨by decide, by decide⟩ ?_
  refine aw_icmp_eq (tgt := 183) dX7_shapeBy_174 (by decide) (fun hc => ?_) (fun hc => ?_)
  · replace h := ip hc h
    exact aw_less (ls' := [none, none, none, none, none, none]) (trivial) (t_X7_shapeBy_183   s0 _ h)
  · replace h := ic hc h
    refine aw_iload dX7_shapeBy_177 rfl ?_
    refine aw_iconst dX7_shapeBy_179 ⟨by decide, by decide⟩ ?_
    refine aw_icmp_ne (tgt := 187) dX7_shapeBy_180 (by decide) (fun hc => ?_) (fun hc => ?_)
    rotate_left
    · replace h := ip hc h
      exact aw_less (ls' := [none, none, none, none, none, none]) (trivial) (t_X7_shapeBy_183   s0 _ h)
    · replace h := ic hc h
      refine aw_iload_n dX7_shapeBy_187 rfl rfl ?_
      refine aw_iload dX7_shapeBy_188 rfl ?_
      refine aw_iload dX7_shapeBy_190 rfl ?_
      obtain ⟨y1, hg1, h⟩ := bn_e h
      refine aw_S3i (M2 := M_X7_both) dX7_shapeBy_192 lk_X7_151 mk_X7_both ms_X7_both ⟨by decide, by decide⟩ (Nat.le_of_ble_eq_true rfl) (c_X7_both  hg1) ?_
      exact aw_less (ls' := [none, none, none, none, none, none]) (trivial) (t_X7_shapeBy_195   y1 s0 _ h)
def g_X7_shapeBy_47 (x1 : Int) (x2 : Int) (x3 : Int) (x4 : Int) (z0 : Int) (s0 : SS) : Option Int :=
  if x3 = 0 then (
    gx x1 40 <|
    gx x1 40 <|
    bn (f_X7_shape 1 (s0 3 x1.toNat) (s0 3 x1.toNat) 0) fun y1 =>
    some y1
  ) else (
  if x3 = 3 then (
    gx x1 40 <|
    bn (f_X7_isIn x2 (s0 3 x1.toNat)) fun y2 =>
    if y2 = 0 then (
      g_X7_shapeBy_126  x4 s0
    ) else (
      g_X7_shapeBy_126  z0 s0
    )
  ) else (
  if x3 = 4 then (
    if x4 = (-1) then (
      g_X7_shapeBy_148  (-1) s0
    ) else (
      gx x1 40 <|
      bn (f_X7_pushed x4 (s0 3 x1.toNat)) fun y3 =>
      g_X7_shapeBy_148  y3 s0
    )
  ) else (
  if x3 = 5 then (
    if x4 = (-1) then (
      g_X7_shapeBy_164  s0
    ) else (
      bn (f_X7_lines x4) fun y4 =>
      if y4 ≤ 1 then (
        g_X7_shapeBy_170  x4 s0
      ) else (
        g_X7_shapeBy_164  s0
      )
    )
  ) else (
    g_X7_shapeBy_171  x3 x4 z0 s0
  )
  )
  )
  )
set_option maxHeartbeats 4000000 in
theorem t_X7_shapeBy_47  : ∀ (x1 : Int) (x2 : Int) (x3 : Int) (x4 : Int) (z0 : Int) (s0 : SS) (r : Int), g_X7_shapeBy_47 x1 x2 x3 x4 z0 s0 = some r → AW LM M_X7_shapeBy (some (vI r), s0) 47 [some (vR (some 0)), some (vI x1), some (vI x2), some (vI x3), some (vI x4), none] [vI z0] s0 := by
  intro x1 x2 x3 x4 z0 s0 r h
  unfold g_X7_shapeBy_47 at h
  refine aw_istoreA dX7_shapeBy_47 (by decide) rfl ?_
  show AW _ _ _ 49 [some (vR (some 0)), some (vI x1), some (vI x2), some (vI x3), some (vI x4), some (vI z0)] _ _
  refine aw_iload_n dX7_shapeBy_49 rfl rfl ?_
  by_cases hc : x3 = 0
  · replace h := ip hc h
    refine aw_tableIn (tgt := 88) dX7_shapeBy_50 (by rw [hc]; decide) (by rw [hc]; decide) (by rw [hc]; rfl) (by decide) ?_
    refine aw_iconst dX7_shapeBy_88 ⟨by decide, by decide⟩ ?_
    refine aw_aload_n dX7_shapeBy_89 rfl rfl ?_
    refine aw_getR (t := 3) dX7_shapeBy_90 fk_X7_20 pM_0 rfl ?_
    refine aw_iload_n dX7_shapeBy_93 rfl rfl ?_
    obtain ⟨hg1, h⟩ := gx_e h
    refine aw_iald dX7_shapeBy_94 aM_3 hg1 ?_
    refine aw_aload_n dX7_shapeBy_95 rfl rfl ?_
    refine aw_getR (t := 3) dX7_shapeBy_96 fk_X7_20 pM_0 rfl ?_
    refine aw_iload_n dX7_shapeBy_99 rfl rfl ?_
    obtain ⟨hg2, h⟩ := gx_e h
    refine aw_iald dX7_shapeBy_100 aM_3 hg2 ?_
    refine aw_iconst dX7_shapeBy_101 ⟨by decide, by decide⟩ ?_
    obtain ⟨y1, hg3, h⟩ := bn_e h
    refine aw_S4i (M2 := M_X7_shape) dX7_shapeBy_102 lk_X7_134 mk_X7_shape ms_X7_shape ⟨by decide, by decide⟩ (Nat.le_of_ble_eq_true rfl) (c_X7_shape  hg3) ?_
    obtain rfl := Option.some.inj h
    exact aw_iret dX7_shapeBy_105 rfl
  replace h := ic hc h
  have hn0 := hc
  clear hc
  by_cases hc : x3 = 3
  · replace h := ip hc h
    refine aw_tableIn (tgt := 106) dX7_shapeBy_50 (by rw [hc]; decide) (by rw [hc]; decide) (by rw [hc]; rfl) (by decide) ?_
    refine aw_iload_n dX7_shapeBy_106 rfl rfl ?_
    refine aw_aload_n dX7_shapeBy_107 rfl rfl ?_
    refine aw_getR (t := 3) dX7_shapeBy_108 fk_X7_20 pM_0 rfl ?_
    refine aw_iload_n dX7_shapeBy_111 rfl rfl ?_
    obtain ⟨hg4, h⟩ := gx_e h
    refine aw_iald dX7_shapeBy_112 aM_3 hg4 ?_
    obtain ⟨y2, hg5, h⟩ := bn_e h
    refine aw_S2i (M2 := M_X7_isIn) dX7_shapeBy_113 lk_X7_209 mk_X7_isIn ms_X7_isIn ⟨by decide, by decide⟩ (Nat.le_of_ble_eq_true rfl) (c_X7_isIn  hg5) ?_
    refine aw_if_eq (tgt := 124) dX7_shapeBy_116 (by decide) (fun hc => ?_) (fun hc => ?_)
    · replace h := ip hc h
      refine aw_iload dX7_shapeBy_124 rfl ?_
      exact aw_less (ls' := [none, none, none, none, none, none]) (trivial) (t_X7_shapeBy_126   x4 s0 _ h)
    · replace h := ic hc h
      refine aw_iload dX7_shapeBy_119 rfl ?_
      refine aw_goto (tgt := 126) dX7_shapeBy_121 (by decide) ?_
      exact aw_less (ls' := [none, none, none, none, none, none]) (trivial) (t_X7_shapeBy_126   z0 s0 _ h)
  replace h := ic hc h
  have hn3 := hc
  clear hc
  by_cases hc : x3 = 4
  · replace h := ip hc h
    refine aw_tableIn (tgt := 127) dX7_shapeBy_50 (by rw [hc]; decide) (by rw [hc]; decide) (by rw [hc]; rfl) (by decide) ?_
    refine aw_iload dX7_shapeBy_127 rfl ?_
    refine aw_iconst dX7_shapeBy_129 ⟨by decide, by decide⟩ ?_
    refine aw_icmp_ne (tgt := 137) dX7_shapeBy_130 (by decide) (fun hc => ?_) (fun hc => ?_)
    rotate_left
    · replace h := ip hc h
      refine aw_iconst dX7_shapeBy_133 ⟨by decide, by decide⟩ ?_
      refine aw_goto (tgt := 148) dX7_shapeBy_134 (by decide) ?_
      exact aw_less (ls' := [none, none, none, none, none, none]) (trivial) (t_X7_shapeBy_148   (-1) s0 _ h)
    · replace h := ic hc h
      refine aw_iload dX7_shapeBy_137 rfl ?_
      refine aw_aload_n dX7_shapeBy_139 rfl rfl ?_
      refine aw_getR (t := 3) dX7_shapeBy_140 fk_X7_20 pM_0 rfl ?_
      refine aw_iload_n dX7_shapeBy_143 rfl rfl ?_
      obtain ⟨hg6, h⟩ := gx_e h
      refine aw_iald dX7_shapeBy_144 aM_3 hg6 ?_
      obtain ⟨y3, hg7, h⟩ := bn_e h
      refine aw_S2i (M2 := M_X7_pushed) dX7_shapeBy_145 lk_X7_166 mk_X7_pushed ms_X7_pushed ⟨by decide, by decide⟩ (Nat.le_of_ble_eq_true rfl) (c_X7_pushed  hg7) ?_
      exact aw_less (ls' := [none, none, none, none, none, none]) (trivial) (t_X7_shapeBy_148   y3 s0 _ h)
  replace h := ic hc h
  have hn4 := hc
  clear hc
  by_cases hc : x3 = 5
  · replace h := ip hc h
    refine aw_tableIn (tgt := 149) dX7_shapeBy_50 (by rw [hc]; decide) (by rw [hc]; decide) (by rw [hc]; rfl) (by decide) ?_
    refine aw_iload dX7_shapeBy_149 rfl ?_
    refine aw_iconst dX7_shapeBy_151 ⟨by decide, by decide⟩ ?_
    refine aw_icmp_eq (tgt := 164) dX7_shapeBy_152 (by decide) (fun hc => ?_) (fun hc => ?_)
    · replace h := ip hc h
      exact aw_less (ls' := [none, none, none, none, none, none]) (trivial) (t_X7_shapeBy_164   s0 _ h)
    · replace h := ic hc h
      refine aw_iload dX7_shapeBy_155 rfl ?_
      obtain ⟨y4, hg8, h⟩ := bn_e h
      refine aw_S1i (M2 := M_X7_lines) dX7_shapeBy_157 lk_X7_121 mk_X7_lines ms_X7_lines ⟨by decide, by decide⟩ (Nat.le_of_ble_eq_true rfl) (c_X7_lines  hg8) ?_
      refine aw_iconst dX7_shapeBy_160 ⟨by decide, by decide⟩ ?_
      refine aw_icmp_le (tgt := 168) dX7_shapeBy_161 (by decide) (fun hc => ?_) (fun hc => ?_)
      · replace h := ip hc h
        refine aw_iload dX7_shapeBy_168 rfl ?_
        exact aw_less (ls' := [none, none, none, none, none, none]) (trivial) (t_X7_shapeBy_170   x4 s0 _ h)
      · replace h := ic hc h
        exact aw_less (ls' := [none, none, none, none, none, none]) (trivial) (t_X7_shapeBy_164   s0 _ h)
  replace h := ic hc h
  have hn5 := hc
  clear hc
  have hK : AW LM M_X7_shapeBy (some (vI r), s0) 171 [some (vR (some 0)), some (vI x1), some (vI x2), some (vI x3), some (vI x4), some (vI z0)] [] s0 := by
    exact aw_less (ls' := [none, none, none, some (vI x3), some (vI x4), some (vI z0)]) (⟨rfl, ⟨rfl, ⟨rfl, trivial⟩⟩⟩) (t_X7_shapeBy_171   x3 x4 z0 s0 _ h)
  by_cases hr : x3 < 0 ∨ 5 < x3
  · exact aw_tableOut (tgt := 171) dX7_shapeBy_50 hr (by decide) hK
  · have hgp : x3 = 1 ∨ x3 = 2 := by omega
    rcases hgp with hc | hc <;>
      exact aw_tableIn (tgt := 171) dX7_shapeBy_50 (by rw [hc]; decide) (by rw [hc]; decide) (by rw [hc]; rfl) (by decide) hK
def g_X7_shapeBy_23 (x1 : Int) (x2 : Int) (x3 : Int) (z0 : Int) (s0 : SS) : Option Int :=
  bn (f_X7_isTwofold x3) fun y1 =>
  if y1 = 0 then (
    g_X7_shapeBy_47  x1 x2 x3 z0 (-1) s0
  ) else (
    gx x1 40 <|
    gx (s0 7 x1.toNat) 40 <|
    g_X7_shapeBy_47  x1 x2 x3 z0 (s0 11 (s0 7 x1.toNat).toNat) s0
  )
set_option maxHeartbeats 4000000 in
theorem t_X7_shapeBy_23  : ∀ (x1 : Int) (x2 : Int) (x3 : Int) (z0 : Int) (s0 : SS) (r : Int), g_X7_shapeBy_23 x1 x2 x3 z0 s0 = some r → AW LM M_X7_shapeBy (some (vI r), s0) 23 [some (vR (some 0)), some (vI x1), some (vI x2), some (vI x3), none, none] [vI z0] s0 := by
  intro x1 x2 x3 z0 s0 r h
  unfold g_X7_shapeBy_23 at h
  refine aw_istoreA dX7_shapeBy_23 (by decide) rfl ?_
  show AW _ _ _ 25 [some (vR (some 0)), some (vI x1), some (vI x2), some (vI x3), some (vI z0), none] _ _
  refine aw_iload_n dX7_shapeBy_25 rfl rfl ?_
  obtain ⟨y1, hg1, h⟩ := bn_e h
  refine aw_S1i (M2 := M_X7_isTwofold) dX7_shapeBy_26 lk_X7_102 mk_X7_isTwofold ms_X7_isTwofold ⟨by decide, by decide⟩ (Nat.le_of_ble_eq_true rfl) (c_X7_isTwofold  hg1) ?_
  refine aw_if_eq (tgt := 46) dX7_shapeBy_29 (by decide) (fun hc => ?_) (fun hc => ?_)
  · replace h := ip hc h
    refine aw_iconst dX7_shapeBy_46 ⟨by decide, by decide⟩ ?_
    exact (t_X7_shapeBy_47   x1 x2 x3 z0 (-1) s0 _ h)
  · replace h := ic hc h
    refine aw_aload_n dX7_shapeBy_32 rfl rfl ?_
    refine aw_getR (t := 11) dX7_shapeBy_33 fk_X7_44 pM_0 rfl ?_
    refine aw_aload_n dX7_shapeBy_36 rfl rfl ?_
    refine aw_getR (t := 7) dX7_shapeBy_37 fk_X7_32 pM_0 rfl ?_
    refine aw_iload_n dX7_shapeBy_40 rfl rfl ?_
    obtain ⟨hg2, h⟩ := gx_e h
    refine aw_iald dX7_shapeBy_41 aM_7 hg2 ?_
    obtain ⟨hg3, h⟩ := gx_e h
    refine aw_iald dX7_shapeBy_42 aM_11 hg3 ?_
    refine aw_goto (tgt := 47) dX7_shapeBy_43 (by decide) ?_
    exact (t_X7_shapeBy_47   x1 x2 x3 z0 (s0 11 (s0 7 x1.toNat).toNat) s0 _ h)
def f_X7_shapeBy (x1 : Int) (x2 : Int) (s0 : SS) : Option Int :=
  gx x1 40 <|
  sb (s0 2 x1.toNat) fun y1 =>
  if y1 = 0 then (
    g_X7_shapeBy_23  x1 x2 y1 (-1) s0
  ) else (
    gx (wr (x1 + 1)) 40 <|
    g_X7_shapeBy_23  x1 x2 y1 (s0 11 (wr (x1 + 1)).toNat) s0
  )
set_option maxHeartbeats 4000000 in
theorem t_X7_shapeBy_0  : ∀ (x1 : Int) (x2 : Int) (s0 : SS) (r : Int), f_X7_shapeBy x1 x2 s0 = some r → AW LM M_X7_shapeBy (some (vI r), s0) 0 [some (vR (some 0)), some (vI x1), some (vI x2), none, none, none] [] s0 := by
  intro x1 x2 s0 r h
  unfold f_X7_shapeBy at h
  refine aw_aload_n dX7_shapeBy_0 rfl rfl ?_
  refine aw_getR (t := 2) dX7_shapeBy_1 fk_X7_17 pM_0 rfl ?_
  refine aw_iload_n dX7_shapeBy_4 rfl rfl ?_
  obtain ⟨hg1, h⟩ := gx_e h
  refine aw_iald dX7_shapeBy_5 aM_2 hg1 ?_
  refine aw_istore_n dX7_shapeBy_6 rfl (by decide) rfl (fun y1 e => ?_)
  replace h := sb_e h e
  clear e
  show AW _ _ _ 7 [some (vR (some 0)), some (vI x1), some (vI x2), some (vI y1), none, none] _ _
  refine aw_iload_n dX7_shapeBy_7 rfl rfl ?_
  refine aw_if_ne (tgt := 15) dX7_shapeBy_8 (by decide) (fun hc => ?_) (fun hc => ?_)
  rotate_left
  · replace h := ip hc h
    refine aw_iconst dX7_shapeBy_11 ⟨by decide, by decide⟩ ?_
    refine aw_goto (tgt := 23) dX7_shapeBy_12 (by decide) ?_
    exact (t_X7_shapeBy_23   x1 x2 y1 (-1) s0 _ h)
  · replace h := ic hc h
    refine aw_aload_n dX7_shapeBy_15 rfl rfl ?_
    refine aw_getR (t := 11) dX7_shapeBy_16 fk_X7_44 pM_0 rfl ?_
    refine aw_iload_n dX7_shapeBy_19 rfl rfl ?_
    refine aw_iconst dX7_shapeBy_20 ⟨by decide, by decide⟩ ?_
    refine aw_iadd dX7_shapeBy_21 ?_
    obtain ⟨hg2, h⟩ := gx_e h
    refine aw_iald dX7_shapeBy_22 aM_11 hg2 ?_
    exact (t_X7_shapeBy_23   x1 x2 y1 (s0 11 (wr (x1 + 1)).toNat) s0 _ h)
theorem c_X7_shapeBy {x1 : Int} {x2 : Int} {s0 : SS} {y : Int} (h : f_X7_shapeBy x1 x2 s0 = some y) : CT LM M_X7_shapeBy [vR (some 0), vI x1, vI x2] s0 (some (vI y), s0) :=
  ct_of (n := 3) (by decide) (Nat.le_of_ble_eq_true rfl) (t_X7_shapeBy_0 x1 x2 s0  _ h)
def g_X7_shapeOf_46 (z0 : Int) (s0 : SS) : Option (Int × SS) :=
  some (z0, s0)
set_option maxHeartbeats 4000000 in
theorem t_X7_shapeOf_46  : ∀ (z0 : Int) (s0 : SS) (r : (Int × SS)), g_X7_shapeOf_46 z0 s0 = some r → AW LM M_X7_shapeOf (some (vI r.1), r.2) 46 [none, none, none] [vI z0] s0 := by
  intro z0 s0 r h
  unfold g_X7_shapeOf_46 at h
  obtain rfl := Option.some.inj h
  exact aw_iret dX7_shapeOf_46 rfl
def g_X7_shapeOf_29  (s0 : SS) : Option (Int × SS) :=
  if (s0 0 4) = 0 then (
    g_X7_shapeOf_46  (-1) s0
  ) else (
    gx 0 40 <|
    g_X7_shapeOf_46  (s0 11 (0 : Int).toNat) s0
  )
set_option maxHeartbeats 4000000 in
theorem t_X7_shapeOf_29  : ∀ (s0 : SS) (r : (Int × SS)), g_X7_shapeOf_29 s0 = some r → AW LM M_X7_shapeOf (some (vI r.1), r.2) 29 [some (vR (some 0)), none, none] [] s0 := by
  intro s0 r h
  unfold g_X7_shapeOf_29 at h
  refine aw_aload_n dX7_shapeOf_29 rfl rfl ?_
  refine aw_getI dX7_shapeOf_30 fk_X7_93 pM_0 rfl ?_
  refine aw_if_ne (tgt := 40) dX7_shapeOf_33 (by decide) (fun hc => ?_) (fun hc => ?_)
  rotate_left
  · replace h := ip hc h
    refine aw_iconst dX7_shapeOf_36 ⟨by decide, by decide⟩ ?_
    refine aw_goto (tgt := 46) dX7_shapeOf_37 (by decide) ?_
    exact aw_less (ls' := [none, none, none]) (trivial) (t_X7_shapeOf_46   (-1) s0 _ h)
  · replace h := ic hc h
    refine aw_aload_n dX7_shapeOf_40 rfl rfl ?_
    refine aw_getR (t := 11) dX7_shapeOf_41 fk_X7_44 pM_0 rfl ?_
    refine aw_iconst dX7_shapeOf_44 ⟨by decide, by decide⟩ ?_
    obtain ⟨hg1, h⟩ := gx_e h
    refine aw_iald dX7_shapeOf_45 aM_11 hg1 ?_
    exact aw_less (ls' := [none, none, none]) (trivial) (t_X7_shapeOf_46   (s0 11 (0 : Int).toNat) s0 _ h)
def g_X7_shapeOf_7 (k7 : Int → Int → SS → Option (Int × SS)) (x1 : Int) (x2 : Int) (s0 : SS) : Option (Int × SS) :=
  if x2 < 0 then (
    g_X7_shapeOf_29  s0
  ) else (
    bn (f_X7_shapeBy x2 x1 s0) fun y1 =>
    gx x2 40 <|
    sb (up s0 11 x2.toNat y1) fun s1 =>
    sb (wr (x2 + (-1))) fun y2 =>
    k7 x1 y2 s1
  )
set_option maxHeartbeats 4000000 in
theorem t_X7_shapeOf_7 (k7 : Int → Int → SS → Option (Int × SS)) (hk7 : ∀ (x1 : Int) (x2 : Int) (s0 : SS) (r : (Int × SS)), k7 x1 x2 s0 = some r → AW LM M_X7_shapeOf (some (vI r.1), r.2) 7 [some (vR (some 0)), some (vI x1), some (vI x2)] [] s0) : ∀ (x1 : Int) (x2 : Int) (s0 : SS) (r : (Int × SS)), g_X7_shapeOf_7 k7 x1 x2 s0 = some r → AW LM M_X7_shapeOf (some (vI r.1), r.2) 7 [some (vR (some 0)), some (vI x1), some (vI x2)] [] s0 := by
  intro x1 x2 s0 r h
  unfold g_X7_shapeOf_7 at h
  refine aw_iload_n dX7_shapeOf_7 rfl rfl ?_
  refine aw_if_lt (tgt := 29) dX7_shapeOf_8 (by decide) (fun hc => ?_) (fun hc => ?_)
  · replace h := ip hc h
    exact aw_less (ls' := [some (vR (some 0)), none, none]) (⟨rfl, trivial⟩) (t_X7_shapeOf_29   s0 _ h)
  · replace h := ic hc h
    refine aw_aload_n dX7_shapeOf_11 rfl rfl ?_
    refine aw_getR (t := 11) dX7_shapeOf_12 fk_X7_44 pM_0 rfl ?_
    refine aw_iload_n dX7_shapeOf_15 rfl rfl ?_
    refine aw_aload_n dX7_shapeOf_16 rfl rfl ?_
    refine aw_iload_n dX7_shapeOf_17 rfl rfl ?_
    refine aw_iload_n dX7_shapeOf_18 rfl rfl ?_
    obtain ⟨y1, hg1, h⟩ := bn_e h
    refine aw_V2i (M2 := M_X7_shapeBy) dX7_shapeOf_19 lk_X7_212 mk_X7_shapeBy mv_X7_shapeBy ⟨by decide, by decide⟩ pM_0 ⟨_, _, rfl⟩ (Nat.le_of_ble_eq_true rfl) (c_X7_shapeBy  hg1) ?_
    obtain ⟨hg2, h⟩ := gx_e h
    refine aw_iast dX7_shapeOf_22 aM_11 hg2 (fun s1 e => ?_)
    replace h := sb_e h e
    clear e
    refine aw_iinc dX7_shapeOf_23 rfl (by decide) rfl (fun y2 e => ?_)
    replace h := sb_e h e
    clear e
    show AW _ _ _ 26 [some (vR (some 0)), some (vI x1), some (vI y2)] _ _
    refine aw_goto (tgt := 7) dX7_shapeOf_26 (by decide) ?_
    exact (hk7 x1 y2 s1 _ h)
def f_X7_shapeOf_7 : Nat → Int → Int → SS → Option (Int × SS)
  | 0 => fun _ _ _ => none
  | n + 1 => g_X7_shapeOf_7 (f_X7_shapeOf_7  n)
theorem s_X7_shapeOf_7  : ∀ (n : Nat), ∀ (x1 : Int) (x2 : Int) (s0 : SS) (r : (Int × SS)), f_X7_shapeOf_7 n x1 x2 s0 = some r → AW LM M_X7_shapeOf (some (vI r.1), r.2) 7 [some (vR (some 0)), some (vI x1), some (vI x2)] [] s0 := by
  intro n
  induction n with
  | zero =>
    intro x1 x2 s0 r h
    cases h
  | succ n ih =>
    intro x1 x2 s0 r h
    exact t_X7_shapeOf_7 (f_X7_shapeOf_7  n) ih x1 x2 s0 r h
def f_X7_shapeOf (x1 : Int) (s0 : SS) : Option (Int × SS) :=
  sb (wr ((s0 0 4) - 1)) fun y1 =>
  f_X7_shapeOf_7  FU x1 y1 s0
set_option maxHeartbeats 4000000 in
theorem t_X7_shapeOf_0  : ∀ (x1 : Int) (s0 : SS) (r : (Int × SS)), f_X7_shapeOf x1 s0 = some r → AW LM M_X7_shapeOf (some (vI r.1), r.2) 0 [some (vR (some 0)), some (vI x1), none] [] s0 := by
  intro x1 s0 r h
  unfold f_X7_shapeOf at h
  refine aw_aload_n dX7_shapeOf_0 rfl rfl ?_
  refine aw_getI dX7_shapeOf_1 fk_X7_93 pM_0 rfl ?_
  refine aw_iconst dX7_shapeOf_4 ⟨by decide, by decide⟩ ?_
  refine aw_isub dX7_shapeOf_5 ?_
  refine aw_istore_n dX7_shapeOf_6 rfl (by decide) rfl (fun y1 e => ?_)
  replace h := sb_e h e
  clear e
  show AW _ _ _ 7 [some (vR (some 0)), some (vI x1), some (vI y1)] _ _
  exact (s_X7_shapeOf_7   FU x1 y1 s0 _ h)
theorem c_X7_shapeOf {x1 : Int} {s0 : SS} {y : Int} {s1 : SS} (h : f_X7_shapeOf x1 s0 = some (y, s1)) : CT LM M_X7_shapeOf [vR (some 0), vI x1] s0 (some (vI y), s1) :=
  ct_of (n := 1) (by decide) (Nat.le_of_ble_eq_true rfl) (t_X7_shapeOf_0 x1 s0  _ h)
def g_X7_findsWays_29  (s0 : SS) : Option SS :=
  some s0
set_option maxHeartbeats 4000000 in
theorem t_X7_findsWays_29  : ∀ (s0 : SS) (r : SS), g_X7_findsWays_29 s0 = some r → AW LM M_X7_findsWays (none, r) 29 [none, none] [] s0 := by
  intro s0 r h
  unfold g_X7_findsWays_29 at h
  obtain rfl := Option.some.inj h
  exact aw_vret dX7_findsWays_29 rfl
def g_X7_findsWays_6 (k6 : Int → SS → Option SS) (x1 : Int) (s0 : SS) : Option SS :=
  if 64 ≤ x1 then (
    g_X7_findsWays_29  s0
  ) else (
    cb (f_X7_shapeOf x1 s0) fun y1 s1 =>
    gx x1 64 <|
    sb (up s1 12 x1.toNat y1) fun s2 =>
    sb (wr (x1 + 1)) fun y2 =>
    k6 y2 s2
  )
set_option maxHeartbeats 4000000 in
theorem t_X7_findsWays_6 (k6 : Int → SS → Option SS) (hk6 : ∀ (x1 : Int) (s0 : SS) (r : SS), k6 x1 s0 = some r → AW LM M_X7_findsWays (none, r) 6 [some (vR (some 0)), some (vI x1)] [] s0) : ∀ (x1 : Int) (s0 : SS) (r : SS), g_X7_findsWays_6 k6 x1 s0 = some r → AW LM M_X7_findsWays (none, r) 6 [some (vR (some 0)), some (vI x1)] [] s0 := by
  intro x1 s0 r h
  unfold g_X7_findsWays_6 at h
  refine aw_iload_n dX7_findsWays_6 rfl rfl ?_
  refine aw_bipush dX7_findsWays_7 ⟨by decide, by decide⟩ (by decide) ?_
  refine aw_icmp_ge (tgt := 29) dX7_findsWays_9 (by decide) (fun hc => ?_) (fun hc => ?_)
  · replace h := ip hc h
    exact aw_less (ls' := [none, none]) (trivial) (t_X7_findsWays_29   s0 _ h)
  · replace h := ic hc h
    refine aw_aload_n dX7_findsWays_12 rfl rfl ?_
    refine aw_getR (t := 12) dX7_findsWays_13 fk_X7_47 pM_0 rfl ?_
    refine aw_iload_n dX7_findsWays_16 rfl rfl ?_
    refine aw_aload_n dX7_findsWays_17 rfl rfl ?_
    refine aw_iload_n dX7_findsWays_18 rfl rfl ?_
    obtain ⟨y1, s1, hg1, h⟩ := cb_e h
    refine aw_V1i (M2 := M_X7_shapeOf) dX7_findsWays_19 lk_X7_215 mk_X7_shapeOf mv_X7_shapeOf ⟨by decide, by decide⟩ pM_0 ⟨_, _, rfl⟩ (Nat.le_of_ble_eq_true rfl) (c_X7_shapeOf  hg1) ?_
    obtain ⟨hg2, h⟩ := gx_e h
    refine aw_iast dX7_findsWays_22 aM_12 hg2 (fun s2 e => ?_)
    replace h := sb_e h e
    clear e
    refine aw_iinc dX7_findsWays_23 rfl (by decide) rfl (fun y2 e => ?_)
    replace h := sb_e h e
    clear e
    show AW _ _ _ 26 [some (vR (some 0)), some (vI y2)] _ _
    refine aw_goto (tgt := 6) dX7_findsWays_26 (by decide) ?_
    exact (hk6 y2 s2 _ h)
def f_X7_findsWays_6 : Nat → Int → SS → Option SS
  | 0 => fun _ _ => none
  | n + 1 => g_X7_findsWays_6 (f_X7_findsWays_6  n)
theorem s_X7_findsWays_6  : ∀ (n : Nat), ∀ (x1 : Int) (s0 : SS) (r : SS), f_X7_findsWays_6 n x1 s0 = some r → AW LM M_X7_findsWays (none, r) 6 [some (vR (some 0)), some (vI x1)] [] s0 := by
  intro n
  induction n with
  | zero =>
    intro x1 s0 r h
    cases h
  | succ n ih =>
    intro x1 s0 r h
    exact t_X7_findsWays_6 (f_X7_findsWays_6  n) ih x1 s0 r h
def f_X7_findsWays  (s0 : SS) : Option SS :=
  bn (f_X7_reads s0) fun s1 =>
  f_X7_findsWays_6  FU 0 s1
set_option maxHeartbeats 4000000 in
theorem t_X7_findsWays_0  : ∀ (s0 : SS) (r : SS), f_X7_findsWays s0 = some r → AW LM M_X7_findsWays (none, r) 0 [some (vR (some 0)), none] [] s0 := by
  intro s0 r h
  unfold f_X7_findsWays at h
  refine aw_aload_n dX7_findsWays_0 rfl rfl ?_
  obtain ⟨s1, hg1, h⟩ := bn_e h
  refine aw_V0v (M2 := M_X7_reads) dX7_findsWays_1 lk_X7_112 mk_X7_reads mv_X7_reads ⟨by decide, by decide⟩ pM_0 ⟨_, _, rfl⟩ (Nat.le_of_ble_eq_true rfl) (c_X7_reads  hg1) ?_
  refine aw_iconst dX7_findsWays_4 ⟨by decide, by decide⟩ ?_
  refine aw_istore_nA dX7_findsWays_5 rfl (by decide) rfl ?_
  show AW _ _ _ 6 [some (vR (some 0)), some (vI 0)] _ _
  exact (s_X7_findsWays_6   FU 0 s1 _ h)
theorem c_X7_findsWays {s0 : SS} {s1 : SS} (h : f_X7_findsWays s0 = some s1) : CT LM M_X7_findsWays [vR (some 0)] s0 (none, s1) :=
  ct_of (n := 1) (by decide) (Nat.le_of_ble_eq_true rfl) (t_X7_findsWays_0  s0  _ h)
def g_X7_wayFor_24 (z0 : Int) (s0 : SS) : Option (Int × SS) :=
  some (z0, s0)
set_option maxHeartbeats 4000000 in
theorem t_X7_wayFor_24  : ∀ (z0 : Int) (s0 : SS) (r : (Int × SS)), g_X7_wayFor_24 z0 s0 = some r → AW LM M_X7_wayFor (some (vI r.1), r.2) 24 [none, none, none, none] [vI z0] s0 := by
  intro z0 s0 r h
  unfold g_X7_wayFor_24 at h
  obtain rfl := Option.some.inj h
  exact aw_iret dX7_wayFor_24 rfl
def f_X7_wayFor (x1 : Int) (x2 : Int) (s0 : SS) : Option (Int × SS) :=
  bn (f_X7_reads s0) fun s1 =>
  cb (f_X7_shapeOf x1 s1) fun y1 s2 =>
  if y1 = (-1) then (
    g_X7_wayFor_24  (-1) s2
  ) else (
    bn (f_X7_tellOf y1 x2) fun y2 =>
    g_X7_wayFor_24  y2 s2
  )
set_option maxHeartbeats 4000000 in
theorem t_X7_wayFor_0  : ∀ (x1 : Int) (x2 : Int) (s0 : SS) (r : (Int × SS)), f_X7_wayFor x1 x2 s0 = some r → AW LM M_X7_wayFor (some (vI r.1), r.2) 0 [some (vR (some 0)), some (vI x1), some (vI x2), none] [] s0 := by
  intro x1 x2 s0 r h
  unfold f_X7_wayFor at h
  refine aw_aload_n dX7_wayFor_0 rfl rfl ?_
  obtain ⟨s1, hg1, h⟩ := bn_e h
  refine aw_V0v (M2 := M_X7_reads) dX7_wayFor_1 lk_X7_112 mk_X7_reads mv_X7_reads ⟨by decide, by decide⟩ pM_0 ⟨_, _, rfl⟩ (Nat.le_of_ble_eq_true rfl) (c_X7_reads  hg1) ?_
  refine aw_aload_n dX7_wayFor_4 rfl rfl ?_
  refine aw_iload_n dX7_wayFor_5 rfl rfl ?_
  obtain ⟨y1, s2, hg2, h⟩ := cb_e h
  refine aw_V1i (M2 := M_X7_shapeOf) dX7_wayFor_6 lk_X7_215 mk_X7_shapeOf mv_X7_shapeOf ⟨by decide, by decide⟩ pM_0 ⟨_, _, rfl⟩ (Nat.le_of_ble_eq_true rfl) (c_X7_shapeOf  hg2) ?_
  refine aw_istore_nA dX7_wayFor_9 rfl (by decide) rfl ?_
  show AW _ _ _ 10 [some (vR (some 0)), some (vI x1), some (vI x2), some (vI y1)] _ _
  refine aw_iload_n dX7_wayFor_10 rfl rfl ?_
  refine aw_iconst dX7_wayFor_11 ⟨by decide, by decide⟩ ?_
  refine aw_icmp_ne (tgt := 19) dX7_wayFor_12 (by decide) (fun hc => ?_) (fun hc => ?_)
  rotate_left
  · replace h := ip hc h
    refine aw_iconst dX7_wayFor_15 ⟨by decide, by decide⟩ ?_
    refine aw_goto (tgt := 24) dX7_wayFor_16 (by decide) ?_
    exact aw_less (ls' := [none, none, none, none]) (trivial) (t_X7_wayFor_24   (-1) s2 _ h)
  · replace h := ic hc h
    refine aw_iload_n dX7_wayFor_19 rfl rfl ?_
    refine aw_iload_n dX7_wayFor_20 rfl rfl ?_
    obtain ⟨y2, hg3, h⟩ := bn_e h
    refine aw_S2i (M2 := M_X7_tellOf) dX7_wayFor_21 lk_X7_184 mk_X7_tellOf ms_X7_tellOf ⟨by decide, by decide⟩ (Nat.le_of_ble_eq_true rfl) (c_X7_tellOf  hg3) ?_
    exact aw_less (ls' := [none, none, none, none]) (trivial) (t_X7_wayFor_24   y2 s2 _ h)
theorem c_X7_wayFor {x1 : Int} {x2 : Int} {s0 : SS} {y : Int} {s1 : SS} (h : f_X7_wayFor x1 x2 s0 = some (y, s1)) : CT LM M_X7_wayFor [vR (some 0), vI x1, vI x2] s0 (some (vI y), s1) :=
  ct_of (n := 1) (by decide) (Nat.le_of_ble_eq_true rfl) (t_X7_wayFor_0 x1 x2 s0  _ h)
def g_X7_way_30 (z0 : Int) (s0 : SS) : Option (Int × SS) :=
  some (z0, s0)
set_option maxHeartbeats 4000000 in
theorem t_X7_way_30  : ∀ (z0 : Int) (s0 : SS) (r : (Int × SS)), g_X7_way_30 z0 s0 = some r → AW LM M_X7_way (some (vI r.1), r.2) 30 [none, none, none] [vI z0] s0 := by
  intro z0 s0 r h
  unfold g_X7_way_30 at h
  obtain rfl := Option.some.inj h
  exact aw_iret dX7_way_30 rfl
def g_X7_way_28  (s0 : SS) : Option (Int × SS) :=
  g_X7_way_30  (-2) s0
set_option maxHeartbeats 4000000 in
theorem t_X7_way_28  : ∀ (s0 : SS) (r : (Int × SS)), g_X7_way_28 s0 = some r → AW LM M_X7_way (some (vI r.1), r.2) 28 [none, none, none] [] s0 := by
  intro s0 r h
  unfold g_X7_way_28 at h
  refine aw_bipush dX7_way_28 ⟨by decide, by decide⟩ (by decide) ?_
  exact (t_X7_way_30   (-2) s0 _ h)
def f_X7_way (x1 : Int) (x2 : Int) (s0 : SS) : Option (Int × SS) :=
  bn (f_X7_in x1 0 63) fun y1 =>
  if y1 = 0 then (
    g_X7_way_28  s0
  ) else (
    bn (f_X7_in x2 0 2) fun y2 =>
    if y2 = 0 then (
      g_X7_way_28  s0
    ) else (
      cb (f_X7_wayFor x1 x2 s0) fun y3 s1 =>
      g_X7_way_30  y3 s1
    )
  )
set_option maxHeartbeats 4000000 in
theorem t_X7_way_0  : ∀ (x1 : Int) (x2 : Int) (s0 : SS) (r : (Int × SS)), f_X7_way x1 x2 s0 = some r → AW LM M_X7_way (some (vI r.1), r.2) 0 [some (vR (some 0)), some (vI x1), some (vI x2)] [] s0 := by
  intro x1 x2 s0 r h
  unfold f_X7_way at h
  refine aw_iload_n dX7_way_0 rfl rfl ?_
  refine aw_iconst dX7_way_1 ⟨by decide, by decide⟩ ?_
  refine aw_bipush dX7_way_2 ⟨by decide, by decide⟩ (by decide) ?_
  obtain ⟨y1, hg1, h⟩ := bn_e h
  refine aw_S3i (M2 := M_X7_in) dX7_way_4 lk_X7_75 mk_X7_in ms_X7_in ⟨by decide, by decide⟩ (Nat.le_of_ble_eq_true rfl) (c_X7_in  hg1) ?_
  refine aw_if_eq (tgt := 28) dX7_way_7 (by decide) (fun hc => ?_) (fun hc => ?_)
  · replace h := ip hc h
    exact aw_less (ls' := [none, none, none]) (trivial) (t_X7_way_28   s0 _ h)
  · replace h := ic hc h
    refine aw_iload_n dX7_way_10 rfl rfl ?_
    refine aw_iconst dX7_way_11 ⟨by decide, by decide⟩ ?_
    refine aw_iconst dX7_way_12 ⟨by decide, by decide⟩ ?_
    obtain ⟨y2, hg2, h⟩ := bn_e h
    refine aw_S3i (M2 := M_X7_in) dX7_way_13 lk_X7_75 mk_X7_in ms_X7_in ⟨by decide, by decide⟩ (Nat.le_of_ble_eq_true rfl) (c_X7_in  hg2) ?_
    refine aw_if_eq (tgt := 28) dX7_way_16 (by decide) (fun hc => ?_) (fun hc => ?_)
    · replace h := ip hc h
      exact aw_less (ls' := [none, none, none]) (trivial) (t_X7_way_28   s0 _ h)
    · replace h := ic hc h
      refine aw_aload_n dX7_way_19 rfl rfl ?_
      refine aw_iload_n dX7_way_20 rfl rfl ?_
      refine aw_iload_n dX7_way_21 rfl rfl ?_
      obtain ⟨y3, s1, hg3, h⟩ := cb_e h
      refine aw_V2i (M2 := M_X7_wayFor) dX7_way_22 lk_X7_218 mk_X7_wayFor mv_X7_wayFor ⟨by decide, by decide⟩ pM_0 ⟨_, _, rfl⟩ (Nat.le_of_ble_eq_true rfl) (c_X7_wayFor  hg3) ?_
      refine aw_goto (tgt := 30) dX7_way_25 (by decide) ?_
      exact aw_less (ls' := [none, none, none]) (trivial) (t_X7_way_30   y3 s1 _ h)
theorem c_X7_way {x1 : Int} {x2 : Int} {s0 : SS} {y : Int} {s1 : SS} (h : f_X7_way x1 x2 s0 = some (y, s1)) : CT LM M_X7_way [vR (some 0), vI x1, vI x2] s0 (some (vI y), s1) :=
  ct_of (n := 0) (by decide) (Nat.le_of_ble_eq_true rfl) (t_X7_way_0 x1 x2 s0  _ h)
def f_X7_puts (x1 : Int) (x2 : Int) (x3 : Int) (s0 : SS) : Option SS :=
  gx x1 40 <|
  sb (up s0 15 x1.toNat 1) fun s1 =>
  gx x1 40 <|
  sb (up s1 13 x1.toNat x2) fun s2 =>
  gx x1 40 <|
  sb (up s2 14 x1.toNat x3) fun s3 =>
  some s3
set_option maxHeartbeats 4000000 in
theorem t_X7_puts_0  : ∀ (x1 : Int) (x2 : Int) (x3 : Int) (s0 : SS) (r : SS), f_X7_puts x1 x2 x3 s0 = some r → AW LM M_X7_puts (none, r) 0 [some (vR (some 0)), some (vI x1), some (vI x2), some (vI x3)] [] s0 := by
  intro x1 x2 x3 s0 r h
  unfold f_X7_puts at h
  refine aw_aload_n dX7_puts_0 rfl rfl ?_
  refine aw_getR (t := 15) dX7_puts_1 fk_X7_56 pM_0 rfl ?_
  refine aw_iload_n dX7_puts_4 rfl rfl ?_
  refine aw_iconst dX7_puts_5 ⟨by decide, by decide⟩ ?_
  obtain ⟨hg1, h⟩ := gx_e h
  refine aw_iast dX7_puts_6 aM_15 hg1 (fun s1 e => ?_)
  replace h := sb_e h e
  clear e
  refine aw_aload_n dX7_puts_7 rfl rfl ?_
  refine aw_getR (t := 13) dX7_puts_8 fk_X7_50 pM_0 rfl ?_
  refine aw_iload_n dX7_puts_11 rfl rfl ?_
  refine aw_iload_n dX7_puts_12 rfl rfl ?_
  obtain ⟨hg2, h⟩ := gx_e h
  refine aw_iast dX7_puts_13 aM_13 hg2 (fun s2 e => ?_)
  replace h := sb_e h e
  clear e
  refine aw_aload_n dX7_puts_14 rfl rfl ?_
  refine aw_getR (t := 14) dX7_puts_15 fk_X7_53 pM_0 rfl ?_
  refine aw_iload_n dX7_puts_18 rfl rfl ?_
  refine aw_iload_n dX7_puts_19 rfl rfl ?_
  obtain ⟨hg3, h⟩ := gx_e h
  refine aw_iast dX7_puts_20 aM_14 hg3 (fun s3 e => ?_)
  replace h := sb_e h e
  clear e
  obtain rfl := Option.some.inj h
  exact aw_vret dX7_puts_21 rfl
theorem c_X7_puts {x1 : Int} {x2 : Int} {x3 : Int} {s0 : SS} {s1 : SS} (h : f_X7_puts x1 x2 x3 s0 = some s1) : CT LM M_X7_puts [vR (some 0), vI x1, vI x2, vI x3] s0 (none, s1) :=
  ct_of (n := 0) (by decide) (Nat.le_of_ble_eq_true rfl) (t_X7_puts_0 x1 x2 x3 s0  _ h)
def g_X7_setsBelow_200  (s0 : SS) : Option SS :=
  some s0
set_option maxHeartbeats 4000000 in
theorem t_X7_setsBelow_200  : ∀ (s0 : SS) (r : SS), g_X7_setsBelow_200 s0 = some r → AW LM M_X7_setsBelow (none, r) 200 [none, none, none, none, none] [] s0 := by
  intro s0 r h
  unfold g_X7_setsBelow_200 at h
  obtain rfl := Option.some.inj h
  exact aw_vret dX7_setsBelow_200 rfl
def g_X7_setsBelow_82 (x3 : Int) (x4 : Int) (z0 : Int) (s0 : SS) : Option SS :=
  bn (f_X7_puts z0 x3 x4 s0) fun s1 =>
  g_X7_setsBelow_200  s1
set_option maxHeartbeats 4000000 in
theorem t_X7_setsBelow_82  : ∀ (x3 : Int) (x4 : Int) (z0 : Int) (s0 : SS) (r : SS), g_X7_setsBelow_82 x3 x4 z0 s0 = some r → AW LM M_X7_setsBelow (none, r) 82 [none, none, none, some (vI x3), some (vI x4)] [vI z0, vR (some 0)] s0 := by
  intro x3 x4 z0 s0 r h
  unfold g_X7_setsBelow_82 at h
  refine aw_iload_n dX7_setsBelow_82 rfl rfl ?_
  refine aw_iload dX7_setsBelow_83 rfl ?_
  obtain ⟨s1, hg1, h⟩ := bn_e h
  refine aw_V3v (M2 := M_X7_puts) dX7_setsBelow_85 lk_X7_224 mk_X7_puts mv_X7_puts ⟨by decide, by decide⟩ pM_0 ⟨_, _, rfl⟩ (Nat.le_of_ble_eq_true rfl) (c_X7_puts  hg1) ?_
  refine aw_goto (tgt := 200) dX7_setsBelow_88 (by decide) ?_
  exact aw_less (ls' := [none, none, none, none, none]) (trivial) (t_X7_setsBelow_200   s1 _ h)
def g_X7_setsBelow_196 (z0 : Int) (z1 : Int) (z2 : Int) (z3 : Int) (s0 : SS) : Option SS :=
  bn (f_X7_puts z3 z2 (wr (z1 + z0)) s0) fun s1 =>
  g_X7_setsBelow_200  s1
set_option maxHeartbeats 4000000 in
theorem t_X7_setsBelow_196  : ∀ (z0 : Int) (z1 : Int) (z2 : Int) (z3 : Int) (s0 : SS) (r : SS), g_X7_setsBelow_196 z0 z1 z2 z3 s0 = some r → AW LM M_X7_setsBelow (none, r) 196 [none, none, none, none, none] [vI z0, vI z1, vI z2, vI z3, vR (some 0)] s0 := by
  intro z0 z1 z2 z3 s0 r h
  unfold g_X7_setsBelow_196 at h
  refine aw_iadd dX7_setsBelow_196 ?_
  obtain ⟨s1, hg1, h⟩ := bn_e h
  refine aw_V3v (M2 := M_X7_puts) dX7_setsBelow_197 lk_X7_224 mk_X7_puts mv_X7_puts ⟨by decide, by decide⟩ pM_0 ⟨_, _, rfl⟩ (Nat.le_of_ble_eq_true rfl) (c_X7_puts  hg1) ?_
  exact (t_X7_setsBelow_200   s1 _ h)
def f_X7_setsBelow (x1 : Int) (s0 : SS) : Option SS :=
  sb (wr (x1 + 1)) fun y1 =>
  gx x1 40 <|
  sb (s0 13 x1.toNat) fun y2 =>
  gx x1 40 <|
  sb (s0 14 x1.toNat) fun y3 =>
  gx x1 40 <|
  sb (s0 2 x1.toNat) fun y4 =>
  if y4 = 1 then (
    bn (f_X7_puts y1 y2 y3 s0) fun s1 =>
    gx x1 40 <|
    gx y1 40 <|
    bn (f_X7_lines (s1 11 y1.toNat)) fun y5 =>
    gx y1 40 <|
    bn (f_X7_last (s1 11 y1.toNat)) fun y6 =>
    bn (f_X7_puts (s1 7 x1.toNat) (wr ((wr (y2 + y5)) - 1)) (wr (y3 + y6)) s1) fun s2 =>
    g_X7_setsBelow_200  s2
  ) else (
  if y4 = 2 then (
    bn (f_X7_puts y1 y2 y3 s0) fun s3 =>
    gx x1 40 <|
    gx y1 40 <|
    bn (f_X7_lines (s3 11 y1.toNat)) fun y7 =>
    bn (f_X7_puts (s3 7 x1.toNat) (wr (y2 + y7)) y3 s3) fun s4 =>
    g_X7_setsBelow_200  s4
  ) else (
  if y4 = 3 then (
    bn (f_X7_wayOf (s0 0 18)) fun y8 =>
    gx x1 40 <|
    bn (f_X7_isIn y8 (s0 3 x1.toNat)) fun y9 =>
    if y9 = 0 then (
      g_X7_setsBelow_82  y2 y3 y1 s0
    ) else (
      gx x1 40 <|
      g_X7_setsBelow_82  y2 y3 (s0 7 x1.toNat) s0
    )
  ) else (
    gx x1 40 <|
    if (s0 2 x1.toNat) = 4 then (
      gx x1 40 <|
      g_X7_setsBelow_196  (s0 3 x1.toNat) y3 y2 y1 s0
    ) else (
      g_X7_setsBelow_196  0 y3 y2 y1 s0
    )
  )
  )
  )
set_option maxHeartbeats 4000000 in
theorem t_X7_setsBelow_0  : ∀ (x1 : Int) (s0 : SS) (r : SS), f_X7_setsBelow x1 s0 = some r → AW LM M_X7_setsBelow (none, r) 0 [some (vR (some 0)), some (vI x1), none, none, none] [] s0 := by
  intro x1 s0 r h
  unfold f_X7_setsBelow at h
  refine aw_iload_n dX7_setsBelow_0 rfl rfl ?_
  refine aw_iconst dX7_setsBelow_1 ⟨by decide, by decide⟩ ?_
  refine aw_iadd dX7_setsBelow_2 ?_
  refine aw_istore_n dX7_setsBelow_3 rfl (by decide) rfl (fun y1 e => ?_)
  replace h := sb_e h e
  clear e
  show AW _ _ _ 4 [some (vR (some 0)), some (vI x1), some (vI y1), none, none] _ _
  refine aw_aload_n dX7_setsBelow_4 rfl rfl ?_
  refine aw_getR (t := 13) dX7_setsBelow_5 fk_X7_50 pM_0 rfl ?_
  refine aw_iload_n dX7_setsBelow_8 rfl rfl ?_
  obtain ⟨hg1, h⟩ := gx_e h
  refine aw_iald dX7_setsBelow_9 aM_13 hg1 ?_
  refine aw_istore_n dX7_setsBelow_10 rfl (by decide) rfl (fun y2 e => ?_)
  replace h := sb_e h e
  clear e
  show AW _ _ _ 11 [some (vR (some 0)), some (vI x1), some (vI y1), some (vI y2), none] _ _
  refine aw_aload_n dX7_setsBelow_11 rfl rfl ?_
  refine aw_getR (t := 14) dX7_setsBelow_12 fk_X7_53 pM_0 rfl ?_
  refine aw_iload_n dX7_setsBelow_15 rfl rfl ?_
  obtain ⟨hg2, h⟩ := gx_e h
  refine aw_iald dX7_setsBelow_16 aM_14 hg2 ?_
  refine aw_istore dX7_setsBelow_17 (by decide) rfl (fun y3 e => ?_)
  replace h := sb_e h e
  clear e
  show AW _ _ _ 19 [some (vR (some 0)), some (vI x1), some (vI y1), some (vI y2), some (vI y3)] _ _
  refine aw_aload_n dX7_setsBelow_19 rfl rfl ?_
  refine aw_getR (t := 2) dX7_setsBelow_20 fk_X7_17 pM_0 rfl ?_
  refine aw_iload_n dX7_setsBelow_23 rfl rfl ?_
  obtain ⟨hg3, h⟩ := gx_e h
  refine aw_iald dX7_setsBelow_24 aM_2 hg3 ?_
  refine aw_name (fun y4 e => ?_)
  replace h := sb_e h e
  clear e
  by_cases hc : y4 = 1
  · replace h := ip hc h
    refine aw_tableIn (tgt := 91) dX7_setsBelow_25 (by rw [hc]; decide) (by rw [hc]; decide) (by rw [hc]; rfl) (by decide) ?_
    refine aw_aload_n dX7_setsBelow_91 rfl rfl ?_
    refine aw_iload_n dX7_setsBelow_92 rfl rfl ?_
    refine aw_iload_n dX7_setsBelow_93 rfl rfl ?_
    refine aw_iload dX7_setsBelow_94 rfl ?_
    obtain ⟨s1, hg4, h⟩ := bn_e h
    refine aw_V3v (M2 := M_X7_puts) dX7_setsBelow_96 lk_X7_224 mk_X7_puts mv_X7_puts ⟨by decide, by decide⟩ pM_0 ⟨_, _, rfl⟩ (Nat.le_of_ble_eq_true rfl) (c_X7_puts  hg4) ?_
    refine aw_aload_n dX7_setsBelow_99 rfl rfl ?_
    refine aw_aload_n dX7_setsBelow_100 rfl rfl ?_
    refine aw_getR (t := 7) dX7_setsBelow_101 fk_X7_32 pM_0 rfl ?_
    refine aw_iload_n dX7_setsBelow_104 rfl rfl ?_
    obtain ⟨hg5, h⟩ := gx_e h
    refine aw_iald dX7_setsBelow_105 aM_7 hg5 ?_
    refine aw_iload_n dX7_setsBelow_106 rfl rfl ?_
    refine aw_aload_n dX7_setsBelow_107 rfl rfl ?_
    refine aw_getR (t := 11) dX7_setsBelow_108 fk_X7_44 pM_0 rfl ?_
    refine aw_iload_n dX7_setsBelow_111 rfl rfl ?_
    obtain ⟨hg6, h⟩ := gx_e h
    refine aw_iald dX7_setsBelow_112 aM_11 hg6 ?_
    obtain ⟨y5, hg7, h⟩ := bn_e h
    refine aw_S1i (M2 := M_X7_lines) dX7_setsBelow_113 lk_X7_121 mk_X7_lines ms_X7_lines ⟨by decide, by decide⟩ (Nat.le_of_ble_eq_true rfl) (c_X7_lines  hg7) ?_
    refine aw_iadd dX7_setsBelow_116 ?_
    refine aw_iconst dX7_setsBelow_117 ⟨by decide, by decide⟩ ?_
    refine aw_isub dX7_setsBelow_118 ?_
    refine aw_iload dX7_setsBelow_119 rfl ?_
    refine aw_aload_n dX7_setsBelow_121 rfl rfl ?_
    refine aw_getR (t := 11) dX7_setsBelow_122 fk_X7_44 pM_0 rfl ?_
    refine aw_iload_n dX7_setsBelow_125 rfl rfl ?_
    obtain ⟨hg8, h⟩ := gx_e h
    refine aw_iald dX7_setsBelow_126 aM_11 hg8 ?_
    obtain ⟨y6, hg9, h⟩ := bn_e h
    refine aw_S1i (M2 := M_X7_last) dX7_setsBelow_127 lk_X7_124 mk_X7_last ms_X7_last ⟨by decide, by decide⟩ (Nat.le_of_ble_eq_true rfl) (c_X7_last  hg9) ?_
    refine aw_iadd dX7_setsBelow_130 ?_
    obtain ⟨s2, hg10, h⟩ := bn_e h
    refine aw_V3v (M2 := M_X7_puts) dX7_setsBelow_131 lk_X7_224 mk_X7_puts mv_X7_puts ⟨by decide, by decide⟩ pM_0 ⟨_, _, rfl⟩ (Nat.le_of_ble_eq_true rfl) (c_X7_puts  hg10) ?_
    refine aw_goto (tgt := 200) dX7_setsBelow_134 (by decide) ?_
    exact aw_less (ls' := [none, none, none, none, none]) (trivial) (t_X7_setsBelow_200   s2 _ h)
  replace h := ic hc h
  have hn1 := hc
  clear hc
  by_cases hc : y4 = 2
  · replace h := ip hc h
    refine aw_tableIn (tgt := 137) dX7_setsBelow_25 (by rw [hc]; decide) (by rw [hc]; decide) (by rw [hc]; rfl) (by decide) ?_
    refine aw_aload_n dX7_setsBelow_137 rfl rfl ?_
    refine aw_iload_n dX7_setsBelow_138 rfl rfl ?_
    refine aw_iload_n dX7_setsBelow_139 rfl rfl ?_
    refine aw_iload dX7_setsBelow_140 rfl ?_
    obtain ⟨s3, hg11, h⟩ := bn_e h
    refine aw_V3v (M2 := M_X7_puts) dX7_setsBelow_142 lk_X7_224 mk_X7_puts mv_X7_puts ⟨by decide, by decide⟩ pM_0 ⟨_, _, rfl⟩ (Nat.le_of_ble_eq_true rfl) (c_X7_puts  hg11) ?_
    refine aw_aload_n dX7_setsBelow_145 rfl rfl ?_
    refine aw_aload_n dX7_setsBelow_146 rfl rfl ?_
    refine aw_getR (t := 7) dX7_setsBelow_147 fk_X7_32 pM_0 rfl ?_
    refine aw_iload_n dX7_setsBelow_150 rfl rfl ?_
    obtain ⟨hg12, h⟩ := gx_e h
    refine aw_iald dX7_setsBelow_151 aM_7 hg12 ?_
    refine aw_iload_n dX7_setsBelow_152 rfl rfl ?_
    refine aw_aload_n dX7_setsBelow_153 rfl rfl ?_
    refine aw_getR (t := 11) dX7_setsBelow_154 fk_X7_44 pM_0 rfl ?_
    refine aw_iload_n dX7_setsBelow_157 rfl rfl ?_
    obtain ⟨hg13, h⟩ := gx_e h
    refine aw_iald dX7_setsBelow_158 aM_11 hg13 ?_
    obtain ⟨y7, hg14, h⟩ := bn_e h
    refine aw_S1i (M2 := M_X7_lines) dX7_setsBelow_159 lk_X7_121 mk_X7_lines ms_X7_lines ⟨by decide, by decide⟩ (Nat.le_of_ble_eq_true rfl) (c_X7_lines  hg14) ?_
    refine aw_iadd dX7_setsBelow_162 ?_
    refine aw_iload dX7_setsBelow_163 rfl ?_
    obtain ⟨s4, hg15, h⟩ := bn_e h
    refine aw_V3v (M2 := M_X7_puts) dX7_setsBelow_165 lk_X7_224 mk_X7_puts mv_X7_puts ⟨by decide, by decide⟩ pM_0 ⟨_, _, rfl⟩ (Nat.le_of_ble_eq_true rfl) (c_X7_puts  hg15) ?_
    refine aw_goto (tgt := 200) dX7_setsBelow_168 (by decide) ?_
    exact aw_less (ls' := [none, none, none, none, none]) (trivial) (t_X7_setsBelow_200   s4 _ h)
  replace h := ic hc h
  have hn2 := hc
  clear hc
  by_cases hc : y4 = 3
  · replace h := ip hc h
    refine aw_tableIn (tgt := 52) dX7_setsBelow_25 (by rw [hc]; decide) (by rw [hc]; decide) (by rw [hc]; rfl) (by decide) ?_
    refine aw_aload_n dX7_setsBelow_52 rfl rfl ?_
    refine aw_aload_n dX7_setsBelow_53 rfl rfl ?_
    refine aw_getI dX7_setsBelow_54 fk_X7_197 pM_0 rfl ?_
    obtain ⟨y8, hg16, h⟩ := bn_e h
    refine aw_S1i (M2 := M_X7_wayOf) dX7_setsBelow_57 lk_X7_118 mk_X7_wayOf ms_X7_wayOf ⟨by decide, by decide⟩ (Nat.le_of_ble_eq_true rfl) (c_X7_wayOf  hg16) ?_
    refine aw_aload_n dX7_setsBelow_60 rfl rfl ?_
    refine aw_getR (t := 3) dX7_setsBelow_61 fk_X7_20 pM_0 rfl ?_
    refine aw_iload_n dX7_setsBelow_64 rfl rfl ?_
    obtain ⟨hg17, h⟩ := gx_e h
    refine aw_iald dX7_setsBelow_65 aM_3 hg17 ?_
    obtain ⟨y9, hg18, h⟩ := bn_e h
    refine aw_S2i (M2 := M_X7_isIn) dX7_setsBelow_66 lk_X7_209 mk_X7_isIn ms_X7_isIn ⟨by decide, by decide⟩ (Nat.le_of_ble_eq_true rfl) (c_X7_isIn  hg18) ?_
    refine aw_if_eq (tgt := 81) dX7_setsBelow_69 (by decide) (fun hc => ?_) (fun hc => ?_)
    · replace h := ip hc h
      refine aw_iload_n dX7_setsBelow_81 rfl rfl ?_
      exact aw_less (ls' := [none, none, none, some (vI y2), some (vI y3)]) (⟨rfl, ⟨rfl, trivial⟩⟩) (t_X7_setsBelow_82   y2 y3 y1 s0 _ h)
    · replace h := ic hc h
      refine aw_aload_n dX7_setsBelow_72 rfl rfl ?_
      refine aw_getR (t := 7) dX7_setsBelow_73 fk_X7_32 pM_0 rfl ?_
      refine aw_iload_n dX7_setsBelow_76 rfl rfl ?_
      obtain ⟨hg19, h⟩ := gx_e h
      refine aw_iald dX7_setsBelow_77 aM_7 hg19 ?_
      refine aw_goto (tgt := 82) dX7_setsBelow_78 (by decide) ?_
      exact aw_less (ls' := [none, none, none, some (vI y2), some (vI y3)]) (⟨rfl, ⟨rfl, trivial⟩⟩) (t_X7_setsBelow_82   y2 y3 (s0 7 x1.toNat) s0 _ h)
  replace h := ic hc h
  have hn3 := hc
  clear hc
  have hK : AW LM M_X7_setsBelow (none, r) 171 [some (vR (some 0)), some (vI x1), some (vI y1), some (vI y2), some (vI y3)] [] s0 := by
    refine aw_aload_n dX7_setsBelow_171 rfl rfl ?_
    refine aw_iload_n dX7_setsBelow_172 rfl rfl ?_
    refine aw_iload_n dX7_setsBelow_173 rfl rfl ?_
    refine aw_iload dX7_setsBelow_174 rfl ?_
    refine aw_aload_n dX7_setsBelow_176 rfl rfl ?_
    refine aw_getR (t := 2) dX7_setsBelow_177 fk_X7_17 pM_0 rfl ?_
    refine aw_iload_n dX7_setsBelow_180 rfl rfl ?_
    obtain ⟨hg20, h⟩ := gx_e h
    refine aw_iald dX7_setsBelow_181 aM_2 hg20 ?_
    refine aw_iconst dX7_setsBelow_182 ⟨by decide, by decide⟩ ?_
    refine aw_icmp_ne (tgt := 195) dX7_setsBelow_183 (by decide) (fun hc => ?_) (fun hc => ?_)
    rotate_left
    · replace h := ip hc h
      refine aw_aload_n dX7_setsBelow_186 rfl rfl ?_
      refine aw_getR (t := 3) dX7_setsBelow_187 fk_X7_20 pM_0 rfl ?_
      refine aw_iload_n dX7_setsBelow_190 rfl rfl ?_
      obtain ⟨hg21, h⟩ := gx_e h
      refine aw_iald dX7_setsBelow_191 aM_3 hg21 ?_
      refine aw_goto (tgt := 196) dX7_setsBelow_192 (by decide) ?_
      exact aw_less (ls' := [none, none, none, none, none]) (trivial) (t_X7_setsBelow_196   (s0 3 x1.toNat) y3 y2 y1 s0 _ h)
    · replace h := ic hc h
      refine aw_iconst dX7_setsBelow_195 ⟨by decide, by decide⟩ ?_
      exact aw_less (ls' := [none, none, none, none, none]) (trivial) (t_X7_setsBelow_196   0 y3 y2 y1 s0 _ h)
  by_cases hr : y4 < 1 ∨ 3 < y4
  · exact aw_tableOut (tgt := 171) dX7_setsBelow_25 hr (by decide) hK
  · exact absurd hr (by omega)
theorem c_X7_setsBelow {x1 : Int} {s0 : SS} {s1 : SS} (h : f_X7_setsBelow x1 s0 = some s1) : CT LM M_X7_setsBelow [vR (some 0), vI x1] s0 (none, s1) :=
  ct_of (n := 3) (by decide) (Nat.le_of_ble_eq_true rfl) (t_X7_setsBelow_0 x1 s0  _ h)
def g_X7_sets_121  (s0 : SS) : Option SS :=
  some s0
set_option maxHeartbeats 4000000 in
theorem t_X7_sets_121  : ∀ (s0 : SS) (r : SS), g_X7_sets_121 s0 = some r → AW LM M_X7_sets (none, r) 121 [none, none] [] s0 := by
  intro s0 r h
  unfold g_X7_sets_121 at h
  obtain rfl := Option.some.inj h
  exact aw_vret dX7_sets_121 rfl
def g_X7_sets_115 (k83 : Int → SS → Option SS) (x1 : Int) (s0 : SS) : Option SS :=
  sb (wr (x1 + 1)) fun y1 =>
  k83 y1 s0
set_option maxHeartbeats 4000000 in
theorem t_X7_sets_115 (k83 : Int → SS → Option SS) (hk83 : ∀ (x1 : Int) (s0 : SS) (r : SS), k83 x1 s0 = some r → AW LM M_X7_sets (none, r) 83 [some (vR (some 0)), some (vI x1)] [] s0) : ∀ (x1 : Int) (s0 : SS) (r : SS), g_X7_sets_115 k83 x1 s0 = some r → AW LM M_X7_sets (none, r) 115 [some (vR (some 0)), some (vI x1)] [] s0 := by
  intro x1 s0 r h
  unfold g_X7_sets_115 at h
  refine aw_iinc dX7_sets_115 rfl (by decide) rfl (fun y1 e => ?_)
  replace h := sb_e h e
  clear e
  show AW _ _ _ 118 [some (vR (some 0)), some (vI y1)] _ _
  refine aw_goto (tgt := 83) dX7_sets_118 (by decide) ?_
  exact (hk83 y1 s0 _ h)
def g_X7_sets_83 (k83 : Int → SS → Option SS) (x1 : Int) (s0 : SS) : Option SS :=
  if (s0 0 4) ≤ x1 then (
    g_X7_sets_121  s0
  ) else (
    gx x1 40 <|
    if (s0 15 x1.toNat) = 1 then (
      gx x1 40 <|
      if (s0 2 x1.toNat) = 0 then (
        g_X7_sets_115 k83 x1 s0
      ) else (
        bn (f_X7_setsBelow x1 s0) fun s1 =>
        g_X7_sets_115 k83 x1 s1
      )
    ) else (
      g_X7_sets_115 k83 x1 s0
    )
  )
set_option maxHeartbeats 4000000 in
theorem t_X7_sets_83 (k83 : Int → SS → Option SS) (hk83 : ∀ (x1 : Int) (s0 : SS) (r : SS), k83 x1 s0 = some r → AW LM M_X7_sets (none, r) 83 [some (vR (some 0)), some (vI x1)] [] s0) : ∀ (x1 : Int) (s0 : SS) (r : SS), g_X7_sets_83 k83 x1 s0 = some r → AW LM M_X7_sets (none, r) 83 [some (vR (some 0)), some (vI x1)] [] s0 := by
  intro x1 s0 r h
  unfold g_X7_sets_83 at h
  refine aw_iload_n dX7_sets_83 rfl rfl ?_
  refine aw_aload_n dX7_sets_84 rfl rfl ?_
  refine aw_getI dX7_sets_85 fk_X7_93 pM_0 rfl ?_
  refine aw_icmp_ge (tgt := 121) dX7_sets_88 (by decide) (fun hc => ?_) (fun hc => ?_)
  · replace h := ip hc h
    exact aw_less (ls' := [none, none]) (trivial) (t_X7_sets_121   s0 _ h)
  · replace h := ic hc h
    refine aw_aload_n dX7_sets_91 rfl rfl ?_
    refine aw_getR (t := 15) dX7_sets_92 fk_X7_56 pM_0 rfl ?_
    refine aw_iload_n dX7_sets_95 rfl rfl ?_
    obtain ⟨hg1, h⟩ := gx_e h
    refine aw_iald dX7_sets_96 aM_15 hg1 ?_
    refine aw_iconst dX7_sets_97 ⟨by decide, by decide⟩ ?_
    refine aw_icmp_ne (tgt := 115) dX7_sets_98 (by decide) (fun hc => ?_) (fun hc => ?_)
    rotate_left
    · replace h := ip hc h
      refine aw_aload_n dX7_sets_101 rfl rfl ?_
      refine aw_getR (t := 2) dX7_sets_102 fk_X7_17 pM_0 rfl ?_
      refine aw_iload_n dX7_sets_105 rfl rfl ?_
      obtain ⟨hg2, h⟩ := gx_e h
      refine aw_iald dX7_sets_106 aM_2 hg2 ?_
      refine aw_if_eq (tgt := 115) dX7_sets_107 (by decide) (fun hc => ?_) (fun hc => ?_)
      · replace h := ip hc h
        exact (t_X7_sets_115 k83 hk83 x1 s0 _ h)
      · replace h := ic hc h
        refine aw_aload_n dX7_sets_110 rfl rfl ?_
        refine aw_iload_n dX7_sets_111 rfl rfl ?_
        obtain ⟨s1, hg3, h⟩ := bn_e h
        refine aw_V1v (M2 := M_X7_setsBelow) dX7_sets_112 lk_X7_221 mk_X7_setsBelow mv_X7_setsBelow ⟨by decide, by decide⟩ pM_0 ⟨_, _, rfl⟩ (Nat.le_of_ble_eq_true rfl) (c_X7_setsBelow  hg3) ?_
        exact (t_X7_sets_115 k83 hk83 x1 s1 _ h)
    · replace h := ic hc h
      exact (t_X7_sets_115 k83 hk83 x1 s0 _ h)
def f_X7_sets_83 : Nat → Int → SS → Option SS
  | 0 => fun _ _ => none
  | n + 1 => g_X7_sets_83 (f_X7_sets_83  n)
theorem s_X7_sets_83  : ∀ (n : Nat), ∀ (x1 : Int) (s0 : SS) (r : SS), f_X7_sets_83 n x1 s0 = some r → AW LM M_X7_sets (none, r) 83 [some (vR (some 0)), some (vI x1)] [] s0 := by
  intro n
  induction n with
  | zero =>
    intro x1 s0 r h
    cases h
  | succ n ih =>
    intro x1 s0 r h
    exact t_X7_sets_83 (f_X7_sets_83  n) ih x1 s0 r h
def g_X7_sets_81  (s0 : SS) : Option SS :=
  f_X7_sets_83  FU 0 s0
set_option maxHeartbeats 4000000 in
theorem t_X7_sets_81  : ∀ (s0 : SS) (r : SS), g_X7_sets_81 s0 = some r → AW LM M_X7_sets (none, r) 81 [some (vR (some 0)), none] [] s0 := by
  intro s0 r h
  unfold g_X7_sets_81 at h
  refine aw_iconst dX7_sets_81 ⟨by decide, by decide⟩ ?_
  refine aw_istore_nA dX7_sets_82 rfl (by decide) rfl ?_
  show AW _ _ _ 83 [some (vR (some 0)), some (vI 0)] _ _
  exact (s_X7_sets_83   FU 0 s0 _ h)
def g_X7_sets_60 (k30 : Int → SS → Option SS) (x1 : Int) (z0 : Int) (z1 : Int) (s0 : SS) : Option SS :=
  gx z1 40 <|
  sb (up s0 15 z1.toNat z0) fun s1 =>
  gx x1 40 <|
  sb (up s1 13 x1.toNat 0) fun s2 =>
  gx x1 40 <|
  sb (up s2 14 x1.toNat 0) fun s3 =>
  sb (wr (x1 + 1)) fun y1 =>
  k30 y1 s3
set_option maxHeartbeats 4000000 in
theorem t_X7_sets_60 (k30 : Int → SS → Option SS) (hk30 : ∀ (x1 : Int) (s0 : SS) (r : SS), k30 x1 s0 = some r → AW LM M_X7_sets (none, r) 30 [some (vR (some 0)), some (vI x1)] [] s0) : ∀ (x1 : Int) (z0 : Int) (z1 : Int) (s0 : SS) (r : SS), g_X7_sets_60 k30 x1 z0 z1 s0 = some r → AW LM M_X7_sets (none, r) 60 [some (vR (some 0)), some (vI x1)] [vI z0, vI z1, vR (some 15)] s0 := by
  intro x1 z0 z1 s0 r h
  unfold g_X7_sets_60 at h
  obtain ⟨hg1, h⟩ := gx_e h
  refine aw_iast dX7_sets_60 aM_15 hg1 (fun s1 e => ?_)
  replace h := sb_e h e
  clear e
  refine aw_aload_n dX7_sets_61 rfl rfl ?_
  refine aw_getR (t := 13) dX7_sets_62 fk_X7_50 pM_0 rfl ?_
  refine aw_iload_n dX7_sets_65 rfl rfl ?_
  refine aw_iconst dX7_sets_66 ⟨by decide, by decide⟩ ?_
  obtain ⟨hg2, h⟩ := gx_e h
  refine aw_iast dX7_sets_67 aM_13 hg2 (fun s2 e => ?_)
  replace h := sb_e h e
  clear e
  refine aw_aload_n dX7_sets_68 rfl rfl ?_
  refine aw_getR (t := 14) dX7_sets_69 fk_X7_53 pM_0 rfl ?_
  refine aw_iload_n dX7_sets_72 rfl rfl ?_
  refine aw_iconst dX7_sets_73 ⟨by decide, by decide⟩ ?_
  obtain ⟨hg3, h⟩ := gx_e h
  refine aw_iast dX7_sets_74 aM_14 hg3 (fun s3 e => ?_)
  replace h := sb_e h e
  clear e
  refine aw_iinc dX7_sets_75 rfl (by decide) rfl (fun y1 e => ?_)
  replace h := sb_e h e
  clear e
  show AW _ _ _ 78 [some (vR (some 0)), some (vI y1)] _ _
  refine aw_goto (tgt := 30) dX7_sets_78 (by decide) ?_
  exact (hk30 y1 s3 _ h)
def g_X7_sets_59 (k30 : Int → SS → Option SS) (x1 : Int) (z0 : Int) (s0 : SS) : Option SS :=
  g_X7_sets_60 k30 x1 0 z0 s0
set_option maxHeartbeats 4000000 in
theorem t_X7_sets_59 (k30 : Int → SS → Option SS) (hk30 : ∀ (x1 : Int) (s0 : SS) (r : SS), k30 x1 s0 = some r → AW LM M_X7_sets (none, r) 30 [some (vR (some 0)), some (vI x1)] [] s0) : ∀ (x1 : Int) (z0 : Int) (s0 : SS) (r : SS), g_X7_sets_59 k30 x1 z0 s0 = some r → AW LM M_X7_sets (none, r) 59 [some (vR (some 0)), some (vI x1)] [vI z0, vR (some 15)] s0 := by
  intro x1 z0 s0 r h
  unfold g_X7_sets_59 at h
  refine aw_iconst dX7_sets_59 ⟨by decide, by decide⟩ ?_
  exact (t_X7_sets_60 k30 hk30 x1 0 z0 s0 _ h)
def g_X7_sets_30 (k30 : Int → SS → Option SS) (x1 : Int) (s0 : SS) : Option SS :=
  if (s0 0 4) ≤ x1 then (
    g_X7_sets_81  s0
  ) else (
    if x1 = 0 then (
      if (s0 0 18) = (-1) then (
        g_X7_sets_59 k30 x1 x1 s0
      ) else (
        g_X7_sets_60 k30 x1 1 x1 s0
      )
    ) else (
      g_X7_sets_59 k30 x1 x1 s0
    )
  )
set_option maxHeartbeats 4000000 in
theorem t_X7_sets_30 (k30 : Int → SS → Option SS) (hk30 : ∀ (x1 : Int) (s0 : SS) (r : SS), k30 x1 s0 = some r → AW LM M_X7_sets (none, r) 30 [some (vR (some 0)), some (vI x1)] [] s0) : ∀ (x1 : Int) (s0 : SS) (r : SS), g_X7_sets_30 k30 x1 s0 = some r → AW LM M_X7_sets (none, r) 30 [some (vR (some 0)), some (vI x1)] [] s0 := by
  intro x1 s0 r h
  unfold g_X7_sets_30 at h
  refine aw_iload_n dX7_sets_30 rfl rfl ?_
  refine aw_aload_n dX7_sets_31 rfl rfl ?_
  refine aw_getI dX7_sets_32 fk_X7_93 pM_0 rfl ?_
  refine aw_icmp_ge (tgt := 81) dX7_sets_35 (by decide) (fun hc => ?_) (fun hc => ?_)
  · replace h := ip hc h
    exact aw_less (ls' := [some (vR (some 0)), none]) (⟨rfl, trivial⟩) (t_X7_sets_81   s0 _ h)
  · replace h := ic hc h
    refine aw_aload_n dX7_sets_38 rfl rfl ?_
    refine aw_getR (t := 15) dX7_sets_39 fk_X7_56 pM_0 rfl ?_
    refine aw_iload_n dX7_sets_42 rfl rfl ?_
    refine aw_iload_n dX7_sets_43 rfl rfl ?_
    refine aw_if_ne (tgt := 59) dX7_sets_44 (by decide) (fun hc => ?_) (fun hc => ?_)
    rotate_left
    · replace h := ip hc h
      refine aw_aload_n dX7_sets_47 rfl rfl ?_
      refine aw_getI dX7_sets_48 fk_X7_197 pM_0 rfl ?_
      refine aw_iconst dX7_sets_51 ⟨by decide, by decide⟩ ?_
      refine aw_icmp_eq (tgt := 59) dX7_sets_52 (by decide) (fun hc => ?_) (fun hc => ?_)
      · replace h := ip hc h
        exact (t_X7_sets_59 k30 hk30 x1 x1 s0 _ h)
      · replace h := ic hc h
        refine aw_iconst dX7_sets_55 ⟨by decide, by decide⟩ ?_
        refine aw_goto (tgt := 60) dX7_sets_56 (by decide) ?_
        exact (t_X7_sets_60 k30 hk30 x1 1 x1 s0 _ h)
    · replace h := ic hc h
      exact (t_X7_sets_59 k30 hk30 x1 x1 s0 _ h)
def f_X7_sets_30 : Nat → Int → SS → Option SS
  | 0 => fun _ _ => none
  | n + 1 => g_X7_sets_30 (f_X7_sets_30  n)
theorem s_X7_sets_30  : ∀ (n : Nat), ∀ (x1 : Int) (s0 : SS) (r : SS), f_X7_sets_30 n x1 s0 = some r → AW LM M_X7_sets (none, r) 30 [some (vR (some 0)), some (vI x1)] [] s0 := by
  intro n
  induction n with
  | zero =>
    intro x1 s0 r h
    cases h
  | succ n ih =>
    intro x1 s0 r h
    exact t_X7_sets_30 (f_X7_sets_30  n) ih x1 s0 r h
def g_X7_sets_24 (z0 : Int) (s0 : SS) : Option SS :=
  cb (f_X7_shapeOf z0 s0) fun y1 s1 =>
  f_X7_sets_30  FU 0 s1
set_option maxHeartbeats 4000000 in
theorem t_X7_sets_24  : ∀ (z0 : Int) (s0 : SS) (r : SS), g_X7_sets_24 z0 s0 = some r → AW LM M_X7_sets (none, r) 24 [some (vR (some 0)), none] [vI z0, vR (some 0)] s0 := by
  intro z0 s0 r h
  unfold g_X7_sets_24 at h
  obtain ⟨y1, s1, hg1, h⟩ := cb_e h
  refine aw_V1i (M2 := M_X7_shapeOf) dX7_sets_24 lk_X7_215 mk_X7_shapeOf mv_X7_shapeOf ⟨by decide, by decide⟩ pM_0 ⟨_, _, rfl⟩ (Nat.le_of_ble_eq_true rfl) (c_X7_shapeOf  hg1) ?_
  refine aw_pop dX7_sets_27 rfl ?_
  refine aw_iconst dX7_sets_28 ⟨by decide, by decide⟩ ?_
  refine aw_istore_nA dX7_sets_29 rfl (by decide) rfl ?_
  show AW _ _ _ 30 [some (vR (some 0)), some (vI 0)] _ _
  exact (s_X7_sets_30   FU 0 s1 _ h)
def f_X7_sets  (s0 : SS) : Option SS :=
  bn (f_X7_findsBest s0) fun s1 =>
  if (s1 0 18) = (-1) then (
    g_X7_sets_24  0 s1
  ) else (
    bn (f_X7_wayOf (s1 0 18)) fun y1 =>
    g_X7_sets_24  y1 s1
  )
set_option maxHeartbeats 4000000 in
theorem t_X7_sets_0  : ∀ (s0 : SS) (r : SS), f_X7_sets s0 = some r → AW LM M_X7_sets (none, r) 0 [some (vR (some 0)), none] [] s0 := by
  intro s0 r h
  unfold f_X7_sets at h
  refine aw_aload_n dX7_sets_0 rfl rfl ?_
  obtain ⟨s1, hg1, h⟩ := bn_e h
  refine aw_V0v (M2 := M_X7_findsBest) dX7_sets_1 lk_X7_203 mk_X7_findsBest mv_X7_findsBest ⟨by decide, by decide⟩ pM_0 ⟨_, _, rfl⟩ (Nat.le_of_ble_eq_true rfl) (c_X7_findsBest  hg1) ?_
  refine aw_aload_n dX7_sets_4 rfl rfl ?_
  refine aw_aload_n dX7_sets_5 rfl rfl ?_
  refine aw_getI dX7_sets_6 fk_X7_197 pM_0 rfl ?_
  refine aw_iconst dX7_sets_9 ⟨by decide, by decide⟩ ?_
  refine aw_icmp_ne (tgt := 17) dX7_sets_10 (by decide) (fun hc => ?_) (fun hc => ?_)
  rotate_left
  · replace h := ip hc h
    refine aw_iconst dX7_sets_13 ⟨by decide, by decide⟩ ?_
    refine aw_goto (tgt := 24) dX7_sets_14 (by decide) ?_
    exact (t_X7_sets_24   0 s1 _ h)
  · replace h := ic hc h
    refine aw_aload_n dX7_sets_17 rfl rfl ?_
    refine aw_getI dX7_sets_18 fk_X7_197 pM_0 rfl ?_
    obtain ⟨y1, hg2, h⟩ := bn_e h
    refine aw_S1i (M2 := M_X7_wayOf) dX7_sets_21 lk_X7_118 mk_X7_wayOf ms_X7_wayOf ⟨by decide, by decide⟩ (Nat.le_of_ble_eq_true rfl) (c_X7_wayOf  hg2) ?_
    exact (t_X7_sets_24   y1 s1 _ h)
theorem c_X7_sets {s0 : SS} {s1 : SS} (h : f_X7_sets s0 = some s1) : CT LM M_X7_sets [vR (some 0)] s0 (none, s1) :=
  ct_of (n := 1) (by decide) (Nat.le_of_ble_eq_true rfl) (t_X7_sets_0  s0  _ h)
