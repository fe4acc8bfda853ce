def g_X6_digestParts_95 (x3 : Int) (s0 : SS) : Option Int :=
  some x3
set_option maxHeartbeats 4000000 in
theorem t_X6_digestParts_95  : ∀ (x3 : Int) (s0 : SS) (r : Int), g_X6_digestParts_95 x3 s0 = some r → AW LC M_X6_digestParts (some (vL r), s0) 95 [none, none, none, some (vL x3), none, none, none] [] s0 := by
  intro x3 s0 r h
  unfold g_X6_digestParts_95 at h
  refine aw_lload_n dX6_digestParts_95 rfl rfl ?_
  obtain rfl := Option.some.inj h
  exact aw_lret dX6_digestParts_96 rfl
def g_X6_digestParts_73 (k73 : Int → Int → SS → Option Int) (x3 : Int) (x5 : Int) (s0 : SS) : Option Int :=
  if 7 < x5 then (
    g_X6_digestParts_95  x3 s0
  ) else (
    bn (f_X6_digestShape x3 0 x5 s0) fun y1 =>
    sb (wr (x5 + 1)) fun y2 =>
    k73 y1 y2 s0
  )
set_option maxHeartbeats 4000000 in
theorem t_X6_digestParts_73 (k73 : Int → Int → SS → Option Int) (hk73 : ∀ (x3 : Int) (x5 : Int) (s0 : SS) (r : Int), k73 x3 x5 s0 = some r → AW LC M_X6_digestParts (some (vL r), s0) 73 [some (vR (some 0)), none, none, some (vL x3), none, some (vI x5), none] [] s0) : ∀ (x3 : Int) (x5 : Int) (s0 : SS) (r : Int), g_X6_digestParts_73 k73 x3 x5 s0 = some r → AW LC M_X6_digestParts (some (vL r), s0) 73 [some (vR (some 0)), none, none, some (vL x3), none, some (vI x5), none] [] s0 := by
  intro x3 x5 s0 r h
  unfold g_X6_digestParts_73 at h
  refine aw_iload dX6_digestParts_73 rfl ?_
  refine aw_bipush dX6_digestParts_75 ⟨by decide, by decide⟩ (by decide) ?_
  refine aw_icmp_gt (tgt := 95) dX6_digestParts_77 (by decide) (fun hc => ?_) (fun hc => ?_)
  · replace h := ip hc h
    exact aw_less (ls' := [none, none, none, some (vL x3), none, none, none]) (⟨rfl, trivial⟩) (t_X6_digestParts_95   x3 s0 _ h)
  · replace h := ic hc h
    refine aw_aload_n dX6_digestParts_80 rfl rfl ?_
    refine aw_lload_n dX6_digestParts_81 rfl rfl ?_
    refine aw_iconst dX6_digestParts_82 ⟨by decide, by decide⟩ ?_
    refine aw_iload dX6_digestParts_83 rfl ?_
    obtain ⟨y1, hg1, h⟩ := bn_e h
    refine aw_V3l (M2 := M_X6_digestShape) dX6_digestParts_85 lk_X6_231 mk_X6_digestShape mv_X6_digestShape ⟨by decide, by decide⟩ pC_0 ⟨_, _, rfl⟩ (Nat.le_of_ble_eq_true rfl) (c_X6_digestShape  hg1) ?_
    refine aw_lstore_nA dX6_digestParts_88 rfl (by decide) rfl ?_
    show AW _ _ _ 89 [some (vR (some 0)), none, none, some (vL y1), none, some (vI x5), none] _ _
    refine aw_iinc dX6_digestParts_89 rfl (by decide) rfl (fun y2 e => ?_)
    replace h := sb_e h e
    clear e
    show AW _ _ _ 92 [some (vR (some 0)), none, none, some (vL y1), none, some (vI y2), none] _ _
    refine aw_goto (tgt := 73) dX6_digestParts_92 (by decide) ?_
    exact (hk73 y1 y2 s0 _ h)
def f_X6_digestParts_73 : Nat → Int → Int → SS → Option Int
  | 0 => fun _ _ _ => none
  | n + 1 => g_X6_digestParts_73 (f_X6_digestParts_73  n)
theorem s_X6_digestParts_73  : ∀ (n : Nat), ∀ (x3 : Int) (x5 : Int) (s0 : SS) (r : Int), f_X6_digestParts_73 n x3 x5 s0 = some r → AW LC M_X6_digestParts (some (vL r), s0) 73 [some (vR (some 0)), none, none, some (vL x3), none, some (vI x5), none] [] s0 := by
  intro n
  induction n with
  | zero =>
    intro x3 x5 s0 r h
    cases h
  | succ n ih =>
    intro x3 x5 s0 r h
    exact t_X6_digestParts_73 (f_X6_digestParts_73  n) ih x3 x5 s0 r h
def g_X6_digestParts_70 (x3 : Int) (s0 : SS) : Option Int :=
  f_X6_digestParts_73  FU x3 0 s0
set_option maxHeartbeats 4000000 in
theorem t_X6_digestParts_70  : ∀ (x3 : Int) (s0 : SS) (r : Int), g_X6_digestParts_70 x3 s0 = some r → AW LC M_X6_digestParts (some (vL r), s0) 70 [some (vR (some 0)), none, none, some (vL x3), none, none, none] [] s0 := by
  intro x3 s0 r h
  unfold g_X6_digestParts_70 at h
  refine aw_iconst dX6_digestParts_70 ⟨by decide, by decide⟩ ?_
  refine aw_istoreA dX6_digestParts_71 (by decide) rfl ?_
  show AW _ _ _ 73 [some (vR (some 0)), none, none, some (vL x3), none, some (vI 0), none] _ _
  exact (s_X6_digestParts_73   FU x3 0 s0 _ h)
def g_X6_digestParts_48 (k5 : Int → Int → SS → Option Int) (x3 : Int) (x5 : Int) (s0 : SS) : Option Int :=
  bn (f_X6_digestShape x3 x5 0 s0) fun y1 =>
  bn (f_X6_digestShape y1 x5 1 s0) fun y2 =>
  sb (wr (x5 + 1)) fun y3 =>
  k5 y2 y3 s0
set_option maxHeartbeats 4000000 in
theorem t_X6_digestParts_48 (k5 : Int → Int → SS → Option Int) (hk5 : ∀ (x3 : Int) (x5 : Int) (s0 : SS) (r : Int), k5 x3 x5 s0 = some r → AW LC M_X6_digestParts (some (vL r), s0) 5 [some (vR (some 0)), none, none, some (vL x3), none, some (vI x5), none] [] s0) : ∀ (x3 : Int) (x5 : Int) (s0 : SS) (r : Int), g_X6_digestParts_48 k5 x3 x5 s0 = some r → AW LC M_X6_digestParts (some (vL r), s0) 48 [some (vR (some 0)), none, none, some (vL x3), none, some (vI x5), none] [] s0 := by
  intro x3 x5 s0 r h
  unfold g_X6_digestParts_48 at h
  refine aw_aload_n dX6_digestParts_48 rfl rfl ?_
  refine aw_aload_n dX6_digestParts_49 rfl rfl ?_
  refine aw_lload_n dX6_digestParts_50 rfl rfl ?_
  refine aw_iload dX6_digestParts_51 rfl ?_
  refine aw_iconst dX6_digestParts_53 ⟨by decide, by decide⟩ ?_
  obtain ⟨y1, hg1, h⟩ := bn_e h
  refine aw_V3l (M2 := M_X6_digestShape) dX6_digestParts_54 lk_X6_231 mk_X6_digestShape mv_X6_digestShape ⟨by decide, by decide⟩ pC_0 ⟨_, _, rfl⟩ (Nat.le_of_ble_eq_true rfl) (c_X6_digestShape  hg1) ?_
  refine aw_iload dX6_digestParts_57 rfl ?_
  refine aw_iconst dX6_digestParts_59 ⟨by decide, by decide⟩ ?_
  obtain ⟨y2, hg2, h⟩ := bn_e h
  refine aw_V3l (M2 := M_X6_digestShape) dX6_digestParts_60 lk_X6_231 mk_X6_digestShape mv_X6_digestShape ⟨by decide, by decide⟩ pC_0 ⟨_, _, rfl⟩ (Nat.le_of_ble_eq_true rfl) (c_X6_digestShape  hg2) ?_
  refine aw_lstore_nA dX6_digestParts_63 rfl (by decide) rfl ?_
  show AW _ _ _ 64 [some (vR (some 0)), none, none, some (vL y2), none, some (vI x5), none] _ _
  refine aw_iinc dX6_digestParts_64 rfl (by decide) rfl (fun y3 e => ?_)
  replace h := sb_e h e
  clear e
  show AW _ _ _ 67 [some (vR (some 0)), none, none, some (vL y2), none, some (vI y3), none] _ _
  refine aw_goto (tgt := 5) dX6_digestParts_67 (by decide) ?_
  exact (hk5 y2 y3 s0 _ h)
def g_X6_digestParts_20 (k5 : Int → Int → SS → Option Int) (k20 : Int → Int → Int → SS → Option Int) (x3 : Int) (x5 : Int) (x6 : Int) (s0 : SS) : Option Int :=
  if 3 < x6 then (
    g_X6_digestParts_48 k5 x3 x5 s0
  ) else (
    bn (f_X6_part x5 x6 s0) fun y1 =>
    sb (wl ((wl (31 * x3)) + y1)) fun y2 =>
    sb (wr (x6 + 1)) fun y3 =>
    k20 y2 x5 y3 s0
  )
set_option maxHeartbeats 4000000 in
theorem t_X6_digestParts_20 (k5 : Int → Int → SS → Option Int) (k20 : Int → Int → Int → SS → Option Int) (hk5 : ∀ (x3 : Int) (x5 : Int) (s0 : SS) (r : Int), k5 x3 x5 s0 = some r → AW LC M_X6_digestParts (some (vL r), s0) 5 [some (vR (some 0)), none, none, some (vL x3), none, some (vI x5), none] [] s0) (hk20 : ∀ (x3 : Int) (x5 : Int) (x6 : Int) (s0 : SS) (r : Int), k20 x3 x5 x6 s0 = some r → AW LC M_X6_digestParts (some (vL r), s0) 20 [some (vR (some 0)), none, none, some (vL x3), none, some (vI x5), some (vI x6)] [] s0) : ∀ (x3 : Int) (x5 : Int) (x6 : Int) (s0 : SS) (r : Int), g_X6_digestParts_20 k5 k20 x3 x5 x6 s0 = some r → AW LC M_X6_digestParts (some (vL r), s0) 20 [some (vR (some 0)), none, none, some (vL x3), none, some (vI x5), some (vI x6)] [] s0 := by
  intro x3 x5 x6 s0 r h
  unfold g_X6_digestParts_20 at h
  refine aw_iload dX6_digestParts_20 rfl ?_
  refine aw_iconst dX6_digestParts_22 ⟨by decide, by decide⟩ ?_
  refine aw_icmp_gt (tgt := 48) dX6_digestParts_23 (by decide) (fun hc => ?_) (fun hc => ?_)
  · replace h := ip hc h
    exact aw_less (ls' := [some (vR (some 0)), none, none, some (vL x3), none, some (vI x5), none]) (⟨rfl, ⟨rfl, ⟨rfl, trivial⟩⟩⟩) (t_X6_digestParts_48 k5 hk5 x3 x5 s0 _ h)
  · replace h := ic hc h
    refine aw_ldc2 (n := 31) dX6_digestParts_26 cl_X6_210 ⟨by decide, by decide⟩ (by decide) ?_
    refine aw_lload_n dX6_digestParts_29 rfl rfl ?_
    refine aw_lmul dX6_digestParts_30 ?_
    refine aw_aload_n dX6_digestParts_31 rfl rfl ?_
    refine aw_iload dX6_digestParts_32 rfl ?_
    refine aw_iload dX6_digestParts_34 rfl ?_
    obtain ⟨y1, hg1, h⟩ := bn_e h
    refine aw_V2i (M2 := M_X6_part) dX6_digestParts_36 lk_X6_228 mk_X6_part mv_X6_part ⟨by decide, by decide⟩ pC_0 ⟨_, _, rfl⟩ (Nat.le_of_ble_eq_true rfl) (c_X6_part  hg1) ?_
    refine aw_i2l dX6_digestParts_39 ?_
    refine aw_ladd dX6_digestParts_40 ?_
    refine aw_lstore_n dX6_digestParts_41 rfl (by decide) rfl (fun y2 e => ?_)
    replace h := sb_e h e
    clear e
    show AW _ _ _ 42 [some (vR (some 0)), none, none, some (vL y2), none, some (vI x5), some (vI x6)] _ _
    refine aw_iinc dX6_digestParts_42 rfl (by decide) rfl (fun y3 e => ?_)
    replace h := sb_e h e
    clear e
    show AW _ _ _ 45 [some (vR (some 0)), none, none, some (vL y2), none, some (vI x5), some (vI y3)] _ _
    refine aw_goto (tgt := 20) dX6_digestParts_45 (by decide) ?_
    exact (hk20 y2 x5 y3 s0 _ h)
def f_X6_digestParts_20 (k5 : Int → Int → SS → Option Int) : Nat → Int → Int → Int → SS → Option Int
  | 0 => fun _ _ _ _ => none
  | n + 1 => g_X6_digestParts_20 k5 (f_X6_digestParts_20 k5 n)
theorem s_X6_digestParts_20 (k5 : Int → Int → SS → Option Int) (hk5 : ∀ (x3 : Int) (x5 : Int) (s0 : SS) (r : Int), k5 x3 x5 s0 = some r → AW LC M_X6_digestParts (some (vL r), s0) 5 [some (vR (some 0)), none, none, some (vL x3), none, some (vI x5), none] [] s0) : ∀ (n : Nat), ∀ (x3 : Int) (x5 : Int) (x6 : Int) (s0 : SS) (r : Int), f_X6_digestParts_20 k5 n x3 x5 x6 s0 = some r → AW LC M_X6_digestParts (some (vL r), s0) 20 [some (vR (some 0)), none, none, some (vL x3), none, some (vI x5), some (vI x6)] [] s0 := by
  intro n
  induction n with
  | zero =>
    intro x3 x5 x6 s0 r h
    cases h
  | succ n ih =>
    intro x3 x5 x6 s0 r h
    exact t_X6_digestParts_20 k5 (f_X6_digestParts_20 k5 n) hk5 ih x3 x5 x6 s0 r h
def g_X6_digestParts_5 (k5 : Int → Int → SS → Option Int) (x3 : Int) (x5 : Int) (s0 : SS) : Option Int :=
  if (s0 1 9) ≤ x5 then (
    g_X6_digestParts_70  x3 s0
  ) else (
    f_X6_digestParts_20 k5 FU x3 x5 0 s0
  )
set_option maxHeartbeats 4000000 in
theorem t_X6_digestParts_5 (k5 : Int → Int → SS → Option Int) (hk5 : ∀ (x3 : Int) (x5 : Int) (s0 : SS) (r : Int), k5 x3 x5 s0 = some r → AW LC M_X6_digestParts (some (vL r), s0) 5 [some (vR (some 0)), none, none, some (vL x3), none, some (vI x5), none] [] s0) : ∀ (x3 : Int) (x5 : Int) (s0 : SS) (r : Int), g_X6_digestParts_5 k5 x3 x5 s0 = some r → AW LC M_X6_digestParts (some (vL r), s0) 5 [some (vR (some 0)), none, none, some (vL x3), none, some (vI x5), none] [] s0 := by
  intro x3 x5 s0 r h
  unfold g_X6_digestParts_5 at h
  refine aw_iload dX6_digestParts_5 rfl ?_
  refine aw_aload_n dX6_digestParts_7 rfl rfl ?_
  refine aw_getR (t := 1) dX6_digestParts_8 fk_X6_10 pC_0 rfl ?_
  refine aw_getI dX6_digestParts_11 fk_X6_196 pC_1 rfl ?_
  refine aw_icmp_ge (tgt := 70) dX6_digestParts_14 (by decide) (fun hc => ?_) (fun hc => ?_)
  · replace h := ip hc h
    exact aw_less (ls' := [some (vR (some 0)), none, none, some (vL x3), none, none, none]) (⟨rfl, ⟨rfl, trivial⟩⟩) (t_X6_digestParts_70   x3 s0 _ h)
  · replace h := ic hc h
    refine aw_iconst dX6_digestParts_17 ⟨by decide, by decide⟩ ?_
    refine aw_istoreA dX6_digestParts_18 (by decide) rfl ?_
    show AW _ _ _ 20 [some (vR (some 0)), none, none, some (vL x3), none, some (vI x5), some (vI 0)] _ _
    exact (s_X6_digestParts_20 k5 hk5 FU x3 x5 0 s0 _ h)
def f_X6_digestParts_5 : Nat → Int → Int → SS → Option Int
  | 0 => fun _ _ _ => none
  | n + 1 => g_X6_digestParts_5 (f_X6_digestParts_5  n)
theorem s_X6_digestParts_5  : ∀ (n : Nat), ∀ (x3 : Int) (x5 : Int) (s0 : SS) (r : Int), f_X6_digestParts_5 n x3 x5 s0 = some r → AW LC M_X6_digestParts (some (vL r), s0) 5 [some (vR (some 0)), none, none, some (vL x3), none, some (vI x5), none] [] s0 := by
  intro n
  induction n with
  | zero =>
    intro x3 x5 s0 r h
    cases h
  | succ n ih =>
    intro x3 x5 s0 r h
    exact t_X6_digestParts_5 (f_X6_digestParts_5  n) ih x3 x5 s0 r h
def f_X6_digestParts (x1 : Int) (s0 : SS) : Option Int :=
  f_X6_digestParts_5  FU x1 0 s0
set_option maxHeartbeats 4000000 in
theorem t_X6_digestParts_0  : ∀ (x1 : Int) (s0 : SS) (r : Int), f_X6_digestParts x1 s0 = some r → AW LC M_X6_digestParts (some (vL r), s0) 0 [some (vR (some 0)), some (vL x1), none, none, none, none, none] [] s0 := by
  intro x1 s0 r h
  unfold f_X6_digestParts at h
  refine aw_lload_n dX6_digestParts_0 rfl rfl ?_
  refine aw_lstore_nA dX6_digestParts_1 rfl (by decide) rfl ?_
  show AW _ _ _ 2 [some (vR (some 0)), some (vL x1), none, some (vL x1), none, none, none] _ _
  refine aw_iconst dX6_digestParts_2 ⟨by decide, by decide⟩ ?_
  refine aw_istoreA dX6_digestParts_3 (by decide) rfl ?_
  show AW _ _ _ 5 [some (vR (some 0)), some (vL x1), none, some (vL x1), none, some (vI 0), none] _ _
  exact aw_less (ls' := [some (vR (some 0)), none, none, some (vL x1), none, some (vI 0), none]) (⟨rfl, ⟨rfl, ⟨rfl, trivial⟩⟩⟩) (s_X6_digestParts_5   FU x1 0 s0 _ h)
theorem c_X6_digestParts {x1 : Int} {s0 : SS} {y : Int} (h : f_X6_digestParts x1 s0 = some y) : CT LC M_X6_digestParts [vR (some 0), vL x1] s0 (some (vL y), s0) :=
  ct_of (n := 4) (by decide) (Nat.le_of_ble_eq_true rfl) (t_X6_digestParts_0 x1 s0  _ h)
def g_X6_digestBest_114 (x3 : Int) (s0 : SS) : Option Int :=
  some x3
set_option maxHeartbeats 4000000 in
theorem t_X6_digestBest_114  : ∀ (x3 : Int) (s0 : SS) (r : Int), g_X6_digestBest_114 x3 s0 = some r → AW LC M_X6_digestBest (some (vL r), s0) 114 [none, none, none, some (vL x3), none, none] [] s0 := by
  intro x3 s0 r h
  unfold g_X6_digestBest_114 at h
  refine aw_lload_n dX6_digestBest_114 rfl rfl ?_
  obtain rfl := Option.some.inj h
  exact aw_lret dX6_digestBest_115 rfl
def g_X6_digestBest_56 (k56 : Int → Int → SS → Option Int) (x3 : Int) (x5 : Int) (s0 : SS) : Option Int :=
  if 9 < x5 then (
    g_X6_digestBest_114  x3 s0
  ) else (
    bn (f_X6_line x5 (-1) s0) fun y1 =>
    sb (wl ((wl (31 * x3)) + y1)) fun y2 =>
    bn (f_X6_line x5 0 s0) fun y3 =>
    sb (wl ((wl (31 * y2)) + y3)) fun y4 =>
    bn (f_X6_line x5 5 s0) fun y5 =>
    sb (wl ((wl (31 * y4)) + y5)) fun y6 =>
    sb (wr (x5 + 1)) fun y7 =>
    k56 y6 y7 s0
  )
set_option maxHeartbeats 4000000 in
theorem t_X6_digestBest_56 (k56 : Int → Int → SS → Option Int) (hk56 : ∀ (x3 : Int) (x5 : Int) (s0 : SS) (r : Int), k56 x3 x5 s0 = some r → AW LC M_X6_digestBest (some (vL r), s0) 56 [some (vR (some 0)), none, none, some (vL x3), none, some (vI x5)] [] s0) : ∀ (x3 : Int) (x5 : Int) (s0 : SS) (r : Int), g_X6_digestBest_56 k56 x3 x5 s0 = some r → AW LC M_X6_digestBest (some (vL r), s0) 56 [some (vR (some 0)), none, none, some (vL x3), none, some (vI x5)] [] s0 := by
  intro x3 x5 s0 r h
  unfold g_X6_digestBest_56 at h
  refine aw_iload dX6_digestBest_56 rfl ?_
  refine aw_bipush dX6_digestBest_58 ⟨by decide, by decide⟩ (by decide) ?_
  refine aw_icmp_gt (tgt := 114) dX6_digestBest_60 (by decide) (fun hc => ?_) (fun hc => ?_)
  · replace h := ip hc h
    exact aw_less (ls' := [none, none, none, some (vL x3), none, none]) (⟨rfl, trivial⟩) (t_X6_digestBest_114   x3 s0 _ h)
  · replace h := ic hc h
    refine aw_ldc2 (n := 31) dX6_digestBest_63 cl_X6_210 ⟨by decide, by decide⟩ (by decide) ?_
    refine aw_lload_n dX6_digestBest_66 rfl rfl ?_
    refine aw_lmul dX6_digestBest_67 ?_
    refine aw_aload_n dX6_digestBest_68 rfl rfl ?_
    refine aw_iload dX6_digestBest_69 rfl ?_
    refine aw_iconst dX6_digestBest_71 ⟨by decide, by decide⟩ ?_
    obtain ⟨y1, hg1, h⟩ := bn_e h
    refine aw_V2i (M2 := M_X6_line) dX6_digestBest_72 lk_X6_239 mk_X6_line mv_X6_line ⟨by decide, by decide⟩ pC_0 ⟨_, _, rfl⟩ (Nat.le_of_ble_eq_true rfl) (c_X6_line  hg1) ?_
    refine aw_i2l dX6_digestBest_75 ?_
    refine aw_ladd dX6_digestBest_76 ?_
    refine aw_lstore_n dX6_digestBest_77 rfl (by decide) rfl (fun y2 e => ?_)
    replace h := sb_e h e
    clear e
    show AW _ _ _ 78 [some (vR (some 0)), none, none, some (vL y2), none, some (vI x5)] _ _
    refine aw_ldc2 (n := 31) dX6_digestBest_78 cl_X6_210 ⟨by decide, by decide⟩ (by decide) ?_
    refine aw_lload_n dX6_digestBest_81 rfl rfl ?_
    refine aw_lmul dX6_digestBest_82 ?_
    refine aw_aload_n dX6_digestBest_83 rfl rfl ?_
    refine aw_iload dX6_digestBest_84 rfl ?_
    refine aw_iconst dX6_digestBest_86 ⟨by decide, by decide⟩ ?_
    obtain ⟨y3, hg2, h⟩ := bn_e h
    refine aw_V2i (M2 := M_X6_line) dX6_digestBest_87 lk_X6_239 mk_X6_line mv_X6_line ⟨by decide, by decide⟩ pC_0 ⟨_, _, rfl⟩ (Nat.le_of_ble_eq_true rfl) (c_X6_line  hg2) ?_
    refine aw_i2l dX6_digestBest_90 ?_
    refine aw_ladd dX6_digestBest_91 ?_
    refine aw_lstore_n dX6_digestBest_92 rfl (by decide) rfl (fun y4 e => ?_)
    replace h := sb_e h e
    clear e
    show AW _ _ _ 93 [some (vR (some 0)), none, none, some (vL y4), none, some (vI x5)] _ _
    refine aw_ldc2 (n := 31) dX6_digestBest_93 cl_X6_210 ⟨by decide, by decide⟩ (by decide) ?_
    refine aw_lload_n dX6_digestBest_96 rfl rfl ?_
    refine aw_lmul dX6_digestBest_97 ?_
    refine aw_aload_n dX6_digestBest_98 rfl rfl ?_
    refine aw_iload dX6_digestBest_99 rfl ?_
    refine aw_iconst dX6_digestBest_101 ⟨by decide, by decide⟩ ?_
    obtain ⟨y5, hg3, h⟩ := bn_e h
    refine aw_V2i (M2 := M_X6_line) dX6_digestBest_102 lk_X6_239 mk_X6_line mv_X6_line ⟨by decide, by decide⟩ pC_0 ⟨_, _, rfl⟩ (Nat.le_of_ble_eq_true rfl) (c_X6_line  hg3) ?_
    refine aw_i2l dX6_digestBest_105 ?_
    refine aw_ladd dX6_digestBest_106 ?_
    refine aw_lstore_n dX6_digestBest_107 rfl (by decide) rfl (fun y6 e => ?_)
    replace h := sb_e h e
    clear e
    show AW _ _ _ 108 [some (vR (some 0)), none, none, some (vL y6), none, some (vI x5)] _ _
    refine aw_iinc dX6_digestBest_108 rfl (by decide) rfl (fun y7 e => ?_)
    replace h := sb_e h e
    clear e
    show AW _ _ _ 111 [some (vR (some 0)), none, none, some (vL y6), none, some (vI y7)] _ _
    refine aw_goto (tgt := 56) dX6_digestBest_111 (by decide) ?_
    exact (hk56 y6 y7 s0 _ h)
def f_X6_digestBest_56 : Nat → Int → Int → SS → Option Int
  | 0 => fun _ _ _ => none
  | n + 1 => g_X6_digestBest_56 (f_X6_digestBest_56  n)
theorem s_X6_digestBest_56  : ∀ (n : Nat), ∀ (x3 : Int) (x5 : Int) (s0 : SS) (r : Int), f_X6_digestBest_56 n x3 x5 s0 = some r → AW LC M_X6_digestBest (some (vL r), s0) 56 [some (vR (some 0)), none, none, some (vL x3), none, some (vI x5)] [] s0 := by
  intro n
  induction n with
  | zero =>
    intro x3 x5 s0 r h
    cases h
  | succ n ih =>
    intro x3 x5 s0 r h
    exact t_X6_digestBest_56 (f_X6_digestBest_56  n) ih x3 x5 s0 r h
def g_X6_digestBest_53 (x3 : Int) (s0 : SS) : Option Int :=
  f_X6_digestBest_56  FU x3 0 s0
set_option maxHeartbeats 4000000 in
theorem t_X6_digestBest_53  : ∀ (x3 : Int) (s0 : SS) (r : Int), g_X6_digestBest_53 x3 s0 = some r → AW LC M_X6_digestBest (some (vL r), s0) 53 [some (vR (some 0)), none, none, some (vL x3), none, none] [] s0 := by
  intro x3 s0 r h
  unfold g_X6_digestBest_53 at h
  refine aw_iconst dX6_digestBest_53 ⟨by decide, by decide⟩ ?_
  refine aw_istoreA dX6_digestBest_54 (by decide) rfl ?_
  show AW _ _ _ 56 [some (vR (some 0)), none, none, some (vL x3), none, some (vI 0)] _ _
  exact (s_X6_digestBest_56   FU x3 0 s0 _ h)
def g_X6_digestBest_27 (k27 : Int → Int → SS → Option Int) (x3 : Int) (x5 : Int) (s0 : SS) : Option Int :=
  if 4 < x5 then (
    g_X6_digestBest_53  x3 s0
  ) else (
    bn (f_X6_best x5 s0) fun y1 =>
    sb (wl ((wl (31 * x3)) + y1)) fun y2 =>
    sb (wr (x5 + 1)) fun y3 =>
    k27 y2 y3 s0
  )
set_option maxHeartbeats 4000000 in
theorem t_X6_digestBest_27 (k27 : Int → Int → SS → Option Int) (hk27 : ∀ (x3 : Int) (x5 : Int) (s0 : SS) (r : Int), k27 x3 x5 s0 = some r → AW LC M_X6_digestBest (some (vL r), s0) 27 [some (vR (some 0)), none, none, some (vL x3), none, some (vI x5)] [] s0) : ∀ (x3 : Int) (x5 : Int) (s0 : SS) (r : Int), g_X6_digestBest_27 k27 x3 x5 s0 = some r → AW LC M_X6_digestBest (some (vL r), s0) 27 [some (vR (some 0)), none, none, some (vL x3), none, some (vI x5)] [] s0 := by
  intro x3 x5 s0 r h
  unfold g_X6_digestBest_27 at h
  refine aw_iload dX6_digestBest_27 rfl ?_
  refine aw_iconst dX6_digestBest_29 ⟨by decide, by decide⟩ ?_
  refine aw_icmp_gt (tgt := 53) dX6_digestBest_30 (by decide) (fun hc => ?_) (fun hc => ?_)
  · replace h := ip hc h
    exact aw_less (ls' := [some (vR (some 0)), none, none, some (vL x3), none, none]) (⟨rfl, ⟨rfl, trivial⟩⟩) (t_X6_digestBest_53   x3 s0 _ h)
  · replace h := ic hc h
    refine aw_ldc2 (n := 31) dX6_digestBest_33 cl_X6_210 ⟨by decide, by decide⟩ (by decide) ?_
    refine aw_lload_n dX6_digestBest_36 rfl rfl ?_
    refine aw_lmul dX6_digestBest_37 ?_
    refine aw_aload_n dX6_digestBest_38 rfl rfl ?_
    refine aw_iload dX6_digestBest_39 rfl ?_
    obtain ⟨y1, hg1, h⟩ := bn_e h
    refine aw_V1i (M2 := M_X6_best) dX6_digestBest_41 lk_X6_202 mk_X6_best mv_X6_best ⟨by decide, by decide⟩ pC_0 ⟨_, _, rfl⟩ (Nat.le_of_ble_eq_true rfl) (c_X6_best  hg1) ?_
    refine aw_i2l dX6_digestBest_44 ?_
    refine aw_ladd dX6_digestBest_45 ?_
    refine aw_lstore_n dX6_digestBest_46 rfl (by decide) rfl (fun y2 e => ?_)
    replace h := sb_e h e
    clear e
    show AW _ _ _ 47 [some (vR (some 0)), none, none, some (vL y2), none, some (vI x5)] _ _
    refine aw_iinc dX6_digestBest_47 rfl (by decide) rfl (fun y3 e => ?_)
    replace h := sb_e h e
    clear e
    show AW _ _ _ 50 [some (vR (some 0)), none, none, some (vL y2), none, some (vI y3)] _ _
    refine aw_goto (tgt := 27) dX6_digestBest_50 (by decide) ?_
    exact (hk27 y2 y3 s0 _ h)
def f_X6_digestBest_27 : Nat → Int → Int → SS → Option Int
  | 0 => fun _ _ _ => none
  | n + 1 => g_X6_digestBest_27 (f_X6_digestBest_27  n)
theorem s_X6_digestBest_27  : ∀ (n : Nat), ∀ (x3 : Int) (x5 : Int) (s0 : SS) (r : Int), f_X6_digestBest_27 n x3 x5 s0 = some r → AW LC M_X6_digestBest (some (vL r), s0) 27 [some (vR (some 0)), none, none, some (vL x3), none, some (vI x5)] [] s0 := by
  intro n
  induction n with
  | zero =>
    intro x3 x5 s0 r h
    cases h
  | succ n ih =>
    intro x3 x5 s0 r h
    exact t_X6_digestBest_27 (f_X6_digestBest_27  n) ih x3 x5 s0 r h
def f_X6_digestBest (x1 : Int) (s0 : SS) : Option Int :=
  bn (f_X6_tried 0 s0) fun y1 =>
  bn (f_X6_tried 1 s0) fun y2 =>
  sb (wl ((wl (31 * (wl ((wl (31 * x1)) + y1)))) + y2)) fun y3 =>
  f_X6_digestBest_27  FU y3 0 s0
set_option maxHeartbeats 4000000 in
theorem t_X6_digestBest_0  : ∀ (x1 : Int) (s0 : SS) (r : Int), f_X6_digestBest x1 s0 = some r → AW LC M_X6_digestBest (some (vL r), s0) 0 [some (vR (some 0)), some (vL x1), none, none, none, none] [] s0 := by
  intro x1 s0 r h
  unfold f_X6_digestBest at h
  refine aw_ldc2 (n := 31) dX6_digestBest_0 cl_X6_210 ⟨by decide, by decide⟩ (by decide) ?_
  refine aw_ldc2 (n := 31) dX6_digestBest_3 cl_X6_210 ⟨by decide, by decide⟩ (by decide) ?_
  refine aw_lload_n dX6_digestBest_6 rfl rfl ?_
  refine aw_lmul dX6_digestBest_7 ?_
  refine aw_aload_n dX6_digestBest_8 rfl rfl ?_
  refine aw_iconst dX6_digestBest_9 ⟨by decide, by decide⟩ ?_
  obtain ⟨y1, hg1, h⟩ := bn_e h
  refine aw_V1i (M2 := M_X6_tried) dX6_digestBest_10 lk_X6_199 mk_X6_tried mv_X6_tried ⟨by decide, by decide⟩ pC_0 ⟨_, _, rfl⟩ (Nat.le_of_ble_eq_true rfl) (c_X6_tried  hg1) ?_
  refine aw_i2l dX6_digestBest_13 ?_
  refine aw_ladd dX6_digestBest_14 ?_
  refine aw_lmul dX6_digestBest_15 ?_
  refine aw_aload_n dX6_digestBest_16 rfl rfl ?_
  refine aw_iconst dX6_digestBest_17 ⟨by decide, by decide⟩ ?_
  obtain ⟨y2, hg2, h⟩ := bn_e h
  refine aw_V1i (M2 := M_X6_tried) dX6_digestBest_18 lk_X6_199 mk_X6_tried mv_X6_tried ⟨by decide, by decide⟩ pC_0 ⟨_, _, rfl⟩ (Nat.le_of_ble_eq_true rfl) (c_X6_tried  hg2) ?_
  refine aw_i2l dX6_digestBest_21 ?_
  refine aw_ladd dX6_digestBest_22 ?_
  refine aw_lstore_n dX6_digestBest_23 rfl (by decide) rfl (fun y3 e => ?_)
  replace h := sb_e h e
  clear e
  show AW _ _ _ 24 [some (vR (some 0)), some (vL x1), none, some (vL y3), none, none] _ _
  refine aw_iconst dX6_digestBest_24 ⟨by decide, by decide⟩ ?_
  refine aw_istoreA dX6_digestBest_25 (by decide) rfl ?_
  show AW _ _ _ 27 [some (vR (some 0)), some (vL x1), none, some (vL y3), none, some (vI 0)] _ _
  exact aw_less (ls' := [some (vR (some 0)), none, none, some (vL y3), none, some (vI 0)]) (⟨rfl, ⟨rfl, ⟨rfl, trivial⟩⟩⟩) (s_X6_digestBest_27   FU y3 0 s0 _ h)
theorem c_X6_digestBest {x1 : Int} {s0 : SS} {y : Int} (h : f_X6_digestBest x1 s0 = some y) : CT LC M_X6_digestBest [vR (some 0), vL x1] s0 (some (vL y), s0) :=
  ct_of (n := 3) (by decide) (Nat.le_of_ble_eq_true rfl) (t_X6_digestBest_0 x1 s0  _ h)
def g_X6_digestWays_78 (x3 : Int) (s0 : SS) : Option Int :=
  bn (f_X6_enough s0) fun y1 =>
  sb (wl ((wl (31 * x3)) + y1)) fun y2 =>
  bn (f_X6_shrinks (-1) s0) fun y3 =>
  sb (wl ((wl (31 * y2)) + y3)) fun y4 =>
  bn (f_X6_shrinks 0 s0) fun y5 =>
  sb (wl ((wl (31 * y4)) + y5)) fun y6 =>
  bn (f_X6_shrinks 1 s0) fun y7 =>
  sb (wl ((wl (31 * y6)) + y7)) fun y8 =>
  bn (f_X6_spare s0) fun y9 =>
  some (wl ((wl (31 * y8)) + y9))
set_option maxHeartbeats 4000000 in
theorem t_X6_digestWays_78  : ∀ (x3 : Int) (s0 : SS) (r : Int), g_X6_digestWays_78 x3 s0 = some r → AW LC M_X6_digestWays (some (vL r), s0) 78 [some (vR (some 0)), none, none, some (vL x3), none, none, none] [] s0 := by
  intro x3 s0 r h
  unfold g_X6_digestWays_78 at h
  refine aw_ldc2 (n := 31) dX6_digestWays_78 cl_X6_210 ⟨by decide, by decide⟩ (by decide) ?_
  refine aw_lload_n dX6_digestWays_81 rfl rfl ?_
  refine aw_lmul dX6_digestWays_82 ?_
  refine aw_aload_n dX6_digestWays_83 rfl rfl ?_
  obtain ⟨y1, hg1, h⟩ := bn_e h
  refine aw_V0i (M2 := M_X6_enough) dX6_digestWays_84 lk_X6_248 mk_X6_enough mv_X6_enough ⟨by decide, by decide⟩ pC_0 ⟨_, _, rfl⟩ (Nat.le_of_ble_eq_true rfl) (c_X6_enough  hg1) ?_
  refine aw_i2l dX6_digestWays_87 ?_
  refine aw_ladd dX6_digestWays_88 ?_
  refine aw_lstore_n dX6_digestWays_89 rfl (by decide) rfl (fun y2 e => ?_)
  replace h := sb_e h e
  clear e
  show AW _ _ _ 90 [some (vR (some 0)), none, none, some (vL y2), none, none, none] _ _
  refine aw_ldc2 (n := 31) dX6_digestWays_90 cl_X6_210 ⟨by decide, by decide⟩ (by decide) ?_
  refine aw_lload_n dX6_digestWays_93 rfl rfl ?_
  refine aw_lmul dX6_digestWays_94 ?_
  refine aw_aload_n dX6_digestWays_95 rfl rfl ?_
  refine aw_iconst dX6_digestWays_96 ⟨by decide, by decide⟩ ?_
  obtain ⟨y3, hg2, h⟩ := bn_e h
  refine aw_V1i (M2 := M_X6_shrinks) dX6_digestWays_97 lk_X6_251 mk_X6_shrinks mv_X6_shrinks ⟨by decide, by decide⟩ pC_0 ⟨_, _, rfl⟩ (Nat.le_of_ble_eq_true rfl) (c_X6_shrinks  hg2) ?_
  refine aw_i2l dX6_digestWays_100 ?_
  refine aw_ladd dX6_digestWays_101 ?_
  refine aw_lstore_n dX6_digestWays_102 rfl (by decide) rfl (fun y4 e => ?_)
  replace h := sb_e h e
  clear e
  show AW _ _ _ 103 [some (vR (some 0)), none, none, some (vL y4), none, none, none] _ _
  refine aw_ldc2 (n := 31) dX6_digestWays_103 cl_X6_210 ⟨by decide, by decide⟩ (by decide) ?_
  refine aw_lload_n dX6_digestWays_106 rfl rfl ?_
  refine aw_lmul dX6_digestWays_107 ?_
  refine aw_aload_n dX6_digestWays_108 rfl rfl ?_
  refine aw_iconst dX6_digestWays_109 ⟨by decide, by decide⟩ ?_
  obtain ⟨y5, hg3, h⟩ := bn_e h
  refine aw_V1i (M2 := M_X6_shrinks) dX6_digestWays_110 lk_X6_251 mk_X6_shrinks mv_X6_shrinks ⟨by decide, by decide⟩ pC_0 ⟨_, _, rfl⟩ (Nat.le_of_ble_eq_true rfl) (c_X6_shrinks  hg3) ?_
  refine aw_i2l dX6_digestWays_113 ?_
  refine aw_ladd dX6_digestWays_114 ?_
  refine aw_lstore_n dX6_digestWays_115 rfl (by decide) rfl (fun y6 e => ?_)
  replace h := sb_e h e
  clear e
  show AW _ _ _ 116 [some (vR (some 0)), none, none, some (vL y6), none, none, none] _ _
  refine aw_ldc2 (n := 31) dX6_digestWays_116 cl_X6_210 ⟨by decide, by decide⟩ (by decide) ?_
  refine aw_lload_n dX6_digestWays_119 rfl rfl ?_
  refine aw_lmul dX6_digestWays_120 ?_
  refine aw_aload_n dX6_digestWays_121 rfl rfl ?_
  refine aw_iconst dX6_digestWays_122 ⟨by decide, by decide⟩ ?_
  obtain ⟨y7, hg4, h⟩ := bn_e h
  refine aw_V1i (M2 := M_X6_shrinks) dX6_digestWays_123 lk_X6_251 mk_X6_shrinks mv_X6_shrinks ⟨by decide, by decide⟩ pC_0 ⟨_, _, rfl⟩ (Nat.le_of_ble_eq_true rfl) (c_X6_shrinks  hg4) ?_
  refine aw_i2l dX6_digestWays_126 ?_
  refine aw_ladd dX6_digestWays_127 ?_
  refine aw_lstore_n dX6_digestWays_128 rfl (by decide) rfl (fun y8 e => ?_)
  replace h := sb_e h e
  clear e
  show AW _ _ _ 129 [some (vR (some 0)), none, none, some (vL y8), none, none, none] _ _
  refine aw_ldc2 (n := 31) dX6_digestWays_129 cl_X6_210 ⟨by decide, by decide⟩ (by decide) ?_
  refine aw_lload_n dX6_digestWays_132 rfl rfl ?_
  refine aw_lmul dX6_digestWays_133 ?_
  refine aw_aload_n dX6_digestWays_134 rfl rfl ?_
  obtain ⟨y9, hg5, h⟩ := bn_e h
  refine aw_V0i (M2 := M_X6_spare) dX6_digestWays_135 lk_X6_254 mk_X6_spare mv_X6_spare ⟨by decide, by decide⟩ pC_0 ⟨_, _, rfl⟩ (Nat.le_of_ble_eq_true rfl) (c_X6_spare  hg5) ?_
  refine aw_i2l dX6_digestWays_138 ?_
  refine aw_ladd dX6_digestWays_139 ?_
  obtain rfl := Option.some.inj h
  exact aw_lret dX6_digestWays_140 rfl
def g_X6_digestWays_52 (k52 : Int → Int → SS → Option Int) (x3 : Int) (x5 : Int) (s0 : SS) : Option Int :=
  if 2 < x5 then (
    g_X6_digestWays_78  x3 s0
  ) else (
    bn (f_X6_haste x5 s0) fun y1 =>
    sb (wl ((wl (31 * x3)) + y1)) fun y2 =>
    sb (wr (x5 + 1)) fun y3 =>
    k52 y2 y3 s0
  )
set_option maxHeartbeats 4000000 in
theorem t_X6_digestWays_52 (k52 : Int → Int → SS → Option Int) (hk52 : ∀ (x3 : Int) (x5 : Int) (s0 : SS) (r : Int), k52 x3 x5 s0 = some r → AW LC M_X6_digestWays (some (vL r), s0) 52 [some (vR (some 0)), none, none, some (vL x3), none, some (vI x5), none] [] s0) : ∀ (x3 : Int) (x5 : Int) (s0 : SS) (r : Int), g_X6_digestWays_52 k52 x3 x5 s0 = some r → AW LC M_X6_digestWays (some (vL r), s0) 52 [some (vR (some 0)), none, none, some (vL x3), none, some (vI x5), none] [] s0 := by
  intro x3 x5 s0 r h
  unfold g_X6_digestWays_52 at h
  refine aw_iload dX6_digestWays_52 rfl ?_
  refine aw_iconst dX6_digestWays_54 ⟨by decide, by decide⟩ ?_
  refine aw_icmp_gt (tgt := 78) dX6_digestWays_55 (by decide) (fun hc => ?_) (fun hc => ?_)
  · replace h := ip hc h
    exact aw_less (ls' := [some (vR (some 0)), none, none, some (vL x3), none, none, none]) (⟨rfl, ⟨rfl, trivial⟩⟩) (t_X6_digestWays_78   x3 s0 _ h)
  · replace h := ic hc h
    refine aw_ldc2 (n := 31) dX6_digestWays_58 cl_X6_210 ⟨by decide, by decide⟩ (by decide) ?_
    refine aw_lload_n dX6_digestWays_61 rfl rfl ?_
    refine aw_lmul dX6_digestWays_62 ?_
    refine aw_aload_n dX6_digestWays_63 rfl rfl ?_
    refine aw_iload dX6_digestWays_64 rfl ?_
    obtain ⟨y1, hg1, h⟩ := bn_e h
    refine aw_V1i (M2 := M_X6_haste) dX6_digestWays_66 lk_X6_245 mk_X6_haste mv_X6_haste ⟨by decide, by decide⟩ pC_0 ⟨_, _, rfl⟩ (Nat.le_of_ble_eq_true rfl) (c_X6_haste  hg1) ?_
    refine aw_i2l dX6_digestWays_69 ?_
    refine aw_ladd dX6_digestWays_70 ?_
    refine aw_lstore_n dX6_digestWays_71 rfl (by decide) rfl (fun y2 e => ?_)
    replace h := sb_e h e
    clear e
    show AW _ _ _ 72 [some (vR (some 0)), none, none, some (vL y2), none, some (vI x5), none] _ _
    refine aw_iinc dX6_digestWays_72 rfl (by decide) rfl (fun y3 e => ?_)
    replace h := sb_e h e
    clear e
    show AW _ _ _ 75 [some (vR (some 0)), none, none, some (vL y2), none, some (vI y3), none] _ _
    refine aw_goto (tgt := 52) dX6_digestWays_75 (by decide) ?_
    exact (hk52 y2 y3 s0 _ h)
def f_X6_digestWays_52 : Nat → Int → Int → SS → Option Int
  | 0 => fun _ _ _ => none
  | n + 1 => g_X6_digestWays_52 (f_X6_digestWays_52  n)
theorem s_X6_digestWays_52  : ∀ (n : Nat), ∀ (x3 : Int) (x5 : Int) (s0 : SS) (r : Int), f_X6_digestWays_52 n x3 x5 s0 = some r → AW LC M_X6_digestWays (some (vL r), s0) 52 [some (vR (some 0)), none, none, some (vL x3), none, some (vI x5), none] [] s0 := by
  intro n
  induction n with
  | zero =>
    intro x3 x5 s0 r h
    cases h
  | succ n ih =>
    intro x3 x5 s0 r h
    exact t_X6_digestWays_52 (f_X6_digestWays_52  n) ih x3 x5 s0 r h
def g_X6_digestWays_49 (x3 : Int) (s0 : SS) : Option Int :=
  f_X6_digestWays_52  FU x3 0 s0
set_option maxHeartbeats 4000000 in
theorem t_X6_digestWays_49  : ∀ (x3 : Int) (s0 : SS) (r : Int), g_X6_digestWays_49 x3 s0 = some r → AW LC M_X6_digestWays (some (vL r), s0) 49 [some (vR (some 0)), none, none, some (vL x3), none, none, none] [] s0 := by
  intro x3 s0 r h
  unfold g_X6_digestWays_49 at h
  refine aw_iconst dX6_digestWays_49 ⟨by decide, by decide⟩ ?_
  refine aw_istoreA dX6_digestWays_50 (by decide) rfl ?_
  show AW _ _ _ 52 [some (vR (some 0)), none, none, some (vL x3), none, some (vI 0), none] _ _
  exact (s_X6_digestWays_52   FU x3 0 s0 _ h)
def g_X6_digestWays_43 (k5 : Int → Int → SS → Option Int) (x3 : Int) (x5 : Int) (s0 : SS) : Option Int :=
  sb (wr (x5 + 1)) fun y1 =>
  k5 x3 y1 s0
set_option maxHeartbeats 4000000 in
theorem t_X6_digestWays_43 (k5 : Int → Int → SS → Option Int) (hk5 : ∀ (x3 : Int) (x5 : Int) (s0 : SS) (r : Int), k5 x3 x5 s0 = some r → AW LC M_X6_digestWays (some (vL r), s0) 5 [some (vR (some 0)), none, none, some (vL x3), none, some (vI x5), none] [] s0) : ∀ (x3 : Int) (x5 : Int) (s0 : SS) (r : Int), g_X6_digestWays_43 k5 x3 x5 s0 = some r → AW LC M_X6_digestWays (some (vL r), s0) 43 [some (vR (some 0)), none, none, some (vL x3), none, some (vI x5), none] [] s0 := by
  intro x3 x5 s0 r h
  unfold g_X6_digestWays_43 at h
  refine aw_iinc dX6_digestWays_43 rfl (by decide) rfl (fun y1 e => ?_)
  replace h := sb_e h e
  clear e
  show AW _ _ _ 46 [some (vR (some 0)), none, none, some (vL x3), none, some (vI y1), none] _ _
  refine aw_goto (tgt := 5) dX6_digestWays_46 (by decide) ?_
  exact (hk5 x3 y1 s0 _ h)
def g_X6_digestWays_15 (k5 : Int → Int → SS → Option Int) (k15 : Int → Int → Int → SS → Option Int) (x3 : Int) (x5 : Int) (x6 : Int) (s0 : SS) : Option Int :=
  if 2 < x6 then (
    g_X6_digestWays_43 k5 x3 x5 s0
  ) else (
    bn (f_X6_way x5 x6 s0) fun y1 =>
    sb (wl ((wl (31 * x3)) + y1)) fun y2 =>
    sb (wr (x6 + 1)) fun y3 =>
    k15 y2 x5 y3 s0
  )
set_option maxHeartbeats 4000000 in
theorem t_X6_digestWays_15 (k5 : Int → Int → SS → Option Int) (k15 : Int → Int → Int → SS → Option Int) (hk5 : ∀ (x3 : Int) (x5 : Int) (s0 : SS) (r : Int), k5 x3 x5 s0 = some r → AW LC M_X6_digestWays (some (vL r), s0) 5 [some (vR (some 0)), none, none, some (vL x3), none, some (vI x5), none] [] s0) (hk15 : ∀ (x3 : Int) (x5 : Int) (x6 : Int) (s0 : SS) (r : Int), k15 x3 x5 x6 s0 = some r → AW LC M_X6_digestWays (some (vL r), s0) 15 [some (vR (some 0)), none, none, some (vL x3), none, some (vI x5), some (vI x6)] [] s0) : ∀ (x3 : Int) (x5 : Int) (x6 : Int) (s0 : SS) (r : Int), g_X6_digestWays_15 k5 k15 x3 x5 x6 s0 = some r → AW LC M_X6_digestWays (some (vL r), s0) 15 [some (vR (some 0)), none, none, some (vL x3), none, some (vI x5), some (vI x6)] [] s0 := by
  intro x3 x5 x6 s0 r h
  unfold g_X6_digestWays_15 at h
  refine aw_iload dX6_digestWays_15 rfl ?_
  refine aw_iconst dX6_digestWays_17 ⟨by decide, by decide⟩ ?_
  refine aw_icmp_gt (tgt := 43) dX6_digestWays_18 (by decide) (fun hc => ?_) (fun hc => ?_)
  · replace h := ip hc h
    exact aw_less (ls' := [some (vR (some 0)), none, none, some (vL x3), none, some (vI x5), none]) (⟨rfl, ⟨rfl, ⟨rfl, trivial⟩⟩⟩) (t_X6_digestWays_43 k5 hk5 x3 x5 s0 _ h)
  · replace h := ic hc h
    refine aw_ldc2 (n := 31) dX6_digestWays_21 cl_X6_210 ⟨by decide, by decide⟩ (by decide) ?_
    refine aw_lload_n dX6_digestWays_24 rfl rfl ?_
    refine aw_lmul dX6_digestWays_25 ?_
    refine aw_aload_n dX6_digestWays_26 rfl rfl ?_
    refine aw_iload dX6_digestWays_27 rfl ?_
    refine aw_iload dX6_digestWays_29 rfl ?_
    obtain ⟨y1, hg1, h⟩ := bn_e h
    refine aw_V2i (M2 := M_X6_way) dX6_digestWays_31 lk_X6_242 mk_X6_way mv_X6_way ⟨by decide, by decide⟩ pC_0 ⟨_, _, rfl⟩ (Nat.le_of_ble_eq_true rfl) (c_X6_way  hg1) ?_
    refine aw_i2l dX6_digestWays_34 ?_
    refine aw_ladd dX6_digestWays_35 ?_
    refine aw_lstore_n dX6_digestWays_36 rfl (by decide) rfl (fun y2 e => ?_)
    replace h := sb_e h e
    clear e
    show AW _ _ _ 37 [some (vR (some 0)), none, none, some (vL y2), none, some (vI x5), some (vI x6)] _ _
    refine aw_iinc dX6_digestWays_37 rfl (by decide) rfl (fun y3 e => ?_)
    replace h := sb_e h e
    clear e
    show AW _ _ _ 40 [some (vR (some 0)), none, none, some (vL y2), none, some (vI x5), some (vI y3)] _ _
    refine aw_goto (tgt := 15) dX6_digestWays_40 (by decide) ?_
    exact (hk15 y2 x5 y3 s0 _ h)
def f_X6_digestWays_15 (k5 : Int → Int → SS → Option Int) : Nat → Int → Int → Int → SS → Option Int
  | 0 => fun _ _ _ _ => none
  | n + 1 => g_X6_digestWays_15 k5 (f_X6_digestWays_15 k5 n)
theorem s_X6_digestWays_15 (k5 : Int → Int → SS → Option Int) (hk5 : ∀ (x3 : Int) (x5 : Int) (s0 : SS) (r : Int), k5 x3 x5 s0 = some r → AW LC M_X6_digestWays (some (vL r), s0) 5 [some (vR (some 0)), none, none, some (vL x3), none, some (vI x5), none] [] s0) : ∀ (n : Nat), ∀ (x3 : Int) (x5 : Int) (x6 : Int) (s0 : SS) (r : Int), f_X6_digestWays_15 k5 n x3 x5 x6 s0 = some r → AW LC M_X6_digestWays (some (vL r), s0) 15 [some (vR (some 0)), none, none, some (vL x3), none, some (vI x5), some (vI x6)] [] s0 := by
  intro n
  induction n with
  | zero =>
    intro x3 x5 x6 s0 r h
    cases h
  | succ n ih =>
    intro x3 x5 x6 s0 r h
    exact t_X6_digestWays_15 k5 (f_X6_digestWays_15 k5 n) hk5 ih x3 x5 x6 s0 r h
def g_X6_digestWays_5 (k5 : Int → Int → SS → Option Int) (x3 : Int) (x5 : Int) (s0 : SS) : Option Int :=
  if 64 ≤ x5 then (
    g_X6_digestWays_49  x3 s0
  ) else (
    f_X6_digestWays_15 k5 FU x3 x5 0 s0
  )
set_option maxHeartbeats 4000000 in
theorem t_X6_digestWays_5 (k5 : Int → Int → SS → Option Int) (hk5 : ∀ (x3 : Int) (x5 : Int) (s0 : SS) (r : Int), k5 x3 x5 s0 = some r → AW LC M_X6_digestWays (some (vL r), s0) 5 [some (vR (some 0)), none, none, some (vL x3), none, some (vI x5), none] [] s0) : ∀ (x3 : Int) (x5 : Int) (s0 : SS) (r : Int), g_X6_digestWays_5 k5 x3 x5 s0 = some r → AW LC M_X6_digestWays (some (vL r), s0) 5 [some (vR (some 0)), none, none, some (vL x3), none, some (vI x5), none] [] s0 := by
  intro x3 x5 s0 r h
  unfold g_X6_digestWays_5 at h
  refine aw_iload dX6_digestWays_5 rfl ?_
  refine aw_bipush dX6_digestWays_7 ⟨by decide, by decide⟩ (by decide) ?_
  refine aw_icmp_ge (tgt := 49) dX6_digestWays_9 (by decide) (fun hc => ?_) (fun hc => ?_)
  · replace h := ip hc h
    exact aw_less (ls' := [some (vR (some 0)), none, none, some (vL x3), none, none, none]) (⟨rfl, ⟨rfl, trivial⟩⟩) (t_X6_digestWays_49   x3 s0 _ h)
  · replace h := ic hc h
    refine aw_iconst dX6_digestWays_12 ⟨by decide, by decide⟩ ?_
    refine aw_istoreA dX6_digestWays_13 (by decide) rfl ?_
    show AW _ _ _ 15 [some (vR (some 0)), none, none, some (vL x3), none, some (vI x5), some (vI 0)] _ _
    exact (s_X6_digestWays_15 k5 hk5 FU x3 x5 0 s0 _ h)
def f_X6_digestWays_5 : Nat → Int → Int → SS → Option Int
  | 0 => fun _ _ _ => none
  | n + 1 => g_X6_digestWays_5 (f_X6_digestWays_5  n)
theorem s_X6_digestWays_5  : ∀ (n : Nat), ∀ (x3 : Int) (x5 : Int) (s0 : SS) (r : Int), f_X6_digestWays_5 n x3 x5 s0 = some r → AW LC M_X6_digestWays (some (vL r), s0) 5 [some (vR (some 0)), none, none, some (vL x3), none, some (vI x5), none] [] s0 := by
  intro n
  induction n with
  | zero =>
    intro x3 x5 s0 r h
    cases h
  | succ n ih =>
    intro x3 x5 s0 r h
    exact t_X6_digestWays_5 (f_X6_digestWays_5  n) ih x3 x5 s0 r h
def f_X6_digestWays (x1 : Int) (s0 : SS) : Option Int :=
  f_X6_digestWays_5  FU x1 0 s0
set_option maxHeartbeats 4000000 in
theorem t_X6_digestWays_0  : ∀ (x1 : Int) (s0 : SS) (r : Int), f_X6_digestWays x1 s0 = some r → AW LC M_X6_digestWays (some (vL r), s0) 0 [some (vR (some 0)), some (vL x1), none, none, none, none, none] [] s0 := by
  intro x1 s0 r h
  unfold f_X6_digestWays at h
  refine aw_lload_n dX6_digestWays_0 rfl rfl ?_
  refine aw_lstore_nA dX6_digestWays_1 rfl (by decide) rfl ?_
  show AW _ _ _ 2 [some (vR (some 0)), some (vL x1), none, some (vL x1), none, none, none] _ _
  refine aw_iconst dX6_digestWays_2 ⟨by decide, by decide⟩ ?_
  refine aw_istoreA dX6_digestWays_3 (by decide) rfl ?_
  show AW _ _ _ 5 [some (vR (some 0)), some (vL x1), none, some (vL x1), none, some (vI 0), none] _ _
  exact aw_less (ls' := [some (vR (some 0)), none, none, some (vL x1), none, some (vI 0), none]) (⟨rfl, ⟨rfl, ⟨rfl, trivial⟩⟩⟩) (s_X6_digestWays_5   FU x1 0 s0 _ h)
theorem c_X6_digestWays {x1 : Int} {s0 : SS} {y : Int} (h : f_X6_digestWays x1 s0 = some y) : CT LC M_X6_digestWays [vR (some 0), vL x1] s0 (some (vL y), s0) :=
  ct_of (n := 4) (by decide) (Nat.le_of_ble_eq_true rfl) (t_X6_digestWays_0 x1 s0  _ h)
def g_X6_digest_31 (x1 : Int) (s0 : SS) : Option Int :=
  bn (f_X6_fault s0) fun y1 =>
  sb (wl ((wl (31 * x1)) + y1)) fun y2 =>
  bn (f_X6_digestParts y2 s0) fun y3 =>
  bn (f_X6_digestBest y3 s0) fun y4 =>
  bn (f_X6_digestWays y4 s0) fun y5 =>
  some y5
set_option maxHeartbeats 4000000 in
theorem t_X6_digest_31  : ∀ (x1 : Int) (s0 : SS) (r : Int), g_X6_digest_31 x1 s0 = some r → AW LC M_X6_digest (some (vL r), s0) 31 [some (vR (some 0)), some (vL x1), none, none] [] s0 := by
  intro x1 s0 r h
  unfold g_X6_digest_31 at h
  refine aw_ldc2 (n := 31) dX6_digest_31 cl_X6_210 ⟨by decide, by decide⟩ (by decide) ?_
  refine aw_lload_n dX6_digest_34 rfl rfl ?_
  refine aw_lmul dX6_digest_35 ?_
  refine aw_aload_n dX6_digest_36 rfl rfl ?_
  obtain ⟨y1, hg1, h⟩ := bn_e h
  refine aw_V0i (M2 := M_X6_fault) dX6_digest_37 lk_X6_215 mk_X6_fault mv_X6_fault ⟨by decide, by decide⟩ pC_0 ⟨_, _, rfl⟩ (Nat.le_of_ble_eq_true rfl) (c_X6_fault  hg1) ?_
  refine aw_i2l dX6_digest_40 ?_
  refine aw_ladd dX6_digest_41 ?_
  refine aw_lstore_n dX6_digest_42 rfl (by decide) rfl (fun y2 e => ?_)
  replace h := sb_e h e
  clear e
  show AW _ _ _ 43 [some (vR (some 0)), some (vL y2), none, none] _ _
  refine aw_aload_n dX6_digest_43 rfl rfl ?_
  refine aw_lload_n dX6_digest_44 rfl rfl ?_
  obtain ⟨y3, hg2, h⟩ := bn_e h
  refine aw_V1l (M2 := M_X6_digestParts) dX6_digest_45 lk_X6_218 mk_X6_digestParts mv_X6_digestParts ⟨by decide, by decide⟩ pC_0 ⟨_, _, rfl⟩ (Nat.le_of_ble_eq_true rfl) (c_X6_digestParts  hg2) ?_
  refine aw_lstore_nA dX6_digest_48 rfl (by decide) rfl ?_
  show AW _ _ _ 49 [some (vR (some 0)), some (vL y3), none, none] _ _
  refine aw_aload_n dX6_digest_49 rfl rfl ?_
  refine aw_lload_n dX6_digest_50 rfl rfl ?_
  obtain ⟨y4, hg3, h⟩ := bn_e h
  refine aw_V1l (M2 := M_X6_digestBest) dX6_digest_51 lk_X6_222 mk_X6_digestBest mv_X6_digestBest ⟨by decide, by decide⟩ pC_0 ⟨_, _, rfl⟩ (Nat.le_of_ble_eq_true rfl) (c_X6_digestBest  hg3) ?_
  refine aw_lstore_nA dX6_digest_54 rfl (by decide) rfl ?_
  show AW _ _ _ 55 [some (vR (some 0)), some (vL y4), none, none] _ _
  refine aw_aload_n dX6_digest_55 rfl rfl ?_
  refine aw_lload_n dX6_digest_56 rfl rfl ?_
  obtain ⟨y5, hg4, h⟩ := bn_e h
  refine aw_V1l (M2 := M_X6_digestWays) dX6_digest_57 lk_X6_225 mk_X6_digestWays mv_X6_digestWays ⟨by decide, by decide⟩ pC_0 ⟨_, _, rfl⟩ (Nat.le_of_ble_eq_true rfl) (c_X6_digestWays  hg4) ?_
  obtain rfl := Option.some.inj h
  exact aw_lret dX6_digest_60 rfl
def g_X6_digest_6 (k6 : Int → Int → SS → Option Int) (x1 : Int) (x3 : Int) (s0 : SS) : Option Int :=
  if 7 < x3 then (
    g_X6_digest_31  x1 s0
  ) else (
    bn (f_X6_count x3 s0) fun y1 =>
    sb (wl ((wl (31 * x1)) + y1)) fun y2 =>
    sb (wr (x3 + 1)) fun y3 =>
    k6 y2 y3 s0
  )
set_option maxHeartbeats 4000000 in
theorem t_X6_digest_6 (k6 : Int → Int → SS → Option Int) (hk6 : ∀ (x1 : Int) (x3 : Int) (s0 : SS) (r : Int), k6 x1 x3 s0 = some r → AW LC M_X6_digest (some (vL r), s0) 6 [some (vR (some 0)), some (vL x1), none, some (vI x3)] [] s0) : ∀ (x1 : Int) (x3 : Int) (s0 : SS) (r : Int), g_X6_digest_6 k6 x1 x3 s0 = some r → AW LC M_X6_digest (some (vL r), s0) 6 [some (vR (some 0)), some (vL x1), none, some (vI x3)] [] s0 := by
  intro x1 x3 s0 r h
  unfold g_X6_digest_6 at h
  refine aw_iload_n dX6_digest_6 rfl rfl ?_
  refine aw_bipush dX6_digest_7 ⟨by decide, by decide⟩ (by decide) ?_
  refine aw_icmp_gt (tgt := 31) dX6_digest_9 (by decide) (fun hc => ?_) (fun hc => ?_)
  · replace h := ip hc h
    exact aw_less (ls' := [some (vR (some 0)), some (vL x1), none, none]) (⟨rfl, ⟨rfl, trivial⟩⟩) (t_X6_digest_31   x1 s0 _ h)
  · replace h := ic hc h
    refine aw_ldc2 (n := 31) dX6_digest_12 cl_X6_210 ⟨by decide, by decide⟩ (by decide) ?_
    refine aw_lload_n dX6_digest_15 rfl rfl ?_
    refine aw_lmul dX6_digest_16 ?_
    refine aw_aload_n dX6_digest_17 rfl rfl ?_
    refine aw_iload_n dX6_digest_18 rfl rfl ?_
    obtain ⟨y1, hg1, h⟩ := bn_e h
    refine aw_V1i (M2 := M_X6_count) dX6_digest_19 lk_X6_212 mk_X6_count mv_X6_count ⟨by decide, by decide⟩ pC_0 ⟨_, _, rfl⟩ (Nat.le_of_ble_eq_true rfl) (c_X6_count  hg1) ?_
    refine aw_i2l dX6_digest_22 ?_
    refine aw_ladd dX6_digest_23 ?_
    refine aw_lstore_n dX6_digest_24 rfl (by decide) rfl (fun y2 e => ?_)
    replace h := sb_e h e
    clear e
    show AW _ _ _ 25 [some (vR (some 0)), some (vL y2), none, some (vI x3)] _ _
    refine aw_iinc dX6_digest_25 rfl (by decide) rfl (fun y3 e => ?_)
    replace h := sb_e h e
    clear e
    show AW _ _ _ 28 [some (vR (some 0)), some (vL y2), none, some (vI y3)] _ _
    refine aw_goto (tgt := 6) dX6_digest_28 (by decide) ?_
    exact (hk6 y2 y3 s0 _ h)
def f_X6_digest_6 : Nat → Int → Int → SS → Option Int
  | 0 => fun _ _ _ => none
  | n + 1 => g_X6_digest_6 (f_X6_digest_6  n)
theorem s_X6_digest_6  : ∀ (n : Nat), ∀ (x1 : Int) (x3 : Int) (s0 : SS) (r : Int), f_X6_digest_6 n x1 x3 s0 = some r → AW LC M_X6_digest (some (vL r), s0) 6 [some (vR (some 0)), some (vL x1), none, some (vI x3)] [] s0 := by
  intro n
  induction n with
  | zero =>
    intro x1 x3 s0 r h
    cases h
  | succ n ih =>
    intro x1 x3 s0 r h
    exact t_X6_digest_6 (f_X6_digest_6  n) ih x1 x3 s0 r h
def f_X6_digest  (s0 : SS) : Option Int :=
  f_X6_digest_6  FU 17 0 s0
set_option maxHeartbeats 4000000 in
theorem t_X6_digest_0  : ∀ (s0 : SS) (r : Int), f_X6_digest s0 = some r → AW LC M_X6_digest (some (vL r), s0) 0 [some (vR (some 0)), none, none, none] [] s0 := by
  intro s0 r h
  unfold f_X6_digest at h
  refine aw_ldc2 (n := 17) dX6_digest_0 cl_X6_208 ⟨by decide, by decide⟩ (by decide) ?_
  refine aw_lstore_nA dX6_digest_3 rfl (by decide) rfl ?_
  show AW _ _ _ 4 [some (vR (some 0)), some (vL 17), none, none] _ _
  refine aw_iconst dX6_digest_4 ⟨by decide, by decide⟩ ?_
  refine aw_istore_nA dX6_digest_5 rfl (by decide) rfl ?_
  show AW _ _ _ 6 [some (vR (some 0)), some (vL 17), none, some (vI 0)] _ _
  exact (s_X6_digest_6   FU 17 0 s0 _ h)
theorem c_X6_digest {s0 : SS} {y : Int} (h : f_X6_digest s0 = some y) : CT LC M_X6_digest [vR (some 0)] s0 (some (vL y), s0) :=
  ct_of (n := 3) (by decide) (Nat.le_of_ble_eq_true rfl) (t_X6_digest_0  s0  _ h)
