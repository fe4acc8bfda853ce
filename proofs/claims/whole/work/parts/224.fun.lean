def g_X7_linesWithout_28 (z0 : Int) (s0 : SS) : Option Int :=
  some z0
set_option maxHeartbeats 4000000 in
theorem t_X7_linesWithout_28  : ∀ (z0 : Int) (s0 : SS) (r : Int), g_X7_linesWithout_28 z0 s0 = some r → AW LM M_X7_linesWithout (some (vI r), s0) 28 [none, none, none] [vI z0] s0 := by
  intro z0 s0 r h
  unfold g_X7_linesWithout_28 at h
  obtain rfl := Option.some.inj h
  exact aw_iret dX7_linesWithout_28 rfl
def f_X7_linesWithout (x1 : Int) (s0 : SS) : Option Int :=
  bn (f_X7_leastWithout x1 s0) fun y1 =>
  if y1 = (-1) then (
    g_X7_linesWithout_28  (-1) s0
  ) else (
    bn (f_X7_max (s0 0 2) y1) fun y2 =>
    bn (f_X7_fewest y2 x1 s0) fun y3 =>
    g_X7_linesWithout_28  y3 s0
  )
set_option maxHeartbeats 4000000 in
theorem t_X7_linesWithout_0  : ∀ (x1 : Int) (s0 : SS) (r : Int), f_X7_linesWithout x1 s0 = some r → AW LM M_X7_linesWithout (some (vI r), s0) 0 [some (vR (some 0)), some (vI x1), none] [] s0 := by
  intro x1 s0 r h
  unfold f_X7_linesWithout at h
  refine aw_aload_n dX7_linesWithout_0 rfl rfl ?_
  refine aw_iload_n dX7_linesWithout_1 rfl rfl ?_
  obtain ⟨y1, hg1, h⟩ := bn_e h
  refine aw_V1i (M2 := M_X7_leastWithout) dX7_linesWithout_2 lk_X7_264 mk_X7_leastWithout mv_X7_leastWithout ⟨by decide, by decide⟩ pM_0 ⟨_, _, rfl⟩ (Nat.le_of_ble_eq_true rfl) (c_X7_leastWithout  hg1) ?_
  refine aw_istore_nA dX7_linesWithout_5 rfl (by decide) rfl ?_
  show AW _ _ _ 6 [some (vR (some 0)), some (vI x1), some (vI y1)] _ _
  refine aw_iload_n dX7_linesWithout_6 rfl rfl ?_
  refine aw_iconst dX7_linesWithout_7 ⟨by decide, by decide⟩ ?_
  refine aw_icmp_ne (tgt := 15) dX7_linesWithout_8 (by decide) (fun hc => ?_) (fun hc => ?_)
  rotate_left
  · replace h := ip hc h
    refine aw_iconst dX7_linesWithout_11 ⟨by decide, by decide⟩ ?_
    refine aw_goto (tgt := 28) dX7_linesWithout_12 (by decide) ?_
    exact aw_less (ls' := [none, none, none]) (trivial) (t_X7_linesWithout_28   (-1) s0 _ h)
  · replace h := ic hc h
    refine aw_aload_n dX7_linesWithout_15 rfl rfl ?_
    refine aw_aload_n dX7_linesWithout_16 rfl rfl ?_
    refine aw_getI dX7_linesWithout_17 fk_X7_13 pM_0 rfl ?_
    refine aw_iload_n dX7_linesWithout_20 rfl rfl ?_
    obtain ⟨y2, hg2, h⟩ := bn_e h
    refine aw_S2i (M2 := M_X7_max) dX7_linesWithout_21 lk_X7_130 mk_X7_max ms_X7_max ⟨by decide, by decide⟩ (Nat.le_of_ble_eq_true rfl) (c_X7_max  hg2) ?_
    refine aw_iload_n dX7_linesWithout_24 rfl rfl ?_
    obtain ⟨y3, hg3, h⟩ := bn_e h
    refine aw_V2i (M2 := M_X7_fewest) dX7_linesWithout_25 lk_X7_258 mk_X7_fewest mv_X7_fewest ⟨by decide, by decide⟩ pM_0 ⟨_, _, rfl⟩ (Nat.le_of_ble_eq_true rfl) (c_X7_fewest  hg3) ?_
    exact aw_less (ls' := [none, none, none]) (trivial) (t_X7_linesWithout_28   y3 s0 _ h)
theorem c_X7_linesWithout {x1 : Int} {s0 : SS} {y : Int} (h : f_X7_linesWithout x1 s0 = some y) : CT LM M_X7_linesWithout [vR (some 0), vI x1] s0 (some (vI y), s0) :=
  ct_of (n := 1) (by decide) (Nat.le_of_ble_eq_true rfl) (t_X7_linesWithout_0 x1 s0  _ h)
def g_X7_isOverBy_17 (z0 : Int) (s0 : SS) : Option Int :=
  gb z0 <|
  some z0
set_option maxHeartbeats 4000000 in
theorem t_X7_isOverBy_17  : ∀ (z0 : Int) (s0 : SS) (r : Int), g_X7_isOverBy_17 z0 s0 = some r → AW LM M_X7_isOverBy (some (vI r), s0) 17 [none, none] [vI z0] s0 := by
  intro z0 s0 r h
  unfold g_X7_isOverBy_17 at h
  obtain ⟨hg1, h⟩ := gb_e h
  obtain rfl := Option.some.inj h
  exact aw_zret dX7_isOverBy_17 rfl hg1
def f_X7_isOverBy (x1 : Int) (s0 : SS) : Option Int :=
  bn (f_X7_leastWithout x1 s0) fun y1 =>
  if y1 ≤ (s0 0 2) then (
    g_X7_isOverBy_17  0 s0
  ) else (
    g_X7_isOverBy_17  1 s0
  )
set_option maxHeartbeats 4000000 in
theorem t_X7_isOverBy_0  : ∀ (x1 : Int) (s0 : SS) (r : Int), f_X7_isOverBy x1 s0 = some r → AW LM M_X7_isOverBy (some (vI r), s0) 0 [some (vR (some 0)), some (vI x1)] [] s0 := by
  intro x1 s0 r h
  unfold f_X7_isOverBy at h
  refine aw_aload_n dX7_isOverBy_0 rfl rfl ?_
  refine aw_iload_n dX7_isOverBy_1 rfl rfl ?_
  obtain ⟨y1, hg1, h⟩ := bn_e h
  refine aw_V1i (M2 := M_X7_leastWithout) dX7_isOverBy_2 lk_X7_264 mk_X7_leastWithout mv_X7_leastWithout ⟨by decide, by decide⟩ pM_0 ⟨_, _, rfl⟩ (Nat.le_of_ble_eq_true rfl) (c_X7_leastWithout  hg1) ?_
  refine aw_aload_n dX7_isOverBy_5 rfl rfl ?_
  refine aw_getI dX7_isOverBy_6 fk_X7_13 pM_0 rfl ?_
  refine aw_icmp_le (tgt := 16) dX7_isOverBy_9 (by decide) (fun hc => ?_) (fun hc => ?_)
  · replace h := ip hc h
    refine aw_iconst dX7_isOverBy_16 ⟨by decide, by decide⟩ ?_
    exact aw_less (ls' := [none, none]) (trivial) (t_X7_isOverBy_17   0 s0 _ h)
  · replace h := ic hc h
    refine aw_iconst dX7_isOverBy_12 ⟨by decide, by decide⟩ ?_
    refine aw_goto (tgt := 17) dX7_isOverBy_13 (by decide) ?_
    exact aw_less (ls' := [none, none]) (trivial) (t_X7_isOverBy_17   1 s0 _ h)
theorem c_X7_isOverBy {x1 : Int} {s0 : SS} {y : Int} (h : f_X7_isOverBy x1 s0 = some y) : CT LM M_X7_isOverBy [vR (some 0), vI x1] s0 (some (vI y), s0) :=
  ct_of (n := 0) (by decide) (Nat.le_of_ble_eq_true rfl) (t_X7_isOverBy_0 x1 s0  _ h)
def g_X7_spareOf_71 (x2 : Int) (s0 : SS) : Option (Int × SS) :=
  some (x2, s0)
set_option maxHeartbeats 4000000 in
theorem t_X7_spareOf_71  : ∀ (x2 : Int) (s0 : SS) (r : (Int × SS)), g_X7_spareOf_71 x2 s0 = some r → AW LM M_X7_spareOf (some (vI r.1), r.2) 71 [none, none, some (vI x2), none, none] [] s0 := by
  intro x2 s0 r h
  unfold g_X7_spareOf_71 at h
  refine aw_iload_n dX7_spareOf_71 rfl rfl ?_
  obtain rfl := Option.some.inj h
  exact aw_iret dX7_spareOf_72 rfl
def g_X7_spareOf_63 (k14 : Int → Int → Int → SS → Option (Int × SS)) (x1 : Int) (x3 : Int) (z0 : Int) (z1 : Int) (s0 : SS) : Option (Int × SS) :=
  sb (i_or z1 z0) fun y1 =>
  sb (wr (x3 + 1)) fun y2 =>
  k14 x1 y1 y2 s0
set_option maxHeartbeats 4000000 in
theorem t_X7_spareOf_63 (k14 : Int → Int → Int → SS → Option (Int × SS)) (hk14 : ∀ (x1 : Int) (x2 : Int) (x3 : Int) (s0 : SS) (r : (Int × SS)), k14 x1 x2 x3 s0 = some r → AW LM M_X7_spareOf (some (vI r.1), r.2) 14 [some (vR (some 0)), some (vI x1), some (vI x2), some (vI x3), none] [] s0) : ∀ (x1 : Int) (x3 : Int) (z0 : Int) (z1 : Int) (s0 : SS) (r : (Int × SS)), g_X7_spareOf_63 k14 x1 x3 z0 z1 s0 = some r → AW LM M_X7_spareOf (some (vI r.1), r.2) 63 [some (vR (some 0)), some (vI x1), none, some (vI x3), none] [vI z0, vI z1] s0 := by
  intro x1 x3 z0 z1 s0 r h
  unfold g_X7_spareOf_63 at h
  refine aw_ior dX7_spareOf_63 ?_
  refine aw_istore_n dX7_spareOf_64 rfl (by decide) rfl (fun y1 e => ?_)
  replace h := sb_e h e
  clear e
  show AW _ _ _ 65 [some (vR (some 0)), some (vI x1), some (vI y1), some (vI x3), none] _ _
  refine aw_iinc dX7_spareOf_65 rfl (by decide) rfl (fun y2 e => ?_)
  replace h := sb_e h e
  clear e
  show AW _ _ _ 68 [some (vR (some 0)), some (vI x1), some (vI y1), some (vI y2), none] _ _
  refine aw_goto (tgt := 14) dX7_spareOf_68 (by decide) ?_
  exact (hk14 x1 y1 y2 s0 _ h)
def g_X7_spareOf_62 (k14 : Int → Int → Int → SS → Option (Int × SS)) (x1 : Int) (x3 : Int) (z0 : Int) (s0 : SS) : Option (Int × SS) :=
  g_X7_spareOf_63 k14 x1 x3 0 z0 s0
set_option maxHeartbeats 4000000 in
theorem t_X7_spareOf_62 (k14 : Int → Int → Int → SS → Option (Int × SS)) (hk14 : ∀ (x1 : Int) (x2 : Int) (x3 : Int) (s0 : SS) (r : (Int × SS)), k14 x1 x2 x3 s0 = some r → AW LM M_X7_spareOf (some (vI r.1), r.2) 14 [some (vR (some 0)), some (vI x1), some (vI x2), some (vI x3), none] [] s0) : ∀ (x1 : Int) (x3 : Int) (z0 : Int) (s0 : SS) (r : (Int × SS)), g_X7_spareOf_62 k14 x1 x3 z0 s0 = some r → AW LM M_X7_spareOf (some (vI r.1), r.2) 62 [some (vR (some 0)), some (vI x1), none, some (vI x3), none] [vI z0] s0 := by
  intro x1 x3 z0 s0 r h
  unfold g_X7_spareOf_62 at h
  refine aw_iconst dX7_spareOf_62 ⟨by decide, by decide⟩ ?_
  exact (t_X7_spareOf_63 k14 hk14 x1 x3 0 z0 s0 _ h)
def g_X7_spareOf_14 (k14 : Int → Int → Int → SS → Option (Int × SS)) (x1 : Int) (x2 : Int) (x3 : Int) (s0 : SS) : Option (Int × SS) :=
  if (s0 0 5) ≤ x3 then (
    g_X7_spareOf_71  x2 s0
  ) else (
    if x1 = (-1) then (
      g_X7_spareOf_71  x2 s0
    ) else (
      sb (i_shl 1 x3) fun y1 =>
      bn (f_X7_linesWithout y1 s0) fun y2 =>
      if y2 = x1 then (
        bn (f_X7_isOverBy y1 s0) fun y3 =>
        bn (f_X7_isOverBy 0 s0) fun y4 =>
        if y3 = y4 then (
          g_X7_spareOf_63 k14 x1 x3 y1 x2 s0
        ) else (
          g_X7_spareOf_62 k14 x1 x3 x2 s0
        )
      ) else (
        g_X7_spareOf_62 k14 x1 x3 x2 s0
      )
    )
  )
set_option maxHeartbeats 4000000 in
theorem t_X7_spareOf_14 (k14 : Int → Int → Int → SS → Option (Int × SS)) (hk14 : ∀ (x1 : Int) (x2 : Int) (x3 : Int) (s0 : SS) (r : (Int × SS)), k14 x1 x2 x3 s0 = some r → AW LM M_X7_spareOf (some (vI r.1), r.2) 14 [some (vR (some 0)), some (vI x1), some (vI x2), some (vI x3), none] [] s0) : ∀ (x1 : Int) (x2 : Int) (x3 : Int) (s0 : SS) (r : (Int × SS)), g_X7_spareOf_14 k14 x1 x2 x3 s0 = some r → AW LM M_X7_spareOf (some (vI r.1), r.2) 14 [some (vR (some 0)), some (vI x1), some (vI x2), some (vI x3), none] [] s0 := by
  intro x1 x2 x3 s0 r h
  unfold g_X7_spareOf_14 at h
  refine aw_iload_n dX7_spareOf_14 rfl rfl ?_
  refine aw_aload_n dX7_spareOf_15 rfl rfl ?_
  refine aw_getI dX7_spareOf_16 fk_X7_96 pM_0 rfl ?_
  refine aw_icmp_ge (tgt := 71) dX7_spareOf_19 (by decide) (fun hc => ?_) (fun hc => ?_)
  · replace h := ip hc h
    exact aw_less (ls' := [none, none, some (vI x2), none, none]) (⟨rfl, trivial⟩) (t_X7_spareOf_71   x2 s0 _ h)
  · replace h := ic hc h
    refine aw_iload_n dX7_spareOf_22 rfl rfl ?_
    refine aw_iconst dX7_spareOf_23 ⟨by decide, by decide⟩ ?_
    refine aw_icmp_eq (tgt := 71) dX7_spareOf_24 (by decide) (fun hc => ?_) (fun hc => ?_)
    · replace h := ip hc h
      exact aw_less (ls' := [none, none, some (vI x2), none, none]) (⟨rfl, trivial⟩) (t_X7_spareOf_71   x2 s0 _ h)
    · replace h := ic hc h
      refine aw_iconst dX7_spareOf_27 ⟨by decide, by decide⟩ ?_
      refine aw_iload_n dX7_spareOf_28 rfl rfl ?_
      refine aw_ishl dX7_spareOf_29 ?_
      refine aw_istore dX7_spareOf_30 (by decide) rfl (fun y1 e => ?_)
      replace h := sb_e h e
      clear e
      show AW _ _ _ 32 [some (vR (some 0)), some (vI x1), some (vI x2), some (vI x3), some (vI y1)] _ _
      refine aw_iload_n dX7_spareOf_32 rfl rfl ?_
      refine aw_aload_n dX7_spareOf_33 rfl rfl ?_
      refine aw_iload dX7_spareOf_34 rfl ?_
      obtain ⟨y2, hg1, h⟩ := bn_e h
      refine aw_V1i (M2 := M_X7_linesWithout) dX7_spareOf_36 lk_X7_267 mk_X7_linesWithout mv_X7_linesWithout ⟨by decide, by decide⟩ pM_0 ⟨_, _, rfl⟩ (Nat.le_of_ble_eq_true rfl) (c_X7_linesWithout  hg1) ?_
      refine aw_iload_n dX7_spareOf_39 rfl rfl ?_
      refine aw_icmp_ne (tgt := 62) dX7_spareOf_40 (by decide) (fun hc => ?_) (fun hc => ?_)
      rotate_left
      · replace h := ip hc h
        refine aw_aload_n dX7_spareOf_43 rfl rfl ?_
        refine aw_iload dX7_spareOf_44 rfl ?_
        obtain ⟨y3, hg2, h⟩ := bn_e h
        refine aw_V1i (M2 := M_X7_isOverBy) dX7_spareOf_46 lk_X7_270 mk_X7_isOverBy mv_X7_isOverBy ⟨by decide, by decide⟩ pM_0 ⟨_, _, rfl⟩ (Nat.le_of_ble_eq_true rfl) (c_X7_isOverBy  hg2) ?_
        refine aw_aload_n dX7_spareOf_49 rfl rfl ?_
        refine aw_iconst dX7_spareOf_50 ⟨by decide, by decide⟩ ?_
        obtain ⟨y4, hg3, h⟩ := bn_e h
        refine aw_V1i (M2 := M_X7_isOverBy) dX7_spareOf_51 lk_X7_270 mk_X7_isOverBy mv_X7_isOverBy ⟨by decide, by decide⟩ pM_0 ⟨_, _, rfl⟩ (Nat.le_of_ble_eq_true rfl) (c_X7_isOverBy  hg3) ?_
        refine aw_icmp_ne (tgt := 62) dX7_spareOf_54 (by decide) (fun hc => ?_) (fun hc => ?_)
        rotate_left
        · replace h := ip hc h
          refine aw_iload dX7_spareOf_57 rfl ?_
          refine aw_goto (tgt := 63) dX7_spareOf_59 (by decide) ?_
          exact aw_less (ls' := [some (vR (some 0)), some (vI x1), none, some (vI x3), none]) (⟨rfl, ⟨rfl, ⟨rfl, trivial⟩⟩⟩) (t_X7_spareOf_63 k14 hk14 x1 x3 y1 x2 s0 _ h)
        · replace h := ic hc h
          exact aw_less (ls' := [some (vR (some 0)), some (vI x1), none, some (vI x3), none]) (⟨rfl, ⟨rfl, ⟨rfl, trivial⟩⟩⟩) (t_X7_spareOf_62 k14 hk14 x1 x3 x2 s0 _ h)
      · replace h := ic hc h
        exact aw_less (ls' := [some (vR (some 0)), some (vI x1), none, some (vI x3), none]) (⟨rfl, ⟨rfl, ⟨rfl, trivial⟩⟩⟩) (t_X7_spareOf_62 k14 hk14 x1 x3 x2 s0 _ h)
def f_X7_spareOf_14 : Nat → Int → Int → Int → SS → Option (Int × SS)
  | 0 => fun _ _ _ _ => none
  | n + 1 => g_X7_spareOf_14 (f_X7_spareOf_14  n)
theorem s_X7_spareOf_14  : ∀ (n : Nat), ∀ (x1 : Int) (x2 : Int) (x3 : Int) (s0 : SS) (r : (Int × SS)), f_X7_spareOf_14 n x1 x2 x3 s0 = some r → AW LM M_X7_spareOf (some (vI r.1), r.2) 14 [some (vR (some 0)), some (vI x1), some (vI x2), some (vI x3), none] [] s0 := by
  intro n
  induction n with
  | zero =>
    intro x1 x2 x3 s0 r h
    cases h
  | succ n ih =>
    intro x1 x2 x3 s0 r h
    exact t_X7_spareOf_14 (f_X7_spareOf_14  n) ih x1 x2 x3 s0 r h
def f_X7_spareOf  (s0 : SS) : Option (Int × SS) :=
  bn (f_X7_findsWays s0) fun s1 =>
  bn (f_X7_linesWithout 0 s1) fun y1 =>
  f_X7_spareOf_14  FU y1 0 0 s1
set_option maxHeartbeats 4000000 in
theorem t_X7_spareOf_0  : ∀ (s0 : SS) (r : (Int × SS)), f_X7_spareOf s0 = some r → AW LM M_X7_spareOf (some (vI r.1), r.2) 0 [some (vR (some 0)), none, none, none, none] [] s0 := by
  intro s0 r h
  unfold f_X7_spareOf at h
  refine aw_aload_n dX7_spareOf_0 rfl rfl ?_
  obtain ⟨s1, hg1, h⟩ := bn_e h
  refine aw_V0v (M2 := M_X7_findsWays) dX7_spareOf_1 lk_X7_243 mk_X7_findsWays mv_X7_findsWays ⟨by decide, by decide⟩ pM_0 ⟨_, _, rfl⟩ (Nat.le_of_ble_eq_true rfl) (c_X7_findsWays  hg1) ?_
  refine aw_aload_n dX7_spareOf_4 rfl rfl ?_
  refine aw_iconst dX7_spareOf_5 ⟨by decide, by decide⟩ ?_
  obtain ⟨y1, hg2, h⟩ := bn_e h
  refine aw_V1i (M2 := M_X7_linesWithout) dX7_spareOf_6 lk_X7_267 mk_X7_linesWithout mv_X7_linesWithout ⟨by decide, by decide⟩ pM_0 ⟨_, _, rfl⟩ (Nat.le_of_ble_eq_true rfl) (c_X7_linesWithout  hg2) ?_
  refine aw_istore_nA dX7_spareOf_9 rfl (by decide) rfl ?_
  show AW _ _ _ 10 [some (vR (some 0)), some (vI y1), none, none, none] _ _
  refine aw_iconst dX7_spareOf_10 ⟨by decide, by decide⟩ ?_
  refine aw_istore_nA dX7_spareOf_11 rfl (by decide) rfl ?_
  show AW _ _ _ 12 [some (vR (some 0)), some (vI y1), some (vI 0), none, none] _ _
  refine aw_iconst dX7_spareOf_12 ⟨by decide, by decide⟩ ?_
  refine aw_istore_nA dX7_spareOf_13 rfl (by decide) rfl ?_
  show AW _ _ _ 14 [some (vR (some 0)), some (vI y1), some (vI 0), some (vI 0), none] _ _
  exact (s_X7_spareOf_14   FU y1 0 0 s1 _ h)
theorem c_X7_spareOf {s0 : SS} {y : Int} {s1 : SS} (h : f_X7_spareOf s0 = some (y, s1)) : CT LM M_X7_spareOf [vR (some 0)] s0 (some (vI y), s1) :=
  ct_of (n := 4) (by decide) (Nat.le_of_ble_eq_true rfl) (t_X7_spareOf_0  s0  _ h)
def f_X7_spare  (s0 : SS) : Option (Int × SS) :=
  cb (f_X7_spareOf s0) fun y1 s1 =>
  some (y1, s1)
set_option maxHeartbeats 4000000 in
theorem t_X7_spare_0  : ∀ (s0 : SS) (r : (Int × SS)), f_X7_spare s0 = some r → AW LM M_X7_spare (some (vI r.1), r.2) 0 [some (vR (some 0))] [] s0 := by
  intro s0 r h
  unfold f_X7_spare at h
  refine aw_aload_n dX7_spare_0 rfl rfl ?_
  obtain ⟨y1, s1, hg1, h⟩ := cb_e h
  refine aw_V0i (M2 := M_X7_spareOf) dX7_spare_1 lk_X7_273 mk_X7_spareOf mv_X7_spareOf ⟨by decide, by decide⟩ pM_0 ⟨_, _, rfl⟩ (Nat.le_of_ble_eq_true rfl) (c_X7_spareOf  hg1) ?_
  obtain rfl := Option.some.inj h
  exact aw_iret dX7_spare_4 rfl
theorem c_X7_spare {s0 : SS} {y : Int} {s1 : SS} (h : f_X7_spare s0 = some (y, s1)) : CT LM M_X7_spare [vR (some 0)] s0 (some (vI y), s1) :=
  ct_of (n := 0) (by decide) (Nat.le_of_ble_eq_true rfl) (t_X7_spare_0  s0  _ h)
def g_X7_sheet_22  (s0 : SS) : Option (Int × SS) :=
  some ((-2), s0)
set_option maxHeartbeats 4000000 in
theorem t_X7_sheet_22  : ∀ (s0 : SS) (r : (Int × SS)), g_X7_sheet_22 s0 = some r → AW LM M_X7_sheet (some (vI r.1), r.2) 22 [none, none, none, none, none] [] s0 := by
  intro s0 r h
  unfold g_X7_sheet_22 at h
  refine aw_bipush dX7_sheet_22 ⟨by decide, by decide⟩ (by decide) ?_
  obtain rfl := Option.some.inj h
  exact aw_iret dX7_sheet_24 rfl
def g_X7_sheet_85 (x3 : Int) (s0 : SS) : Option (Int × SS) :=
  some (x3, s0)
set_option maxHeartbeats 4000000 in
theorem t_X7_sheet_85  : ∀ (x3 : Int) (s0 : SS) (r : (Int × SS)), g_X7_sheet_85 x3 s0 = some r → AW LM M_X7_sheet (some (vI r.1), r.2) 85 [none, none, none, some (vI x3), none] [] s0 := by
  intro x3 s0 r h
  unfold g_X7_sheet_85 at h
  refine aw_iload_n dX7_sheet_85 rfl rfl ?_
  obtain rfl := Option.some.inj h
  exact aw_iret dX7_sheet_86 rfl
def g_X7_sheet_59 (k59 : Int → Int → Int → SS → Option (Int × SS)) (x1 : Int) (x3 : Int) (x4 : Int) (s0 : SS) : Option (Int × SS) :=
  if 60 ≤ x4 then (
    g_X7_sheet_85  x3 s0
  ) else (
    gx (wr ((wr (60 * x1)) + x4)) 240 <|
    sb (up s0 19 (wr ((wr (60 * x1)) + x4)).toNat 0) fun s1 =>
    sb (wr (x4 + 1)) fun y1 =>
    k59 x1 x3 y1 s1
  )
set_option maxHeartbeats 4000000 in
theorem t_X7_sheet_59 (k59 : Int → Int → Int → SS → Option (Int × SS)) (hk59 : ∀ (x1 : Int) (x3 : Int) (x4 : Int) (s0 : SS) (r : (Int × SS)), k59 x1 x3 x4 s0 = some r → AW LM M_X7_sheet (some (vI r.1), r.2) 59 [some (vR (some 0)), some (vI x1), none, some (vI x3), some (vI x4)] [] s0) : ∀ (x1 : Int) (x3 : Int) (x4 : Int) (s0 : SS) (r : (Int × SS)), g_X7_sheet_59 k59 x1 x3 x4 s0 = some r → AW LM M_X7_sheet (some (vI r.1), r.2) 59 [some (vR (some 0)), some (vI x1), none, some (vI x3), some (vI x4)] [] s0 := by
  intro x1 x3 x4 s0 r h
  unfold g_X7_sheet_59 at h
  refine aw_iload dX7_sheet_59 rfl ?_
  refine aw_bipush dX7_sheet_61 ⟨by decide, by decide⟩ (by decide) ?_
  refine aw_icmp_ge (tgt := 85) dX7_sheet_63 (by decide) (fun hc => ?_) (fun hc => ?_)
  · replace h := ip hc h
    exact aw_less (ls' := [none, none, none, some (vI x3), none]) (⟨rfl, trivial⟩) (t_X7_sheet_85   x3 s0 _ h)
  · replace h := ic hc h
    refine aw_aload_n dX7_sheet_66 rfl rfl ?_
    refine aw_getR (t := 19) dX7_sheet_67 fk_X7_69 pM_0 rfl ?_
    refine aw_bipush dX7_sheet_70 ⟨by decide, by decide⟩ (by decide) ?_
    refine aw_iload_n dX7_sheet_72 rfl rfl ?_
    refine aw_imul dX7_sheet_73 ?_
    refine aw_iload dX7_sheet_74 rfl ?_
    refine aw_iadd dX7_sheet_76 ?_
    refine aw_iconst dX7_sheet_77 ⟨by decide, by decide⟩ ?_
    obtain ⟨hg1, h⟩ := gx_e h
    refine aw_iast dX7_sheet_78 aM_19 hg1 (fun s1 e => ?_)
    replace h := sb_e h e
    clear e
    refine aw_iinc dX7_sheet_79 rfl (by decide) rfl (fun y1 e => ?_)
    replace h := sb_e h e
    clear e
    show AW _ _ _ 82 [some (vR (some 0)), some (vI x1), none, some (vI x3), some (vI y1)] _ _
    refine aw_goto (tgt := 59) dX7_sheet_82 (by decide) ?_
    exact (hk59 x1 x3 y1 s1 _ h)
def f_X7_sheet_59 : Nat → Int → Int → Int → SS → Option (Int × SS)
  | 0 => fun _ _ _ _ => none
  | n + 1 => g_X7_sheet_59 (f_X7_sheet_59  n)
theorem s_X7_sheet_59  : ∀ (n : Nat), ∀ (x1 : Int) (x3 : Int) (x4 : Int) (s0 : SS) (r : (Int × SS)), f_X7_sheet_59 n x1 x3 x4 s0 = some r → AW LM M_X7_sheet (some (vI r.1), r.2) 59 [some (vR (some 0)), some (vI x1), none, some (vI x3), some (vI x4)] [] s0 := by
  intro n
  induction n with
  | zero =>
    intro x1 x3 x4 s0 r h
    cases h
  | succ n ih =>
    intro x1 x3 x4 s0 r h
    exact t_X7_sheet_59 (f_X7_sheet_59  n) ih x1 x3 x4 s0 r h
def f_X7_sheet (x1 : Int) (x2 : Int) (x3 : Int) (s0 : SS) : Option (Int × SS) :=
  bn (f_X7_isSheet x1) fun y1 =>
  if y1 = 0 then (
    g_X7_sheet_22  s0
  ) else (
    bn (f_X7_in x2 0 2) fun y2 =>
    if y2 = 0 then (
      g_X7_sheet_22  s0
    ) else (
      if x3 ≤ 60 then (
        if 0 ≤ x3 then (
          gx x1 4 <|
          sb (up s0 16 x1.toNat 1) fun s1 =>
          gx x1 4 <|
          sb (up s1 17 x1.toNat x2) fun s2 =>
          gx x1 4 <|
          sb (up s2 18 x1.toNat x3) fun s3 =>
          f_X7_sheet_59  FU x1 x3 0 s3
        ) else (
          cb (f_X7_meets 5 s0) fun y3 s4 =>
          some (y3, s4)
        )
      ) else (
        g_X7_sheet_22  s0
      )
    )
  )
set_option maxHeartbeats 4000000 in
theorem t_X7_sheet_0  : ∀ (x1 : Int) (x2 : Int) (x3 : Int) (s0 : SS) (r : (Int × SS)), f_X7_sheet x1 x2 x3 s0 = some r → AW LM M_X7_sheet (some (vI r.1), r.2) 0 [some (vR (some 0)), some (vI x1), some (vI x2), some (vI x3), none] [] s0 := by
  intro x1 x2 x3 s0 r h
  unfold f_X7_sheet at h
  refine aw_iload_n dX7_sheet_0 rfl rfl ?_
  obtain ⟨y1, hg1, h⟩ := bn_e h
  refine aw_S1i (M2 := M_X7_isSheet) dX7_sheet_1 lk_X7_82 mk_X7_isSheet ms_X7_isSheet ⟨by decide, by decide⟩ (Nat.le_of_ble_eq_true rfl) (c_X7_isSheet  hg1) ?_
  refine aw_if_eq (tgt := 22) dX7_sheet_4 (by decide) (fun hc => ?_) (fun hc => ?_)
  · replace h := ip hc h
    exact aw_less (ls' := [none, none, none, none, none]) (trivial) (t_X7_sheet_22   s0 _ h)
  · replace h := ic hc h
    refine aw_iload_n dX7_sheet_7 rfl rfl ?_
    refine aw_iconst dX7_sheet_8 ⟨by decide, by decide⟩ ?_
    refine aw_iconst dX7_sheet_9 ⟨by decide, by decide⟩ ?_
    obtain ⟨y2, hg2, h⟩ := bn_e h
    refine aw_S3i (M2 := M_X7_in) dX7_sheet_10 lk_X7_75 mk_X7_in ms_X7_in ⟨by decide, by decide⟩ (Nat.le_of_ble_eq_true rfl) (c_X7_in  hg2) ?_
    refine aw_if_eq (tgt := 22) dX7_sheet_13 (by decide) (fun hc => ?_) (fun hc => ?_)
    · replace h := ip hc h
      exact aw_less (ls' := [none, none, none, none, none]) (trivial) (t_X7_sheet_22   s0 _ h)
    · replace h := ic hc h
      refine aw_iload_n dX7_sheet_16 rfl rfl ?_
      refine aw_bipush dX7_sheet_17 ⟨by decide, by decide⟩ (by decide) ?_
      refine aw_icmp_le (tgt := 25) dX7_sheet_19 (by decide) (fun hc => ?_) (fun hc => ?_)
      · replace h := ip hc h
        refine aw_iload_n dX7_sheet_25 rfl rfl ?_
        refine aw_if_ge (tgt := 35) dX7_sheet_26 (by decide) (fun hc => ?_) (fun hc => ?_)
        · replace h := ip hc h
          refine aw_aload_n dX7_sheet_35 rfl rfl ?_
          refine aw_getR (t := 16) dX7_sheet_36 fk_X7_59 pM_0 rfl ?_
          refine aw_iload_n dX7_sheet_39 rfl rfl ?_
          refine aw_iconst dX7_sheet_40 ⟨by decide, by decide⟩ ?_
          obtain ⟨hg3, h⟩ := gx_e h
          refine aw_zast dX7_sheet_41 aM_16 hg3 (by decide) (fun s1 e => ?_)
          replace h := sb_e h e
          clear e
          refine aw_aload_n dX7_sheet_42 rfl rfl ?_
          refine aw_getR (t := 17) dX7_sheet_43 fk_X7_63 pM_0 rfl ?_
          refine aw_iload_n dX7_sheet_46 rfl rfl ?_
          refine aw_iload_n dX7_sheet_47 rfl rfl ?_
          obtain ⟨hg4, h⟩ := gx_e h
          refine aw_iast dX7_sheet_48 aM_17 hg4 (fun s2 e => ?_)
          replace h := sb_e h e
          clear e
          refine aw_aload_n dX7_sheet_49 rfl rfl ?_
          refine aw_getR (t := 18) dX7_sheet_50 fk_X7_66 pM_0 rfl ?_
          refine aw_iload_n dX7_sheet_53 rfl rfl ?_
          refine aw_iload_n dX7_sheet_54 rfl rfl ?_
          obtain ⟨hg5, h⟩ := gx_e h
          refine aw_iast dX7_sheet_55 aM_18 hg5 (fun s3 e => ?_)
          replace h := sb_e h e
          clear e
          refine aw_iconst dX7_sheet_56 ⟨by decide, by decide⟩ ?_
          refine aw_istoreA dX7_sheet_57 (by decide) rfl ?_
          show AW _ _ _ 59 [some (vR (some 0)), some (vI x1), some (vI x2), some (vI x3), some (vI 0)] _ _
          exact aw_less (ls' := [some (vR (some 0)), some (vI x1), none, some (vI x3), some (vI 0)]) (⟨rfl, ⟨rfl, ⟨rfl, ⟨rfl, trivial⟩⟩⟩⟩) (s_X7_sheet_59   FU x1 x3 0 s3 _ h)
        · replace h := ic hc h
          refine aw_aload_n dX7_sheet_29 rfl rfl ?_
          refine aw_iconst dX7_sheet_30 ⟨by decide, by decide⟩ ?_
          obtain ⟨y3, s4, hg6, h⟩ := cb_e h
          refine aw_V1i (M2 := M_X7_meets) dX7_sheet_31 lk_X7_86 mk_X7_meets mv_X7_meets ⟨by decide, by decide⟩ pM_0 ⟨_, _, rfl⟩ (Nat.le_of_ble_eq_true rfl) (c_X7_meets  hg6) ?_
          obtain rfl := Option.some.inj h
          exact aw_iret dX7_sheet_34 rfl
      · replace h := ic hc h
        exact aw_less (ls' := [none, none, none, none, none]) (trivial) (t_X7_sheet_22   s0 _ h)
theorem c_X7_sheet {x1 : Int} {x2 : Int} {x3 : Int} {s0 : SS} {y : Int} {s1 : SS} (h : f_X7_sheet x1 x2 x3 s0 = some (y, s1)) : CT LM M_X7_sheet [vR (some 0), vI x1, vI x2, vI x3] s0 (some (vI y), s1) :=
  ct_of (n := 1) (by decide) (Nat.le_of_ble_eq_true rfl) (t_X7_sheet_0 x1 x2 x3 s0  _ h)
def f_X7_lose (x1 : Int) (s0 : SS) : Option (Int × SS) :=
  bn (f_X7_isSheet x1) fun y1 =>
  if y1 = 0 then (
    some ((-2), s0)
  ) else (
    gx x1 4 <|
    if (s0 16 x1.toNat) = 0 then (
      cb (f_X7_meets 1 s0) fun y2 s1 =>
      some (y2, s1)
    ) else (
      gx x1 4 <|
      sb (up s0 16 x1.toNat 0) fun s2 =>
      gx x1 4 <|
      some (s2 18 x1.toNat, s2)
    )
  )
set_option maxHeartbeats 4000000 in
theorem t_X7_lose_0  : ∀ (x1 : Int) (s0 : SS) (r : (Int × SS)), f_X7_lose x1 s0 = some r → AW LM M_X7_lose (some (vI r.1), r.2) 0 [some (vR (some 0)), some (vI x1)] [] s0 := by
  intro x1 s0 r h
  unfold f_X7_lose at h
  refine aw_iload_n dX7_lose_0 rfl rfl ?_
  obtain ⟨y1, hg1, h⟩ := bn_e h
  refine aw_S1i (M2 := M_X7_isSheet) dX7_lose_1 lk_X7_82 mk_X7_isSheet ms_X7_isSheet ⟨by decide, by decide⟩ (Nat.le_of_ble_eq_true rfl) (c_X7_isSheet  hg1) ?_
  refine aw_if_ne (tgt := 10) dX7_lose_4 (by decide) (fun hc => ?_) (fun hc => ?_)
  rotate_left
  · replace h := ip hc h
    refine aw_bipush dX7_lose_7 ⟨by decide, by decide⟩ (by decide) ?_
    obtain rfl := Option.some.inj h
    exact aw_iret dX7_lose_9 rfl
  · replace h := ic hc h
    refine aw_aload_n dX7_lose_10 rfl rfl ?_
    refine aw_getR (t := 16) dX7_lose_11 fk_X7_59 pM_0 rfl ?_
    refine aw_iload_n dX7_lose_14 rfl rfl ?_
    obtain ⟨hg2, h⟩ := gx_e h
    refine aw_zald dX7_lose_15 aM_16 hg2 ?_
    refine aw_if_ne (tgt := 25) dX7_lose_16 (by decide) (fun hc => ?_) (fun hc => ?_)
    rotate_left
    · replace h := ip hc h
      refine aw_aload_n dX7_lose_19 rfl rfl ?_
      refine aw_iconst dX7_lose_20 ⟨by decide, by decide⟩ ?_
      obtain ⟨y2, s1, hg3, h⟩ := cb_e h
      refine aw_V1i (M2 := M_X7_meets) dX7_lose_21 lk_X7_86 mk_X7_meets mv_X7_meets ⟨by decide, by decide⟩ pM_0 ⟨_, _, rfl⟩ (Nat.le_of_ble_eq_true rfl) (c_X7_meets  hg3) ?_
      obtain rfl := Option.some.inj h
      exact aw_iret dX7_lose_24 rfl
    · replace h := ic hc h
      refine aw_aload_n dX7_lose_25 rfl rfl ?_
      refine aw_getR (t := 16) dX7_lose_26 fk_X7_59 pM_0 rfl ?_
      refine aw_iload_n dX7_lose_29 rfl rfl ?_
      refine aw_iconst dX7_lose_30 ⟨by decide, by decide⟩ ?_
      obtain ⟨hg4, h⟩ := gx_e h
      refine aw_zast dX7_lose_31 aM_16 hg4 (by decide) (fun s2 e => ?_)
      replace h := sb_e h e
      clear e
      refine aw_aload_n dX7_lose_32 rfl rfl ?_
      refine aw_getR (t := 18) dX7_lose_33 fk_X7_66 pM_0 rfl ?_
      refine aw_iload_n dX7_lose_36 rfl rfl ?_
      obtain ⟨hg5, h⟩ := gx_e h
      refine aw_iald dX7_lose_37 aM_18 hg5 ?_
      obtain rfl := Option.some.inj h
      exact aw_iret dX7_lose_38 rfl
theorem c_X7_lose {x1 : Int} {s0 : SS} {y : Int} {s1 : SS} (h : f_X7_lose x1 s0 = some (y, s1)) : CT LM M_X7_lose [vR (some 0), vI x1] s0 (some (vI y), s1) :=
  ct_of (n := 0) (by decide) (Nat.le_of_ble_eq_true rfl) (t_X7_lose_0 x1 s0  _ h)
def g_X7_lacks_48 (z0 : Int) (s0 : SS) : Option Int :=
  some z0
set_option maxHeartbeats 4000000 in
theorem t_X7_lacks_48  : ∀ (z0 : Int) (s0 : SS) (r : Int), g_X7_lacks_48 z0 s0 = some r → AW LM M_X7_lacks (some (vI r), s0) 48 [none, none, none, none] [vI z0] s0 := by
  intro z0 s0 r h
  unfold g_X7_lacks_48 at h
  obtain rfl := Option.some.inj h
  exact aw_iret dX7_lacks_48 rfl
def f_X7_lacks (x1 : Int) (x2 : Int) (x3 : Int) (s0 : SS) : Option Int :=
  gx x1 4 <|
  if (s0 16 x1.toNat) = 0 then (
    g_X7_lacks_48  1 s0
  ) else (
    gx x1 4 <|
    if (s0 17 x1.toNat) = x2 then (
      gx x1 4 <|
      bn (f_X7_in x3 0 (wr ((s0 18 x1.toNat) - 1))) fun y1 =>
      if y1 = 0 then (
        g_X7_lacks_48  2 s0
      ) else (
        g_X7_lacks_48  0 s0
      )
    ) else (
      g_X7_lacks_48  3 s0
    )
  )
set_option maxHeartbeats 4000000 in
theorem t_X7_lacks_0  : ∀ (x1 : Int) (x2 : Int) (x3 : Int) (s0 : SS) (r : Int), f_X7_lacks x1 x2 x3 s0 = some r → AW LM M_X7_lacks (some (vI r), s0) 0 [some (vR (some 0)), some (vI x1), some (vI x2), some (vI x3)] [] s0 := by
  intro x1 x2 x3 s0 r h
  unfold f_X7_lacks at h
  refine aw_aload_n dX7_lacks_0 rfl rfl ?_
  refine aw_getR (t := 16) dX7_lacks_1 fk_X7_59 pM_0 rfl ?_
  refine aw_iload_n dX7_lacks_4 rfl rfl ?_
  obtain ⟨hg1, h⟩ := gx_e h
  refine aw_zald dX7_lacks_5 aM_16 hg1 ?_
  refine aw_if_ne (tgt := 13) dX7_lacks_6 (by decide) (fun hc => ?_) (fun hc => ?_)
  rotate_left
  · replace h := ip hc h
    refine aw_iconst dX7_lacks_9 ⟨by decide, by decide⟩ ?_
    refine aw_goto (tgt := 48) dX7_lacks_10 (by decide) ?_
    exact aw_less (ls' := [none, none, none, none]) (trivial) (t_X7_lacks_48   1 s0 _ h)
  · replace h := ic hc h
    refine aw_aload_n dX7_lacks_13 rfl rfl ?_
    refine aw_getR (t := 17) dX7_lacks_14 fk_X7_63 pM_0 rfl ?_
    refine aw_iload_n dX7_lacks_17 rfl rfl ?_
    obtain ⟨hg2, h⟩ := gx_e h
    refine aw_iald dX7_lacks_18 aM_17 hg2 ?_
    refine aw_iload_n dX7_lacks_19 rfl rfl ?_
    refine aw_icmp_eq (tgt := 27) dX7_lacks_20 (by decide) (fun hc => ?_) (fun hc => ?_)
    · replace h := ip hc h
      refine aw_iload_n dX7_lacks_27 rfl rfl ?_
      refine aw_iconst dX7_lacks_28 ⟨by decide, by decide⟩ ?_
      refine aw_aload_n dX7_lacks_29 rfl rfl ?_
      refine aw_getR (t := 18) dX7_lacks_30 fk_X7_66 pM_0 rfl ?_
      refine aw_iload_n dX7_lacks_33 rfl rfl ?_
      obtain ⟨hg3, h⟩ := gx_e h
      refine aw_iald dX7_lacks_34 aM_18 hg3 ?_
      refine aw_iconst dX7_lacks_35 ⟨by decide, by decide⟩ ?_
      refine aw_isub dX7_lacks_36 ?_
      obtain ⟨y1, hg4, h⟩ := bn_e h
      refine aw_S3i (M2 := M_X7_in) dX7_lacks_37 lk_X7_75 mk_X7_in ms_X7_in ⟨by decide, by decide⟩ (Nat.le_of_ble_eq_true rfl) (c_X7_in  hg4) ?_
      refine aw_if_eq (tgt := 47) dX7_lacks_40 (by decide) (fun hc => ?_) (fun hc => ?_)
      · replace h := ip hc h
        refine aw_iconst dX7_lacks_47 ⟨by decide, by decide⟩ ?_
        exact aw_less (ls' := [none, none, none, none]) (trivial) (t_X7_lacks_48   2 s0 _ h)
      · replace h := ic hc h
        refine aw_iconst dX7_lacks_43 ⟨by decide, by decide⟩ ?_
        refine aw_goto (tgt := 48) dX7_lacks_44 (by decide) ?_
        exact aw_less (ls' := [none, none, none, none]) (trivial) (t_X7_lacks_48   0 s0 _ h)
    · replace h := ic hc h
      refine aw_iconst dX7_lacks_23 ⟨by decide, by decide⟩ ?_
      refine aw_goto (tgt := 48) dX7_lacks_24 (by decide) ?_
      exact aw_less (ls' := [none, none, none, none]) (trivial) (t_X7_lacks_48   3 s0 _ h)
theorem c_X7_lacks {x1 : Int} {x2 : Int} {x3 : Int} {s0 : SS} {y : Int} (h : f_X7_lacks x1 x2 x3 s0 = some y) : CT LM M_X7_lacks [vR (some 0), vI x1, vI x2, vI x3] s0 (some (vI y), s0) :=
  ct_of (n := 0) (by decide) (Nat.le_of_ble_eq_true rfl) (t_X7_lacks_0 x1 x2 x3 s0  _ h)
def g_X7_keep_40 (z0 : Int) (z1 : Int) (s0 : SS) : Option SS :=
  gx z1 240 <|
  sb (up s0 19 z1.toNat z0) fun s1 =>
  some s1
set_option maxHeartbeats 4000000 in
theorem t_X7_keep_40  : ∀ (z0 : Int) (z1 : Int) (s0 : SS) (r : SS), g_X7_keep_40 z0 z1 s0 = some r → AW LM M_X7_keep (none, r) 40 [none, none, none, none] [vI z0, vI z1, vR (some 19)] s0 := by
  intro z0 z1 s0 r h
  unfold g_X7_keep_40 at h
  obtain ⟨hg1, h⟩ := gx_e h
  refine aw_iast dX7_keep_40 aM_19 hg1 (fun s1 e => ?_)
  replace h := sb_e h e
  clear e
  obtain rfl := Option.some.inj h
  exact aw_vret dX7_keep_41 rfl
def f_X7_keep (x1 : Int) (x2 : Int) (x3 : Int) (s0 : SS) : Option SS :=
  gx x1 4 <|
  if (s0 17 x1.toNat) = 0 then (
    g_X7_keep_40  (i_b x3) (wr ((wr (60 * x1)) + x2)) s0
  ) else (
    gx x1 4 <|
    if (s0 17 x1.toNat) = 1 then (
      g_X7_keep_40  (i_s x3) (wr ((wr (60 * x1)) + x2)) s0
    ) else (
      g_X7_keep_40  x3 (wr ((wr (60 * x1)) + x2)) s0
    )
  )
set_option maxHeartbeats 4000000 in
theorem t_X7_keep_0  : ∀ (x1 : Int) (x2 : Int) (x3 : Int) (s0 : SS) (r : SS), f_X7_keep x1 x2 x3 s0 = some r → AW LM M_X7_keep (none, r) 0 [some (vR (some 0)), some (vI x1), some (vI x2), some (vI x3)] [] s0 := by
  intro x1 x2 x3 s0 r h
  unfold f_X7_keep at h
  refine aw_aload_n dX7_keep_0 rfl rfl ?_
  refine aw_getR (t := 19) dX7_keep_1 fk_X7_69 pM_0 rfl ?_
  refine aw_bipush dX7_keep_4 ⟨by decide, by decide⟩ (by decide) ?_
  refine aw_iload_n dX7_keep_6 rfl rfl ?_
  refine aw_imul dX7_keep_7 ?_
  refine aw_iload_n dX7_keep_8 rfl rfl ?_
  refine aw_iadd dX7_keep_9 ?_
  refine aw_aload_n dX7_keep_10 rfl rfl ?_
  refine aw_getR (t := 17) dX7_keep_11 fk_X7_63 pM_0 rfl ?_
  refine aw_iload_n dX7_keep_14 rfl rfl ?_
  obtain ⟨hg1, h⟩ := gx_e h
  refine aw_iald dX7_keep_15 aM_17 hg1 ?_
  refine aw_if_ne (tgt := 24) dX7_keep_16 (by decide) (fun hc => ?_) (fun hc => ?_)
  rotate_left
  · replace h := ip hc h
    refine aw_iload_n dX7_keep_19 rfl rfl ?_
    refine aw_i2b dX7_keep_20 ?_
    refine aw_goto (tgt := 40) dX7_keep_21 (by decide) ?_
    exact aw_less (ls' := [none, none, none, none]) (trivial) (t_X7_keep_40   (i_b x3) (wr ((wr (60 * x1)) + x2)) s0 _ h)
  · replace h := ic hc h
    refine aw_aload_n dX7_keep_24 rfl rfl ?_
    refine aw_getR (t := 17) dX7_keep_25 fk_X7_63 pM_0 rfl ?_
    refine aw_iload_n dX7_keep_28 rfl rfl ?_
    obtain ⟨hg2, h⟩ := gx_e h
    refine aw_iald dX7_keep_29 aM_17 hg2 ?_
    refine aw_iconst dX7_keep_30 ⟨by decide, by decide⟩ ?_
    refine aw_icmp_ne (tgt := 39) dX7_keep_31 (by decide) (fun hc => ?_) (fun hc => ?_)
    rotate_left
    · replace h := ip hc h
      refine aw_iload_n dX7_keep_34 rfl rfl ?_
      refine aw_i2s dX7_keep_35 ?_
      refine aw_goto (tgt := 40) dX7_keep_36 (by decide) ?_
      exact aw_less (ls' := [none, none, none, none]) (trivial) (t_X7_keep_40   (i_s x3) (wr ((wr (60 * x1)) + x2)) s0 _ h)
    · replace h := ic hc h
      refine aw_iload_n dX7_keep_39 rfl rfl ?_
      exact aw_less (ls' := [none, none, none, none]) (trivial) (t_X7_keep_40   x3 (wr ((wr (60 * x1)) + x2)) s0 _ h)
theorem c_X7_keep {x1 : Int} {x2 : Int} {x3 : Int} {s0 : SS} {s1 : SS} (h : f_X7_keep x1 x2 x3 s0 = some s1) : CT LM M_X7_keep [vR (some 0), vI x1, vI x2, vI x3] s0 (none, s1) :=
  ct_of (n := 0) (by decide) (Nat.le_of_ble_eq_true rfl) (t_X7_keep_0 x1 x2 x3 s0  _ h)
def g_X7_put_16  (s0 : SS) : Option (Int × SS) :=
  some ((-2), s0)
set_option maxHeartbeats 4000000 in
theorem t_X7_put_16  : ∀ (s0 : SS) (r : (Int × SS)), g_X7_put_16 s0 = some r → AW LM M_X7_put (some (vI r.1), r.2) 16 [none, none, none, none, none, none] [] s0 := by
  intro s0 r h
  unfold g_X7_put_16 at h
  refine aw_bipush dX7_put_16 ⟨by decide, by decide⟩ (by decide) ?_
  obtain rfl := Option.some.inj h
  exact aw_iret dX7_put_18 rfl
def f_X7_put (x1 : Int) (x2 : Int) (x3 : Int) (x4 : Int) (s0 : SS) : Option (Int × SS) :=
  bn (f_X7_isSheet x1) fun y1 =>
  if y1 = 0 then (
    g_X7_put_16  s0
  ) else (
    bn (f_X7_in x2 0 2) fun y2 =>
    if y2 = 0 then (
      g_X7_put_16  s0
    ) else (
      bn (f_X7_lacks x1 x2 x3 s0) fun y3 =>
      if y3 ≤ 0 then (
        bn (f_X7_keep x1 x3 x4 s0) fun s1 =>
        some (1, s1)
      ) else (
        cb (f_X7_meets y3 s0) fun y4 s2 =>
        some (y4, s2)
      )
    )
  )
set_option maxHeartbeats 4000000 in
theorem t_X7_put_0  : ∀ (x1 : Int) (x2 : Int) (x3 : Int) (x4 : Int) (s0 : SS) (r : (Int × SS)), f_X7_put x1 x2 x3 x4 s0 = some r → AW LM M_X7_put (some (vI r.1), r.2) 0 [some (vR (some 0)), some (vI x1), some (vI x2), some (vI x3), some (vI x4), none] [] s0 := by
  intro x1 x2 x3 x4 s0 r h
  unfold f_X7_put at h
  refine aw_iload_n dX7_put_0 rfl rfl ?_
  obtain ⟨y1, hg1, h⟩ := bn_e h
  refine aw_S1i (M2 := M_X7_isSheet) dX7_put_1 lk_X7_82 mk_X7_isSheet ms_X7_isSheet ⟨by decide, by decide⟩ (Nat.le_of_ble_eq_true rfl) (c_X7_isSheet  hg1) ?_
  refine aw_if_eq (tgt := 16) dX7_put_4 (by decide) (fun hc => ?_) (fun hc => ?_)
  · replace h := ip hc h
    exact aw_less (ls' := [none, none, none, none, none, none]) (trivial) (t_X7_put_16   s0 _ h)
  · replace h := ic hc h
    refine aw_iload_n dX7_put_7 rfl rfl ?_
    refine aw_iconst dX7_put_8 ⟨by decide, by decide⟩ ?_
    refine aw_iconst dX7_put_9 ⟨by decide, by decide⟩ ?_
    obtain ⟨y2, hg2, h⟩ := bn_e h
    refine aw_S3i (M2 := M_X7_in) dX7_put_10 lk_X7_75 mk_X7_in ms_X7_in ⟨by decide, by decide⟩ (Nat.le_of_ble_eq_true rfl) (c_X7_in  hg2) ?_
    refine aw_if_ne (tgt := 19) dX7_put_13 (by decide) (fun hc => ?_) (fun hc => ?_)
    rotate_left
    · replace h := ip hc h
      exact aw_less (ls' := [none, none, none, none, none, none]) (trivial) (t_X7_put_16   s0 _ h)
    · replace h := ic hc h
      refine aw_aload_n dX7_put_19 rfl rfl ?_
      refine aw_iload_n dX7_put_20 rfl rfl ?_
      refine aw_iload_n dX7_put_21 rfl rfl ?_
      refine aw_iload_n dX7_put_22 rfl rfl ?_
      obtain ⟨y3, hg3, h⟩ := bn_e h
      refine aw_V3i (M2 := M_X7_lacks) dX7_put_23 lk_X7_279 mk_X7_lacks mv_X7_lacks ⟨by decide, by decide⟩ pM_0 ⟨_, _, rfl⟩ (Nat.le_of_ble_eq_true rfl) (c_X7_lacks  hg3) ?_
      refine aw_istoreA dX7_put_26 (by decide) rfl ?_
      show AW _ _ _ 28 [some (vR (some 0)), some (vI x1), some (vI x2), some (vI x3), some (vI x4), some (vI y3)] _ _
      refine aw_iload dX7_put_28 rfl ?_
      refine aw_if_le (tgt := 40) dX7_put_30 (by decide) (fun hc => ?_) (fun hc => ?_)
      · replace h := ip hc h
        refine aw_aload_n dX7_put_40 rfl rfl ?_
        refine aw_iload_n dX7_put_41 rfl rfl ?_
        refine aw_iload_n dX7_put_42 rfl rfl ?_
        refine aw_iload dX7_put_43 rfl ?_
        obtain ⟨s1, hg4, h⟩ := bn_e h
        refine aw_V3v (M2 := M_X7_keep) dX7_put_45 lk_X7_282 mk_X7_keep mv_X7_keep ⟨by decide, by decide⟩ pM_0 ⟨_, _, rfl⟩ (Nat.le_of_ble_eq_true rfl) (c_X7_keep  hg4) ?_
        refine aw_iconst dX7_put_48 ⟨by decide, by decide⟩ ?_
        obtain rfl := Option.some.inj h
        exact aw_iret dX7_put_49 rfl
      · replace h := ic hc h
        refine aw_aload_n dX7_put_33 rfl rfl ?_
        refine aw_iload dX7_put_34 rfl ?_
        obtain ⟨y4, s2, hg5, h⟩ := cb_e h
        refine aw_V1i (M2 := M_X7_meets) dX7_put_36 lk_X7_86 mk_X7_meets mv_X7_meets ⟨by decide, by decide⟩ pM_0 ⟨_, _, rfl⟩ (Nat.le_of_ble_eq_true rfl) (c_X7_meets  hg5) ?_
        obtain rfl := Option.some.inj h
        exact aw_iret dX7_put_39 rfl
theorem c_X7_put {x1 : Int} {x2 : Int} {x3 : Int} {x4 : Int} {s0 : SS} {y : Int} {s1 : SS} (h : f_X7_put x1 x2 x3 x4 s0 = some (y, s1)) : CT LM M_X7_put [vR (some 0), vI x1, vI x2, vI x3, vI x4] s0 (some (vI y), s1) :=
  ct_of (n := 1) (by decide) (Nat.le_of_ble_eq_true rfl) (t_X7_put_0 x1 x2 x3 x4 s0  _ h)
def g_X7_get_16  (s0 : SS) : Option (Int × SS) :=
  some ((-2147483648), s0)
set_option maxHeartbeats 4000000 in
theorem t_X7_get_16  : ∀ (s0 : SS) (r : (Int × SS)), g_X7_get_16 s0 = some r → AW LM M_X7_get (some (vI r.1), r.2) 16 [none, none, none, none, none] [] s0 := by
  intro s0 r h
  unfold g_X7_get_16 at h
  refine aw_ldcw (n := (-2147483648)) dX7_get_16 cn_X7_285 ⟨by decide, by decide⟩ (by decide) ?_
  obtain rfl := Option.some.inj h
  exact aw_iret dX7_get_19 rfl
def f_X7_get (x1 : Int) (x2 : Int) (x3 : Int) (s0 : SS) : Option (Int × SS) :=
  bn (f_X7_isSheet x1) fun y1 =>
  if y1 = 0 then (
    g_X7_get_16  s0
  ) else (
    bn (f_X7_in x2 0 2) fun y2 =>
    if y2 = 0 then (
      g_X7_get_16  s0
    ) else (
      bn (f_X7_lacks x1 x2 x3 s0) fun y3 =>
      if y3 ≤ 0 then (
        gx (wr ((wr (60 * x1)) + x3)) 240 <|
        some (s0 19 (wr ((wr (60 * x1)) + x3)).toNat, s0)
      ) else (
        sb (up s0 0 30 y3) fun s1 =>
        some ((-2147483648), s1)
      )
    )
  )
set_option maxHeartbeats 4000000 in
theorem t_X7_get_0  : ∀ (x1 : Int) (x2 : Int) (x3 : Int) (s0 : SS) (r : (Int × SS)), f_X7_get x1 x2 x3 s0 = some r → AW LM M_X7_get (some (vI r.1), r.2) 0 [some (vR (some 0)), some (vI x1), some (vI x2), some (vI x3), none] [] s0 := by
  intro x1 x2 x3 s0 r h
  unfold f_X7_get at h
  refine aw_iload_n dX7_get_0 rfl rfl ?_
  obtain ⟨y1, hg1, h⟩ := bn_e h
  refine aw_S1i (M2 := M_X7_isSheet) dX7_get_1 lk_X7_82 mk_X7_isSheet ms_X7_isSheet ⟨by decide, by decide⟩ (Nat.le_of_ble_eq_true rfl) (c_X7_isSheet  hg1) ?_
  refine aw_if_eq (tgt := 16) dX7_get_4 (by decide) (fun hc => ?_) (fun hc => ?_)
  · replace h := ip hc h
    exact aw_less (ls' := [none, none, none, none, none]) (trivial) (t_X7_get_16   s0 _ h)
  · replace h := ic hc h
    refine aw_iload_n dX7_get_7 rfl rfl ?_
    refine aw_iconst dX7_get_8 ⟨by decide, by decide⟩ ?_
    refine aw_iconst dX7_get_9 ⟨by decide, by decide⟩ ?_
    obtain ⟨y2, hg2, h⟩ := bn_e h
    refine aw_S3i (M2 := M_X7_in) dX7_get_10 lk_X7_75 mk_X7_in ms_X7_in ⟨by decide, by decide⟩ (Nat.le_of_ble_eq_true rfl) (c_X7_in  hg2) ?_
    refine aw_if_ne (tgt := 20) dX7_get_13 (by decide) (fun hc => ?_) (fun hc => ?_)
    rotate_left
    · replace h := ip hc h
      exact aw_less (ls' := [none, none, none, none, none]) (trivial) (t_X7_get_16   s0 _ h)
    · replace h := ic hc h
      refine aw_aload_n dX7_get_20 rfl rfl ?_
      refine aw_iload_n dX7_get_21 rfl rfl ?_
      refine aw_iload_n dX7_get_22 rfl rfl ?_
      refine aw_iload_n dX7_get_23 rfl rfl ?_
      obtain ⟨y3, hg3, h⟩ := bn_e h
      refine aw_V3i (M2 := M_X7_lacks) dX7_get_24 lk_X7_279 mk_X7_lacks mv_X7_lacks ⟨by decide, by decide⟩ pM_0 ⟨_, _, rfl⟩ (Nat.le_of_ble_eq_true rfl) (c_X7_lacks  hg3) ?_
      refine aw_istoreA dX7_get_27 (by decide) rfl ?_
      show AW _ _ _ 29 [some (vR (some 0)), some (vI x1), some (vI x2), some (vI x3), some (vI y3)] _ _
      refine aw_iload dX7_get_29 rfl ?_
      refine aw_if_le (tgt := 44) dX7_get_31 (by decide) (fun hc => ?_) (fun hc => ?_)
      · replace h := ip hc h
        refine aw_aload_n dX7_get_44 rfl rfl ?_
        refine aw_getR (t := 19) dX7_get_45 fk_X7_69 pM_0 rfl ?_
        refine aw_bipush dX7_get_48 ⟨by decide, by decide⟩ (by decide) ?_
        refine aw_iload_n dX7_get_50 rfl rfl ?_
        refine aw_imul dX7_get_51 ?_
        refine aw_iload_n dX7_get_52 rfl rfl ?_
        refine aw_iadd dX7_get_53 ?_
        obtain ⟨hg4, h⟩ := gx_e h
        refine aw_iald dX7_get_54 aM_19 hg4 ?_
        obtain rfl := Option.some.inj h
        exact aw_iret dX7_get_55 rfl
      · replace h := ic hc h
        refine aw_aload_n dX7_get_34 rfl rfl ?_
        refine aw_iload dX7_get_35 rfl ?_
        refine aw_put dX7_get_37 fk_X7_276 pM_0 rfl ft_7_30 (nar_int _) (fun s1 e => ?_)
        replace h := sb_e h e
        clear e
        refine aw_ldcw (n := (-2147483648)) dX7_get_40 cn_X7_285 ⟨by decide, by decide⟩ (by decide) ?_
        obtain rfl := Option.some.inj h
        exact aw_iret dX7_get_43 rfl
theorem c_X7_get {x1 : Int} {x2 : Int} {x3 : Int} {s0 : SS} {y : Int} {s1 : SS} (h : f_X7_get x1 x2 x3 s0 = some (y, s1)) : CT LM M_X7_get [vR (some 0), vI x1, vI x2, vI x3] s0 (some (vI y), s1) :=
  ct_of (n := 1) (by decide) (Nat.le_of_ble_eq_true rfl) (t_X7_get_0 x1 x2 x3 s0  _ h)
def g_X7_copy_14  (s0 : SS) : Option (Int × SS) :=
  some ((-2), s0)
set_option maxHeartbeats 4000000 in
theorem t_X7_copy_14  : ∀ (s0 : SS) (r : (Int × SS)), g_X7_copy_14 s0 = some r → AW LM M_X7_copy (some (vI r.1), r.2) 14 [none, none, none, none, none, none, none] [] s0 := by
  intro s0 r h
  unfold g_X7_copy_14 at h
  refine aw_bipush dX7_copy_14 ⟨by decide, by decide⟩ (by decide) ?_
  obtain rfl := Option.some.inj h
  exact aw_iret dX7_copy_16 rfl
def g_X7_copy_35  (s0 : SS) : Option (Int × SS) :=
  cb (f_X7_meets 1 s0) fun y1 s1 =>
  some (y1, s1)
set_option maxHeartbeats 4000000 in
theorem t_X7_copy_35  : ∀ (s0 : SS) (r : (Int × SS)), g_X7_copy_35 s0 = some r → AW LM M_X7_copy (some (vI r.1), r.2) 35 [some (vR (some 0)), none, none, none, none, none, none] [] s0 := by
  intro s0 r h
  unfold g_X7_copy_35 at h
  refine aw_aload_n dX7_copy_35 rfl rfl ?_
  refine aw_iconst dX7_copy_36 ⟨by decide, by decide⟩ ?_
  obtain ⟨y1, s1, hg1, h⟩ := cb_e h
  refine aw_V1i (M2 := M_X7_meets) dX7_copy_37 lk_X7_86 mk_X7_meets mv_X7_meets ⟨by decide, by decide⟩ pM_0 ⟨_, _, rfl⟩ (Nat.le_of_ble_eq_true rfl) (c_X7_meets  hg1) ?_
  obtain rfl := Option.some.inj h
  exact aw_iret dX7_copy_40 rfl
def g_X7_copy_111  (s0 : SS) : Option (Int × SS) :=
  cb (f_X7_meets 2 s0) fun y1 s1 =>
  some (y1, s1)
set_option maxHeartbeats 4000000 in
theorem t_X7_copy_111  : ∀ (s0 : SS) (r : (Int × SS)), g_X7_copy_111 s0 = some r → AW LM M_X7_copy (some (vI r.1), r.2) 111 [some (vR (some 0)), none, none, none, none, none, none] [] s0 := by
  intro s0 r h
  unfold g_X7_copy_111 at h
  refine aw_aload_n dX7_copy_111 rfl rfl ?_
  refine aw_iconst dX7_copy_112 ⟨by decide, by decide⟩ ?_
  obtain ⟨y1, s1, hg1, h⟩ := cb_e h
  refine aw_V1i (M2 := M_X7_meets) dX7_copy_113 lk_X7_86 mk_X7_meets mv_X7_meets ⟨by decide, by decide⟩ pM_0 ⟨_, _, rfl⟩ (Nat.le_of_ble_eq_true rfl) (c_X7_meets  hg1) ?_
  obtain rfl := Option.some.inj h
  exact aw_iret dX7_copy_116 rfl
def g_X7_copy_192  (s0 : SS) : Option (Int × SS) :=
  some (1, s0)
set_option maxHeartbeats 4000000 in
theorem t_X7_copy_192  : ∀ (s0 : SS) (r : (Int × SS)), g_X7_copy_192 s0 = some r → AW LM M_X7_copy (some (vI r.1), r.2) 192 [none, none, none, none, none, none, none] [] s0 := by
  intro s0 r h
  unfold g_X7_copy_192 at h
  refine aw_iconst dX7_copy_192 ⟨by decide, by decide⟩ ?_
  obtain rfl := Option.some.inj h
  exact aw_iret dX7_copy_193 rfl
def g_X7_copy_157 (k157 : Int → Int → Int → Int → SS → Option (Int × SS)) (x3 : Int) (x4 : Int) (x5 : Int) (x6 : Int) (s0 : SS) : Option (Int × SS) :=
  if x5 ≤ x6 then (
    g_X7_copy_192  s0
  ) else (
    gx x6 60 <|
    gx (wr ((wr ((wr (60 * x3)) + x4)) + x6)) 240 <|
    sb (up s0 19 (wr ((wr ((wr (60 * x3)) + x4)) + x6)).toNat (s0 20 x6.toNat)) fun s1 =>
    sb (wr (x6 + 1)) fun y1 =>
    k157 x3 x4 x5 y1 s1
  )
set_option maxHeartbeats 4000000 in
theorem t_X7_copy_157 (k157 : Int → Int → Int → Int → SS → Option (Int × SS)) (hk157 : ∀ (x3 : Int) (x4 : Int) (x5 : Int) (x6 : Int) (s0 : SS) (r : (Int × SS)), k157 x3 x4 x5 x6 s0 = some r → AW LM M_X7_copy (some (vI r.1), r.2) 157 [some (vR (some 0)), none, none, some (vI x3), some (vI x4), some (vI x5), some (vI x6)] [] s0) : ∀ (x3 : Int) (x4 : Int) (x5 : Int) (x6 : Int) (s0 : SS) (r : (Int × SS)), g_X7_copy_157 k157 x3 x4 x5 x6 s0 = some r → AW LM M_X7_copy (some (vI r.1), r.2) 157 [some (vR (some 0)), none, none, some (vI x3), some (vI x4), some (vI x5), some (vI x6)] [] s0 := by
  intro x3 x4 x5 x6 s0 r h
  unfold g_X7_copy_157 at h
  refine aw_iload dX7_copy_157 rfl ?_
  refine aw_iload dX7_copy_159 rfl ?_
  refine aw_icmp_ge (tgt := 192) dX7_copy_161 (by decide) (fun hc => ?_) (fun hc => ?_)
  · replace h := ip hc h
    exact aw_less (ls' := [none, none, none, none, none, none, none]) (trivial) (t_X7_copy_192   s0 _ h)
  · replace h := ic hc h
    refine aw_aload_n dX7_copy_164 rfl rfl ?_
    refine aw_getR (t := 19) dX7_copy_165 fk_X7_69 pM_0 rfl ?_
    refine aw_bipush dX7_copy_168 ⟨by decide, by decide⟩ (by decide) ?_
    refine aw_iload_n dX7_copy_170 rfl rfl ?_
    refine aw_imul dX7_copy_171 ?_
    refine aw_iload dX7_copy_172 rfl ?_
    refine aw_iadd dX7_copy_174 ?_
    refine aw_iload dX7_copy_175 rfl ?_
    refine aw_iadd dX7_copy_177 ?_
    refine aw_aload_n dX7_copy_178 rfl rfl ?_
    refine aw_getR (t := 20) dX7_copy_179 fk_X7_72 pM_0 rfl ?_
    refine aw_iload dX7_copy_182 rfl ?_
    obtain ⟨hg1, h⟩ := gx_e h
    refine aw_iald dX7_copy_184 aM_20 hg1 ?_
    obtain ⟨hg2, h⟩ := gx_e h
    refine aw_iast dX7_copy_185 aM_19 hg2 (fun s1 e => ?_)
    replace h := sb_e h e
    clear e
    refine aw_iinc dX7_copy_186 rfl (by decide) rfl (fun y1 e => ?_)
    replace h := sb_e h e
    clear e
    show AW _ _ _ 189 [some (vR (some 0)), none, none, some (vI x3), some (vI x4), some (vI x5), some (vI y1)] _ _
    refine aw_goto (tgt := 157) dX7_copy_189 (by decide) ?_
    exact (hk157 x3 x4 x5 y1 s1 _ h)
def f_X7_copy_157 : Nat → Int → Int → Int → Int → SS → Option (Int × SS)
  | 0 => fun _ _ _ _ _ => none
  | n + 1 => g_X7_copy_157 (f_X7_copy_157  n)
theorem s_X7_copy_157  : ∀ (n : Nat), ∀ (x3 : Int) (x4 : Int) (x5 : Int) (x6 : Int) (s0 : SS) (r : (Int × SS)), f_X7_copy_157 n x3 x4 x5 x6 s0 = some r → AW LM M_X7_copy (some (vI r.1), r.2) 157 [some (vR (some 0)), none, none, some (vI x3), some (vI x4), some (vI x5), some (vI x6)] [] s0 := by
  intro n
  induction n with
  | zero =>
    intro x3 x4 x5 x6 s0 r h
    cases h
  | succ n ih =>
    intro x3 x4 x5 x6 s0 r h
    exact t_X7_copy_157 (f_X7_copy_157  n) ih x3 x4 x5 x6 s0 r h
def g_X7_copy_154 (x3 : Int) (x4 : Int) (x5 : Int) (s0 : SS) : Option (Int × SS) :=
  f_X7_copy_157  FU x3 x4 x5 0 s0
set_option maxHeartbeats 4000000 in
theorem t_X7_copy_154  : ∀ (x3 : Int) (x4 : Int) (x5 : Int) (s0 : SS) (r : (Int × SS)), g_X7_copy_154 x3 x4 x5 s0 = some r → AW LM M_X7_copy (some (vI r.1), r.2) 154 [some (vR (some 0)), none, none, some (vI x3), some (vI x4), some (vI x5), none] [] s0 := by
  intro x3 x4 x5 s0 r h
  unfold g_X7_copy_154 at h
  refine aw_iconst dX7_copy_154 ⟨by decide, by decide⟩ ?_
  refine aw_istoreA dX7_copy_155 (by decide) rfl ?_
  show AW _ _ _ 157 [some (vR (some 0)), none, none, some (vI x3), some (vI x4), some (vI x5), some (vI 0)] _ _
  exact (s_X7_copy_157   FU x3 x4 x5 0 s0 _ h)
def g_X7_copy_120 (k120 : Int → Int → Int → Int → Int → Int → SS → Option (Int × SS)) (x1 : Int) (x2 : Int) (x3 : Int) (x4 : Int) (x5 : Int) (x6 : Int) (s0 : SS) : Option (Int × SS) :=
  if x5 ≤ x6 then (
    g_X7_copy_154  x3 x4 x5 s0
  ) else (
    gx (wr ((wr ((wr (60 * x1)) + x2)) + x6)) 240 <|
    gx x6 60 <|
    sb (up s0 20 x6.toNat (s0 19 (wr ((wr ((wr (60 * x1)) + x2)) + x6)).toNat)) fun s1 =>
    sb (wr (x6 + 1)) fun y1 =>
    k120 x1 x2 x3 x4 x5 y1 s1
  )
set_option maxHeartbeats 4000000 in
theorem t_X7_copy_120 (k120 : Int → Int → Int → Int → Int → Int → SS → Option (Int × SS)) (hk120 : ∀ (x1 : Int) (x2 : Int) (x3 : Int) (x4 : Int) (x5 : Int) (x6 : Int) (s0 : SS) (r : (Int × SS)), k120 x1 x2 x3 x4 x5 x6 s0 = some r → AW LM M_X7_copy (some (vI r.1), r.2) 120 [some (vR (some 0)), some (vI x1), some (vI x2), some (vI x3), some (vI x4), some (vI x5), some (vI x6)] [] s0) : ∀ (x1 : Int) (x2 : Int) (x3 : Int) (x4 : Int) (x5 : Int) (x6 : Int) (s0 : SS) (r : (Int × SS)), g_X7_copy_120 k120 x1 x2 x3 x4 x5 x6 s0 = some r → AW LM M_X7_copy (some (vI r.1), r.2) 120 [some (vR (some 0)), some (vI x1), some (vI x2), some (vI x3), some (vI x4), some (vI x5), some (vI x6)] [] s0 := by
  intro x1 x2 x3 x4 x5 x6 s0 r h
  unfold g_X7_copy_120 at h
  refine aw_iload dX7_copy_120 rfl ?_
  refine aw_iload dX7_copy_122 rfl ?_
  refine aw_icmp_ge (tgt := 154) dX7_copy_124 (by decide) (fun hc => ?_) (fun hc => ?_)
  · replace h := ip hc h
    exact aw_less (ls' := [some (vR (some 0)), none, none, some (vI x3), some (vI x4), some (vI x5), none]) (⟨rfl, ⟨rfl, ⟨rfl, ⟨rfl, trivial⟩⟩⟩⟩) (t_X7_copy_154   x3 x4 x5 s0 _ h)
  · replace h := ic hc h
    refine aw_aload_n dX7_copy_127 rfl rfl ?_
    refine aw_getR (t := 20) dX7_copy_128 fk_X7_72 pM_0 rfl ?_
    refine aw_iload dX7_copy_131 rfl ?_
    refine aw_aload_n dX7_copy_133 rfl rfl ?_
    refine aw_getR (t := 19) dX7_copy_134 fk_X7_69 pM_0 rfl ?_
    refine aw_bipush dX7_copy_137 ⟨by decide, by decide⟩ (by decide) ?_
    refine aw_iload_n dX7_copy_139 rfl rfl ?_
    refine aw_imul dX7_copy_140 ?_
    refine aw_iload_n dX7_copy_141 rfl rfl ?_
    refine aw_iadd dX7_copy_142 ?_
    refine aw_iload dX7_copy_143 rfl ?_
    refine aw_iadd dX7_copy_145 ?_
    obtain ⟨hg1, h⟩ := gx_e h
    refine aw_iald dX7_copy_146 aM_19 hg1 ?_
    obtain ⟨hg2, h⟩ := gx_e h
    refine aw_iast dX7_copy_147 aM_20 hg2 (fun s1 e => ?_)
    replace h := sb_e h e
    clear e
    refine aw_iinc dX7_copy_148 rfl (by decide) rfl (fun y1 e => ?_)
    replace h := sb_e h e
    clear e
    show AW _ _ _ 151 [some (vR (some 0)), some (vI x1), some (vI x2), some (vI x3), some (vI x4), some (vI x5), some (vI y1)] _ _
    refine aw_goto (tgt := 120) dX7_copy_151 (by decide) ?_
    exact (hk120 x1 x2 x3 x4 x5 y1 s1 _ h)
def f_X7_copy_120 : Nat → Int → Int → Int → Int → Int → Int → SS → Option (Int × SS)
  | 0 => fun _ _ _ _ _ _ _ => none
  | n + 1 => g_X7_copy_120 (f_X7_copy_120  n)
theorem s_X7_copy_120  : ∀ (n : Nat), ∀ (x1 : Int) (x2 : Int) (x3 : Int) (x4 : Int) (x5 : Int) (x6 : Int) (s0 : SS) (r : (Int × SS)), f_X7_copy_120 n x1 x2 x3 x4 x5 x6 s0 = some r → AW LM M_X7_copy (some (vI r.1), r.2) 120 [some (vR (some 0)), some (vI x1), some (vI x2), some (vI x3), some (vI x4), some (vI x5), some (vI x6)] [] s0 := by
  intro n
  induction n with
  | zero =>
    intro x1 x2 x3 x4 x5 x6 s0 r h
    cases h
  | succ n ih =>
    intro x1 x2 x3 x4 x5 x6 s0 r h
    exact t_X7_copy_120 (f_X7_copy_120  n) ih x1 x2 x3 x4 x5 x6 s0 r h
def f_X7_copy (x1 : Int) (x2 : Int) (x3 : Int) (x4 : Int) (x5 : Int) (s0 : SS) : Option (Int × SS) :=
  bn (f_X7_isSheet x1) fun y1 =>
  if y1 = 0 then (
    g_X7_copy_14  s0
  ) else (
    bn (f_X7_isSheet x3) fun y2 =>
    if y2 = 0 then (
      g_X7_copy_14  s0
    ) else (
      gx x1 4 <|
      if (s0 16 x1.toNat) = 0 then (
        g_X7_copy_35  s0
      ) else (
        gx x3 4 <|
        if (s0 16 x3.toNat) = 0 then (
          g_X7_copy_35  s0
        ) else (
          gx x1 4 <|
          gx x3 4 <|
          if (s0 17 x1.toNat) = (s0 17 x3.toNat) then (
            if x2 < 0 then (
              g_X7_copy_111  s0
            ) else (
              if x4 < 0 then (
                g_X7_copy_111  s0
              ) else (
                if x5 < 0 then (
                  g_X7_copy_111  s0
                ) else (
                  gx x1 4 <|
                  if 0 < (l_cmp (wl (x2 + x5)) (s0 18 x1.toNat)) then (
                    g_X7_copy_111  s0
                  ) else (
                    gx x3 4 <|
                    if (l_cmp (wl (x4 + x5)) (s0 18 x3.toNat)) ≤ 0 then (
                      f_X7_copy_120  FU x1 x2 x3 x4 x5 0 s0
                    ) else (
                      g_X7_copy_111  s0
                    )
                  )
                )
              )
            )
          ) else (
            cb (f_X7_meets 4 s0) fun y3 s1 =>
            some (y3, s1)
          )
        )
      )
    )
  )
set_option maxHeartbeats 4000000 in
theorem t_X7_copy_0  : ∀ (x1 : Int) (x2 : Int) (x3 : Int) (x4 : Int) (x5 : Int) (s0 : SS) (r : (Int × SS)), f_X7_copy x1 x2 x3 x4 x5 s0 = some r → AW LM M_X7_copy (some (vI r.1), r.2) 0 [some (vR (some 0)), some (vI x1), some (vI x2), some (vI x3), some (vI x4), some (vI x5), none] [] s0 := by
  intro x1 x2 x3 x4 x5 s0 r h
  unfold f_X7_copy at h
  refine aw_iload_n dX7_copy_0 rfl rfl ?_
  obtain ⟨y1, hg1, h⟩ := bn_e h
  refine aw_S1i (M2 := M_X7_isSheet) dX7_copy_1 lk_X7_82 mk_X7_isSheet ms_X7_isSheet ⟨by decide, by decide⟩ (Nat.le_of_ble_eq_true rfl) (c_X7_isSheet  hg1) ?_
  refine aw_if_eq (tgt := 14) dX7_copy_4 (by decide) (fun hc => ?_) (fun hc => ?_)
  · replace h := ip hc h
    exact aw_less (ls' := [none, none, none, none, none, none, none]) (trivial) (t_X7_copy_14   s0 _ h)
  · replace h := ic hc h
    refine aw_iload_n dX7_copy_7 rfl rfl ?_
    obtain ⟨y2, hg2, h⟩ := bn_e h
    refine aw_S1i (M2 := M_X7_isSheet) dX7_copy_8 lk_X7_82 mk_X7_isSheet ms_X7_isSheet ⟨by decide, by decide⟩ (Nat.le_of_ble_eq_true rfl) (c_X7_isSheet  hg2) ?_
    refine aw_if_ne (tgt := 17) dX7_copy_11 (by decide) (fun hc => ?_) (fun hc => ?_)
    rotate_left
    · replace h := ip hc h
      exact aw_less (ls' := [none, none, none, none, none, none, none]) (trivial) (t_X7_copy_14   s0 _ h)
    · replace h := ic hc h
      refine aw_aload_n dX7_copy_17 rfl rfl ?_
      refine aw_getR (t := 16) dX7_copy_18 fk_X7_59 pM_0 rfl ?_
      refine aw_iload_n dX7_copy_21 rfl rfl ?_
      obtain ⟨hg3, h⟩ := gx_e h
      refine aw_zald dX7_copy_22 aM_16 hg3 ?_
      refine aw_if_eq (tgt := 35) dX7_copy_23 (by decide) (fun hc => ?_) (fun hc => ?_)
      · replace h := ip hc h
        exact aw_less (ls' := [some (vR (some 0)), none, none, none, none, none, none]) (⟨rfl, trivial⟩) (t_X7_copy_35   s0 _ h)
      · replace h := ic hc h
        refine aw_aload_n dX7_copy_26 rfl rfl ?_
        refine aw_getR (t := 16) dX7_copy_27 fk_X7_59 pM_0 rfl ?_
        refine aw_iload_n dX7_copy_30 rfl rfl ?_
        obtain ⟨hg4, h⟩ := gx_e h
        refine aw_zald dX7_copy_31 aM_16 hg4 ?_
        refine aw_if_ne (tgt := 41) dX7_copy_32 (by decide) (fun hc => ?_) (fun hc => ?_)
        rotate_left
        · replace h := ip hc h
          exact aw_less (ls' := [some (vR (some 0)), none, none, none, none, none, none]) (⟨rfl, trivial⟩) (t_X7_copy_35   s0 _ h)
        · replace h := ic hc h
          refine aw_aload_n dX7_copy_41 rfl rfl ?_
          refine aw_getR (t := 17) dX7_copy_42 fk_X7_63 pM_0 rfl ?_
          refine aw_iload_n dX7_copy_45 rfl rfl ?_
          obtain ⟨hg5, h⟩ := gx_e h
          refine aw_iald dX7_copy_46 aM_17 hg5 ?_
          refine aw_aload_n dX7_copy_47 rfl rfl ?_
          refine aw_getR (t := 17) dX7_copy_48 fk_X7_63 pM_0 rfl ?_
          refine aw_iload_n dX7_copy_51 rfl rfl ?_
          obtain ⟨hg6, h⟩ := gx_e h
          refine aw_iald dX7_copy_52 aM_17 hg6 ?_
          refine aw_icmp_eq (tgt := 62) dX7_copy_53 (by decide) (fun hc => ?_) (fun hc => ?_)
          · replace h := ip hc h
            refine aw_iload_n dX7_copy_62 rfl rfl ?_
            refine aw_if_lt (tgt := 111) dX7_copy_63 (by decide) (fun hc => ?_) (fun hc => ?_)
            · replace h := ip hc h
              exact aw_less (ls' := [some (vR (some 0)), none, none, none, none, none, none]) (⟨rfl, trivial⟩) (t_X7_copy_111   s0 _ h)
            · replace h := ic hc h
              refine aw_iload dX7_copy_66 rfl ?_
              refine aw_if_lt (tgt := 111) dX7_copy_68 (by decide) (fun hc => ?_) (fun hc => ?_)
              · replace h := ip hc h
                exact aw_less (ls' := [some (vR (some 0)), none, none, none, none, none, none]) (⟨rfl, trivial⟩) (t_X7_copy_111   s0 _ h)
              · replace h := ic hc h
                refine aw_iload dX7_copy_71 rfl ?_
                refine aw_if_lt (tgt := 111) dX7_copy_73 (by decide) (fun hc => ?_) (fun hc => ?_)
                · replace h := ip hc h
                  exact aw_less (ls' := [some (vR (some 0)), none, none, none, none, none, none]) (⟨rfl, trivial⟩) (t_X7_copy_111   s0 _ h)
                · replace h := ic hc h
                  refine aw_iload_n dX7_copy_76 rfl rfl ?_
                  refine aw_i2l dX7_copy_77 ?_
                  refine aw_iload dX7_copy_78 rfl ?_
                  refine aw_i2l dX7_copy_80 ?_
                  refine aw_ladd dX7_copy_81 ?_
                  refine aw_aload_n dX7_copy_82 rfl rfl ?_
                  refine aw_getR (t := 18) dX7_copy_83 fk_X7_66 pM_0 rfl ?_
                  refine aw_iload_n dX7_copy_86 rfl rfl ?_
                  obtain ⟨hg7, h⟩ := gx_e h
                  refine aw_iald dX7_copy_87 aM_18 hg7 ?_
                  refine aw_i2l dX7_copy_88 ?_
                  refine aw_lcmp dX7_copy_89 ?_
                  refine aw_if_gt (tgt := 111) dX7_copy_90 (by decide) (fun hc => ?_) (fun hc => ?_)
                  · replace h := ip hc h
                    exact aw_less (ls' := [some (vR (some 0)), none, none, none, none, none, none]) (⟨rfl, trivial⟩) (t_X7_copy_111   s0 _ h)
                  · replace h := ic hc h
                    refine aw_iload dX7_copy_93 rfl ?_
                    refine aw_i2l dX7_copy_95 ?_
                    refine aw_iload dX7_copy_96 rfl ?_
                    refine aw_i2l dX7_copy_98 ?_
                    refine aw_ladd dX7_copy_99 ?_
                    refine aw_aload_n dX7_copy_100 rfl rfl ?_
                    refine aw_getR (t := 18) dX7_copy_101 fk_X7_66 pM_0 rfl ?_
                    refine aw_iload_n dX7_copy_104 rfl rfl ?_
                    obtain ⟨hg8, h⟩ := gx_e h
                    refine aw_iald dX7_copy_105 aM_18 hg8 ?_
                    refine aw_i2l dX7_copy_106 ?_
                    refine aw_lcmp dX7_copy_107 ?_
                    refine aw_if_le (tgt := 117) dX7_copy_108 (by decide) (fun hc => ?_) (fun hc => ?_)
                    · replace h := ip hc h
                      refine aw_iconst dX7_copy_117 ⟨by decide, by decide⟩ ?_
                      refine aw_istoreA dX7_copy_118 (by decide) rfl ?_
                      show AW _ _ _ 120 [some (vR (some 0)), some (vI x1), some (vI x2), some (vI x3), some (vI x4), some (vI x5), some (vI 0)] _ _
                      exact (s_X7_copy_120   FU x1 x2 x3 x4 x5 0 s0 _ h)
                    · replace h := ic hc h
                      exact aw_less (ls' := [some (vR (some 0)), none, none, none, none, none, none]) (⟨rfl, trivial⟩) (t_X7_copy_111   s0 _ h)
          · replace h := ic hc h
            refine aw_aload_n dX7_copy_56 rfl rfl ?_
            refine aw_iconst dX7_copy_57 ⟨by decide, by decide⟩ ?_
            obtain ⟨y3, s1, hg9, h⟩ := cb_e h
            refine aw_V1i (M2 := M_X7_meets) dX7_copy_58 lk_X7_86 mk_X7_meets mv_X7_meets ⟨by decide, by decide⟩ pM_0 ⟨_, _, rfl⟩ (Nat.le_of_ble_eq_true rfl) (c_X7_meets  hg9) ?_
            obtain rfl := Option.some.inj h
            exact aw_iret dX7_copy_61 rfl
theorem c_X7_copy {x1 : Int} {x2 : Int} {x3 : Int} {x4 : Int} {x5 : Int} {s0 : SS} {y : Int} {s1 : SS} (h : f_X7_copy x1 x2 x3 x4 x5 s0 = some (y, s1)) : CT LM M_X7_copy [vR (some 0), vI x1, vI x2, vI x3, vI x4, vI x5] s0 (some (vI y), s1) :=
  ct_of (n := 1) (by decide) (Nat.le_of_ble_eq_true rfl) (t_X7_copy_0 x1 x2 x3 x4 x5 s0  _ h)
def g_X7_write_17  (s0 : SS) : Option (Int × SS) :=
  some ((-2), s0)
set_option maxHeartbeats 4000000 in
theorem t_X7_write_17  : ∀ (s0 : SS) (r : (Int × SS)), g_X7_write_17 s0 = some r → AW LM M_X7_write (some (vI r.1), r.2) 17 [none, none, none, none, none] [] s0 := by
  intro s0 r h
  unfold g_X7_write_17 at h
  refine aw_bipush dX7_write_17 ⟨by decide, by decide⟩ (by decide) ?_
  obtain rfl := Option.some.inj h
  exact aw_iret dX7_write_19 rfl
def g_X7_write_85 (x4 : Int) (s0 : SS) : Option (Int × SS) :=
  some (x4, s0)
set_option maxHeartbeats 4000000 in
theorem t_X7_write_85  : ∀ (x4 : Int) (s0 : SS) (r : (Int × SS)), g_X7_write_85 x4 s0 = some r → AW LM M_X7_write (some (vI r.1), r.2) 85 [none, none, none, none, some (vI x4)] [] s0 := by
  intro x4 s0 r h
  unfold g_X7_write_85 at h
  refine aw_iload dX7_write_85 rfl ?_
  obtain rfl := Option.some.inj h
  exact aw_iret dX7_write_87 rfl
def g_X7_write_48 (k48 : Int → Int → Int → Int → SS → Option (Int × SS)) (x1 : Int) (x2 : Int) (x3 : Int) (x4 : Int) (s0 : SS) : Option (Int × SS) :=
  gx x2 4 <|
  if (s0 18 x2.toNat) ≤ x4 then (
    g_X7_write_85  x4 s0
  ) else (
    if x3 ≤ x4 then (
      g_X7_write_85  x4 s0
    ) else (
      bn (f_X7_byteIn x1 x4 s0) fun y1 =>
      bn (f_X7_keep x2 x4 y1 s0) fun s1 =>
      sb (wr (x4 + 1)) fun y2 =>
      k48 x1 x2 x3 y2 s1
    )
  )
set_option maxHeartbeats 4000000 in
theorem t_X7_write_48 (k48 : Int → Int → Int → Int → SS → Option (Int × SS)) (hk48 : ∀ (x1 : Int) (x2 : Int) (x3 : Int) (x4 : Int) (s0 : SS) (r : (Int × SS)), k48 x1 x2 x3 x4 s0 = some r → AW LM M_X7_write (some (vI r.1), r.2) 48 [some (vR (some 0)), some (vI x1), some (vI x2), some (vI x3), some (vI x4)] [] s0) : ∀ (x1 : Int) (x2 : Int) (x3 : Int) (x4 : Int) (s0 : SS) (r : (Int × SS)), g_X7_write_48 k48 x1 x2 x3 x4 s0 = some r → AW LM M_X7_write (some (vI r.1), r.2) 48 [some (vR (some 0)), some (vI x1), some (vI x2), some (vI x3), some (vI x4)] [] s0 := by
  intro x1 x2 x3 x4 s0 r h
  unfold g_X7_write_48 at h
  refine aw_iload dX7_write_48 rfl ?_
  refine aw_aload_n dX7_write_50 rfl rfl ?_
  refine aw_getR (t := 18) dX7_write_51 fk_X7_66 pM_0 rfl ?_
  refine aw_iload_n dX7_write_54 rfl rfl ?_
  obtain ⟨hg1, h⟩ := gx_e h
  refine aw_iald dX7_write_55 aM_18 hg1 ?_
  refine aw_icmp_ge (tgt := 85) dX7_write_56 (by decide) (fun hc => ?_) (fun hc => ?_)
  · replace h := ip hc h
    exact aw_less (ls' := [none, none, none, none, some (vI x4)]) (⟨rfl, trivial⟩) (t_X7_write_85   x4 s0 _ h)
  · replace h := ic hc h
    refine aw_iload dX7_write_59 rfl ?_
    refine aw_iload_n dX7_write_61 rfl rfl ?_
    refine aw_icmp_ge (tgt := 85) dX7_write_62 (by decide) (fun hc => ?_) (fun hc => ?_)
    · replace h := ip hc h
      exact aw_less (ls' := [none, none, none, none, some (vI x4)]) (⟨rfl, trivial⟩) (t_X7_write_85   x4 s0 _ h)
    · replace h := ic hc h
      refine aw_aload_n dX7_write_65 rfl rfl ?_
      refine aw_iload_n dX7_write_66 rfl rfl ?_
      refine aw_iload dX7_write_67 rfl ?_
      refine aw_aload_n dX7_write_69 rfl rfl ?_
      refine aw_iload_n dX7_write_70 rfl rfl ?_
      refine aw_iload dX7_write_71 rfl ?_
      obtain ⟨y1, hg2, h⟩ := bn_e h
      refine aw_V2i (M2 := M_X7_byteIn) dX7_write_73 lk_X7_234 mk_X7_byteIn mv_X7_byteIn ⟨by decide, by decide⟩ pM_0 ⟨_, _, rfl⟩ (Nat.le_of_ble_eq_true rfl) (c_X7_byteIn  hg2) ?_
      obtain ⟨s1, hg3, h⟩ := bn_e h
      refine aw_V3v (M2 := M_X7_keep) dX7_write_76 lk_X7_282 mk_X7_keep mv_X7_keep ⟨by decide, by decide⟩ pM_0 ⟨_, _, rfl⟩ (Nat.le_of_ble_eq_true rfl) (c_X7_keep  hg3) ?_
      refine aw_iinc dX7_write_79 rfl (by decide) rfl (fun y2 e => ?_)
      replace h := sb_e h e
      clear e
      show AW _ _ _ 82 [some (vR (some 0)), some (vI x1), some (vI x2), some (vI x3), some (vI y2)] _ _
      refine aw_goto (tgt := 48) dX7_write_82 (by decide) ?_
      exact (hk48 x1 x2 x3 y2 s1 _ h)
def f_X7_write_48 : Nat → Int → Int → Int → Int → SS → Option (Int × SS)
  | 0 => fun _ _ _ _ _ => none
  | n + 1 => g_X7_write_48 (f_X7_write_48  n)
theorem s_X7_write_48  : ∀ (n : Nat), ∀ (x1 : Int) (x2 : Int) (x3 : Int) (x4 : Int) (s0 : SS) (r : (Int × SS)), f_X7_write_48 n x1 x2 x3 x4 s0 = some r → AW LM M_X7_write (some (vI r.1), r.2) 48 [some (vR (some 0)), some (vI x1), some (vI x2), some (vI x3), some (vI x4)] [] s0 := by
  intro n
  induction n with
  | zero =>
    intro x1 x2 x3 x4 s0 r h
    cases h
  | succ n ih =>
    intro x1 x2 x3 x4 s0 r h
    exact t_X7_write_48 (f_X7_write_48  n) ih x1 x2 x3 x4 s0 r h
def f_X7_write (x1 : Int) (x2 : Int) (s0 : SS) : Option (Int × SS) :=
  bn (f_X7_in x1 0 99) fun y1 =>
  if y1 = 0 then (
    g_X7_write_17  s0
  ) else (
    bn (f_X7_isSheet x2) fun y2 =>
    if y2 = 0 then (
      g_X7_write_17  s0
    ) else (
      gx x2 4 <|
      if (s0 16 x2.toNat) = 0 then (
        cb (f_X7_meets 1 s0) fun y3 s1 =>
        some (y3, s1)
      ) else (
        bn (f_X7_sets s0) fun s2 =>
        bn (f_X7_columnsIn x1 s2) fun y4 =>
        f_X7_write_48  FU x1 x2 y4 0 s2
      )
    )
  )
set_option maxHeartbeats 4000000 in
theorem t_X7_write_0  : ∀ (x1 : Int) (x2 : Int) (s0 : SS) (r : (Int × SS)), f_X7_write x1 x2 s0 = some r → AW LM M_X7_write (some (vI r.1), r.2) 0 [some (vR (some 0)), some (vI x1), some (vI x2), none, none] [] s0 := by
  intro x1 x2 s0 r h
  unfold f_X7_write at h
  refine aw_iload_n dX7_write_0 rfl rfl ?_
  refine aw_iconst dX7_write_1 ⟨by decide, by decide⟩ ?_
  refine aw_bipush dX7_write_2 ⟨by decide, by decide⟩ (by decide) ?_
  obtain ⟨y1, hg1, h⟩ := bn_e h
  refine aw_S3i (M2 := M_X7_in) dX7_write_4 lk_X7_75 mk_X7_in ms_X7_in ⟨by decide, by decide⟩ (Nat.le_of_ble_eq_true rfl) (c_X7_in  hg1) ?_
  refine aw_if_eq (tgt := 17) dX7_write_7 (by decide) (fun hc => ?_) (fun hc => ?_)
  · replace h := ip hc h
    exact aw_less (ls' := [none, none, none, none, none]) (trivial) (t_X7_write_17   s0 _ h)
  · replace h := ic hc h
    refine aw_iload_n dX7_write_10 rfl rfl ?_
    obtain ⟨y2, hg2, h⟩ := bn_e h
    refine aw_S1i (M2 := M_X7_isSheet) dX7_write_11 lk_X7_82 mk_X7_isSheet ms_X7_isSheet ⟨by decide, by decide⟩ (Nat.le_of_ble_eq_true rfl) (c_X7_isSheet  hg2) ?_
    refine aw_if_ne (tgt := 20) dX7_write_14 (by decide) (fun hc => ?_) (fun hc => ?_)
    rotate_left
    · replace h := ip hc h
      exact aw_less (ls' := [none, none, none, none, none]) (trivial) (t_X7_write_17   s0 _ h)
    · replace h := ic hc h
      refine aw_aload_n dX7_write_20 rfl rfl ?_
      refine aw_getR (t := 16) dX7_write_21 fk_X7_59 pM_0 rfl ?_
      refine aw_iload_n dX7_write_24 rfl rfl ?_
      obtain ⟨hg3, h⟩ := gx_e h
      refine aw_zald dX7_write_25 aM_16 hg3 ?_
      refine aw_if_ne (tgt := 35) dX7_write_26 (by decide) (fun hc => ?_) (fun hc => ?_)
      rotate_left
      · replace h := ip hc h
        refine aw_aload_n dX7_write_29 rfl rfl ?_
        refine aw_iconst dX7_write_30 ⟨by decide, by decide⟩ ?_
        obtain ⟨y3, s1, hg4, h⟩ := cb_e h
        refine aw_V1i (M2 := M_X7_meets) dX7_write_31 lk_X7_86 mk_X7_meets mv_X7_meets ⟨by decide, by decide⟩ pM_0 ⟨_, _, rfl⟩ (Nat.le_of_ble_eq_true rfl) (c_X7_meets  hg4) ?_
        obtain rfl := Option.some.inj h
        exact aw_iret dX7_write_34 rfl
      · replace h := ic hc h
        refine aw_aload_n dX7_write_35 rfl rfl ?_
        obtain ⟨s2, hg5, h⟩ := bn_e h
        refine aw_V0v (M2 := M_X7_sets) dX7_write_36 lk_X7_228 mk_X7_sets mv_X7_sets ⟨by decide, by decide⟩ pM_0 ⟨_, _, rfl⟩ (Nat.le_of_ble_eq_true rfl) (c_X7_sets  hg5) ?_
        refine aw_aload_n dX7_write_39 rfl rfl ?_
        refine aw_iload_n dX7_write_40 rfl rfl ?_
        obtain ⟨y4, hg6, h⟩ := bn_e h
        refine aw_V1i (M2 := M_X7_columnsIn) dX7_write_41 lk_X7_231 mk_X7_columnsIn mv_X7_columnsIn ⟨by decide, by decide⟩ pM_0 ⟨_, _, rfl⟩ (Nat.le_of_ble_eq_true rfl) (c_X7_columnsIn  hg6) ?_
        refine aw_istore_nA dX7_write_44 rfl (by decide) rfl ?_
        show AW _ _ _ 45 [some (vR (some 0)), some (vI x1), some (vI x2), some (vI y4), none] _ _
        refine aw_iconst dX7_write_45 ⟨by decide, by decide⟩ ?_
        refine aw_istoreA dX7_write_46 (by decide) rfl ?_
        show AW _ _ _ 48 [some (vR (some 0)), some (vI x1), some (vI x2), some (vI y4), some (vI 0)] _ _
        exact (s_X7_write_48   FU x1 x2 y4 0 s2 _ h)
theorem c_X7_write {x1 : Int} {x2 : Int} {s0 : SS} {y : Int} {s1 : SS} (h : f_X7_write x1 x2 s0 = some (y, s1)) : CT LM M_X7_write [vR (some 0), vI x1, vI x2] s0 (some (vI y), s1) :=
  ct_of (n := 2) (by decide) (Nat.le_of_ble_eq_true rfl) (t_X7_write_0 x1 x2 s0  _ h)
def f_X7_partsOf  (s0 : SS) : Option (Int × SS) :=
  bn (f_X7_reads s0) fun s1 =>
  some (s1 0 4, s1)
set_option maxHeartbeats 4000000 in
theorem t_X7_partsOf_0  : ∀ (s0 : SS) (r : (Int × SS)), f_X7_partsOf s0 = some r → AW LM M_X7_partsOf (some (vI r.1), r.2) 0 [some (vR (some 0))] [] s0 := by
  intro s0 r h
  unfold f_X7_partsOf at h
  refine aw_aload_n dX7_partsOf_0 rfl rfl ?_
  obtain ⟨s1, hg1, h⟩ := bn_e h
  refine aw_V0v (M2 := M_X7_reads) dX7_partsOf_1 lk_X7_112 mk_X7_reads mv_X7_reads ⟨by decide, by decide⟩ pM_0 ⟨_, _, rfl⟩ (Nat.le_of_ble_eq_true rfl) (c_X7_reads  hg1) ?_
  refine aw_aload_n dX7_partsOf_4 rfl rfl ?_
  refine aw_getI dX7_partsOf_5 fk_X7_93 pM_0 rfl ?_
  obtain rfl := Option.some.inj h
  exact aw_iret dX7_partsOf_8 rfl
theorem c_X7_partsOf {s0 : SS} {y : Int} {s1 : SS} (h : f_X7_partsOf s0 = some (y, s1)) : CT LM M_X7_partsOf [vR (some 0)] s0 (some (vI y), s1) :=
  ct_of (n := 0) (by decide) (Nat.le_of_ble_eq_true rfl) (t_X7_partsOf_0  s0  _ h)
def f_X7_choicesOf  (s0 : SS) : Option (Int × SS) :=
  bn (f_X7_reads s0) fun s1 =>
  some (s1 0 5, s1)
set_option maxHeartbeats 4000000 in
theorem t_X7_choicesOf_0  : ∀ (s0 : SS) (r : (Int × SS)), f_X7_choicesOf s0 = some r → AW LM M_X7_choicesOf (some (vI r.1), r.2) 0 [some (vR (some 0))] [] s0 := by
  intro s0 r h
  unfold f_X7_choicesOf at h
  refine aw_aload_n dX7_choicesOf_0 rfl rfl ?_
  obtain ⟨s1, hg1, h⟩ := bn_e h
  refine aw_V0v (M2 := M_X7_reads) dX7_choicesOf_1 lk_X7_112 mk_X7_reads mv_X7_reads ⟨by decide, by decide⟩ pM_0 ⟨_, _, rfl⟩ (Nat.le_of_ble_eq_true rfl) (c_X7_reads  hg1) ?_
  refine aw_aload_n dX7_choicesOf_4 rfl rfl ?_
  refine aw_getI dX7_choicesOf_5 fk_X7_96 pM_0 rfl ?_
  obtain rfl := Option.some.inj h
  exact aw_iret dX7_choicesOf_8 rfl
theorem c_X7_choicesOf {s0 : SS} {y : Int} {s1 : SS} (h : f_X7_choicesOf s0 = some (y, s1)) : CT LM M_X7_choicesOf [vR (some 0)] s0 (some (vI y), s1) :=
  ct_of (n := 0) (by decide) (Nat.le_of_ble_eq_true rfl) (t_X7_choicesOf_0  s0  _ h)
def g_X7_wholeOf_21 (z0 : Int) (s0 : SS) : Option (Int × SS) :=
  some (z0, s0)
set_option maxHeartbeats 4000000 in
theorem t_X7_wholeOf_21  : ∀ (z0 : Int) (s0 : SS) (r : (Int × SS)), g_X7_wholeOf_21 z0 s0 = some r → AW LM M_X7_wholeOf (some (vI r.1), r.2) 21 [none] [vI z0] s0 := by
  intro z0 s0 r h
  unfold g_X7_wholeOf_21 at h
  obtain rfl := Option.some.inj h
  exact aw_iret dX7_wholeOf_21 rfl
def f_X7_wholeOf  (s0 : SS) : Option (Int × SS) :=
  bn (f_X7_frontsTold s0) fun s1 =>
  if (s1 0 4) = 0 then (
    g_X7_wholeOf_21  0 s1
  ) else (
    gx 0 40 <|
    g_X7_wholeOf_21  (s1 10 (0 : Int).toNat) s1
  )
set_option maxHeartbeats 4000000 in
theorem t_X7_wholeOf_0  : ∀ (s0 : SS) (r : (Int × SS)), f_X7_wholeOf s0 = some r → AW LM M_X7_wholeOf (some (vI r.1), r.2) 0 [some (vR (some 0))] [] s0 := by
  intro s0 r h
  unfold f_X7_wholeOf at h
  refine aw_aload_n dX7_wholeOf_0 rfl rfl ?_
  obtain ⟨s1, hg1, h⟩ := bn_e h
  refine aw_V0v (M2 := M_X7_frontsTold) dX7_wholeOf_1 lk_X7_172 mk_X7_frontsTold mv_X7_frontsTold ⟨by decide, by decide⟩ pM_0 ⟨_, _, rfl⟩ (Nat.le_of_ble_eq_true rfl) (c_X7_frontsTold  hg1) ?_
  refine aw_aload_n dX7_wholeOf_4 rfl rfl ?_
  refine aw_getI dX7_wholeOf_5 fk_X7_93 pM_0 rfl ?_
  refine aw_if_ne (tgt := 15) dX7_wholeOf_8 (by decide) (fun hc => ?_) (fun hc => ?_)
  rotate_left
  · replace h := ip hc h
    refine aw_iconst dX7_wholeOf_11 ⟨by decide, by decide⟩ ?_
    refine aw_goto (tgt := 21) dX7_wholeOf_12 (by decide) ?_
    exact aw_less (ls' := [none]) (trivial) (t_X7_wholeOf_21   0 s1 _ h)
  · replace h := ic hc h
    refine aw_aload_n dX7_wholeOf_15 rfl rfl ?_
    refine aw_getR (t := 10) dX7_wholeOf_16 fk_X7_41 pM_0 rfl ?_
    refine aw_iconst dX7_wholeOf_19 ⟨by decide, by decide⟩ ?_
    obtain ⟨hg2, h⟩ := gx_e h
    refine aw_iald dX7_wholeOf_20 aM_10 hg2 ?_
    exact aw_less (ls' := [none]) (trivial) (t_X7_wholeOf_21   (s1 10 (0 : Int).toNat) s1 _ h)
theorem c_X7_wholeOf {s0 : SS} {y : Int} {s1 : SS} (h : f_X7_wholeOf s0 = some (y, s1)) : CT LM M_X7_wholeOf [vR (some 0)] s0 (some (vI y), s1) :=
  ct_of (n := 0) (by decide) (Nat.le_of_ble_eq_true rfl) (t_X7_wholeOf_0  s0  _ h)
def f_X7_count (x1 : Int) (s0 : SS) : Option (Int × SS) :=
  if x1 = 0 then (
    some (s0 0 0, s0)
  ) else (
  if x1 = 1 then (
    cb (f_X7_partsOf s0) fun y1 s1 =>
    some (y1, s1)
  ) else (
  if x1 = 2 then (
    cb (f_X7_choicesOf s0) fun y2 s2 =>
    some (y2, s2)
  ) else (
  if x1 = 3 then (
    some (s0 0 2, s0)
  ) else (
  if x1 = 4 then (
    cb (f_X7_wholeOf s0) fun y3 s3 =>
    some (y3, s3)
  ) else (
  if x1 = 5 then (
    cb (f_X7_triedOf 0 s0) fun y4 s4 =>
    some (y4, s4)
  ) else (
  if x1 = 6 then (
    cb (f_X7_triedOf 1 s0) fun y5 s5 =>
    some (y5, s5)
  ) else (
  if x1 = 7 then (
    cb (f_X7_bestOf 0 s0) fun y6 s6 =>
    some (y6, s6)
  ) else (
  if x1 = 8 then (
    some (s0 0 30, s0)
  ) else (
    some ((-2), s0)
  )
  )
  )
  )
  )
  )
  )
  )
  )
set_option maxHeartbeats 4000000 in
theorem t_X7_count_0  : ∀ (x1 : Int) (s0 : SS) (r : (Int × SS)), f_X7_count x1 s0 = some r → AW LM M_X7_count (some (vI r.1), r.2) 0 [some (vR (some 0)), some (vI x1)] [] s0 := by
  intro x1 s0 r h
  unfold f_X7_count at h
  refine aw_iload_n dX7_count_0 rfl rfl ?_
  by_cases hc : x1 = 0
  · replace h := ip hc h
    refine aw_tableIn (tgt := 52) dX7_count_1 (by rw [hc]; decide) (by rw [hc]; decide) (by rw [hc]; rfl) (by decide) ?_
    refine aw_aload_n dX7_count_52 rfl rfl ?_
    refine aw_getI dX7_count_53 fk_X7_79 pM_0 rfl ?_
    obtain rfl := Option.some.inj h
    exact aw_iret dX7_count_56 rfl
  replace h := ic hc h
  have hn0 := hc
  clear hc
  by_cases hc : x1 = 1
  · replace h := ip hc h
    refine aw_tableIn (tgt := 57) dX7_count_1 (by rw [hc]; decide) (by rw [hc]; decide) (by rw [hc]; rfl) (by decide) ?_
    refine aw_aload_n dX7_count_57 rfl rfl ?_
    obtain ⟨y1, s1, hg1, h⟩ := cb_e h
    refine aw_V0i (M2 := M_X7_partsOf) dX7_count_58 lk_X7_286 mk_X7_partsOf mv_X7_partsOf ⟨by decide, by decide⟩ pM_0 ⟨_, _, rfl⟩ (Nat.le_of_ble_eq_true rfl) (c_X7_partsOf  hg1) ?_
    obtain rfl := Option.some.inj h
    exact aw_iret dX7_count_61 rfl
  replace h := ic hc h
  have hn1 := hc
  clear hc
  by_cases hc : x1 = 2
  · replace h := ip hc h
    refine aw_tableIn (tgt := 62) dX7_count_1 (by rw [hc]; decide) (by rw [hc]; decide) (by rw [hc]; rfl) (by decide) ?_
    refine aw_aload_n dX7_count_62 rfl rfl ?_
    obtain ⟨y2, s2, hg2, h⟩ := cb_e h
    refine aw_V0i (M2 := M_X7_choicesOf) dX7_count_63 lk_X7_289 mk_X7_choicesOf mv_X7_choicesOf ⟨by decide, by decide⟩ pM_0 ⟨_, _, rfl⟩ (Nat.le_of_ble_eq_true rfl) (c_X7_choicesOf  hg2) ?_
    obtain rfl := Option.some.inj h
    exact aw_iret dX7_count_66 rfl
  replace h := ic hc h
  have hn2 := hc
  clear hc
  by_cases hc : x1 = 3
  · replace h := ip hc h
    refine aw_tableIn (tgt := 67) dX7_count_1 (by rw [hc]; decide) (by rw [hc]; decide) (by rw [hc]; rfl) (by decide) ?_
    refine aw_aload_n dX7_count_67 rfl rfl ?_
    refine aw_getI dX7_count_68 fk_X7_13 pM_0 rfl ?_
    obtain rfl := Option.some.inj h
    exact aw_iret dX7_count_71 rfl
  replace h := ic hc h
  have hn3 := hc
  clear hc
  by_cases hc : x1 = 4
  · replace h := ip hc h
    refine aw_tableIn (tgt := 72) dX7_count_1 (by rw [hc]; decide) (by rw [hc]; decide) (by rw [hc]; rfl) (by decide) ?_
    refine aw_aload_n dX7_count_72 rfl rfl ?_
    obtain ⟨y3, s3, hg3, h⟩ := cb_e h
    refine aw_V0i (M2 := M_X7_wholeOf) dX7_count_73 lk_X7_292 mk_X7_wholeOf mv_X7_wholeOf ⟨by decide, by decide⟩ pM_0 ⟨_, _, rfl⟩ (Nat.le_of_ble_eq_true rfl) (c_X7_wholeOf  hg3) ?_
    obtain rfl := Option.some.inj h
    exact aw_iret dX7_count_76 rfl
  replace h := ic hc h
  have hn4 := hc
  clear hc
  by_cases hc : x1 = 5
  · replace h := ip hc h
    refine aw_tableIn (tgt := 77) dX7_count_1 (by rw [hc]; decide) (by rw [hc]; decide) (by rw [hc]; rfl) (by decide) ?_
    refine aw_aload_n dX7_count_77 rfl rfl ?_
    refine aw_iconst dX7_count_78 ⟨by decide, by decide⟩ ?_
    obtain ⟨y4, s4, hg4, h⟩ := cb_e h
    refine aw_V1i (M2 := M_X7_triedOf) dX7_count_79 lk_X7_190 mk_X7_triedOf mv_X7_triedOf ⟨by decide, by decide⟩ pM_0 ⟨_, _, rfl⟩ (Nat.le_of_ble_eq_true rfl) (c_X7_triedOf  hg4) ?_
    obtain rfl := Option.some.inj h
    exact aw_iret dX7_count_82 rfl
  replace h := ic hc h
  have hn5 := hc
  clear hc
  by_cases hc : x1 = 6
  · replace h := ip hc h
    refine aw_tableIn (tgt := 83) dX7_count_1 (by rw [hc]; decide) (by rw [hc]; decide) (by rw [hc]; rfl) (by decide) ?_
    refine aw_aload_n dX7_count_83 rfl rfl ?_
    refine aw_iconst dX7_count_84 ⟨by decide, by decide⟩ ?_
    obtain ⟨y5, s5, hg5, h⟩ := cb_e h
    refine aw_V1i (M2 := M_X7_triedOf) dX7_count_85 lk_X7_190 mk_X7_triedOf mv_X7_triedOf ⟨by decide, by decide⟩ pM_0 ⟨_, _, rfl⟩ (Nat.le_of_ble_eq_true rfl) (c_X7_triedOf  hg5) ?_
    obtain rfl := Option.some.inj h
    exact aw_iret dX7_count_88 rfl
  replace h := ic hc h
  have hn6 := hc
  clear hc
  by_cases hc : x1 = 7
  · replace h := ip hc h
    refine aw_tableIn (tgt := 89) dX7_count_1 (by rw [hc]; decide) (by rw [hc]; decide) (by rw [hc]; rfl) (by decide) ?_
    refine aw_aload_n dX7_count_89 rfl rfl ?_
    refine aw_iconst dX7_count_90 ⟨by decide, by decide⟩ ?_
    obtain ⟨y6, s6, hg6, h⟩ := cb_e h
    refine aw_V1i (M2 := M_X7_bestOf) dX7_count_91 lk_X7_206 mk_X7_bestOf mv_X7_bestOf ⟨by decide, by decide⟩ pM_0 ⟨_, _, rfl⟩ (Nat.le_of_ble_eq_true rfl) (c_X7_bestOf  hg6) ?_
    obtain rfl := Option.some.inj h
    exact aw_iret dX7_count_94 rfl
  replace h := ic hc h
  have hn7 := hc
  clear hc
  by_cases hc : x1 = 8
  · replace h := ip hc h
    refine aw_tableIn (tgt := 95) dX7_count_1 (by rw [hc]; decide) (by rw [hc]; decide) (by rw [hc]; rfl) (by decide) ?_
    refine aw_aload_n dX7_count_95 rfl rfl ?_
    refine aw_getI dX7_count_96 fk_X7_276 pM_0 rfl ?_
    obtain rfl := Option.some.inj h
    exact aw_iret dX7_count_99 rfl
  replace h := ic hc h
  have hn8 := hc
  clear hc
  have hK : AW LM M_X7_count (some (vI r.1), r.2) 100 [some (vR (some 0)), some (vI x1)] [] s0 := by
    refine aw_bipush dX7_count_100 ⟨by decide, by decide⟩ (by decide) ?_
    obtain rfl := Option.some.inj h
    exact aw_iret dX7_count_102 rfl
  by_cases hr : x1 < 0 ∨ 8 < x1
  · exact aw_tableOut (tgt := 100) dX7_count_1 hr (by decide) hK
  · exact absurd hr (by omega)
theorem c_X7_count {x1 : Int} {s0 : SS} {y : Int} {s1 : SS} (h : f_X7_count x1 s0 = some (y, s1)) : CT LM M_X7_count [vR (some 0), vI x1] s0 (some (vI y), s1) :=
  ct_of (n := 0) (by decide) (Nat.le_of_ble_eq_true rfl) (t_X7_count_0 x1 s0  _ h)
def g_X7_partDigest_84 (x4 : Int) (s0 : SS) : Option (Int × SS) :=
  some (x4, s0)
set_option maxHeartbeats 4000000 in
theorem t_X7_partDigest_84  : ∀ (x4 : Int) (s0 : SS) (r : (Int × SS)), g_X7_partDigest_84 x4 s0 = some r → AW LM M_X7_partDigest (some (vL r.1), r.2) 84 [none, none, none, none, some (vL x4), none, none, none] [] s0 := by
  intro x4 s0 r h
  unfold g_X7_partDigest_84 at h
  refine aw_lload dX7_partDigest_84 rfl ?_
  obtain rfl := Option.some.inj h
  exact aw_lret dX7_partDigest_86 rfl
def g_X7_partDigest_78 (k38 : Int → Int → Int → SS → Option (Int × SS)) (x3 : Int) (x4 : Int) (x6 : Int) (s0 : SS) : Option (Int × SS) :=
  sb (wr (x6 + 1)) fun y1 =>
  k38 x3 x4 y1 s0
set_option maxHeartbeats 4000000 in
theorem t_X7_partDigest_78 (k38 : Int → Int → Int → SS → Option (Int × SS)) (hk38 : ∀ (x3 : Int) (x4 : Int) (x6 : Int) (s0 : SS) (r : (Int × SS)), k38 x3 x4 x6 s0 = some r → AW LM M_X7_partDigest (some (vL r.1), r.2) 38 [some (vR (some 0)), none, none, some (vI x3), some (vL x4), none, some (vI x6), none] [] s0) : ∀ (x3 : Int) (x4 : Int) (x6 : Int) (s0 : SS) (r : (Int × SS)), g_X7_partDigest_78 k38 x3 x4 x6 s0 = some r → AW LM M_X7_partDigest (some (vL r.1), r.2) 78 [some (vR (some 0)), none, none, some (vI x3), some (vL x4), none, some (vI x6), none] [] s0 := by
  intro x3 x4 x6 s0 r h
  unfold g_X7_partDigest_78 at h
  refine aw_iinc dX7_partDigest_78 rfl (by decide) rfl (fun y1 e => ?_)
  replace h := sb_e h e
  clear e
  show AW _ _ _ 81 [some (vR (some 0)), none, none, some (vI x3), some (vL x4), none, some (vI y1), none] _ _
  refine aw_goto (tgt := 38) dX7_partDigest_81 (by decide) ?_
  exact (hk38 x3 x4 y1 s0 _ h)
def g_X7_partDigest_47 (k38 : Int → Int → Int → SS → Option (Int × SS)) (k47 : Int → Int → Int → Int → SS → Option (Int × SS)) (x3 : Int) (x4 : Int) (x6 : Int) (x7 : Int) (s0 : SS) : Option (Int × SS) :=
  if 4 ≤ x7 then (
    g_X7_partDigest_78 k38 x3 x4 x6 s0
  ) else (
    cb (f_X7_frontier x3 x6 x7 s0) fun y1 s1 =>
    sb (wl ((wl (31 * x4)) + y1)) fun y2 =>
    sb (wr (x7 + 1)) fun y3 =>
    k47 x3 y2 x6 y3 s1
  )
set_option maxHeartbeats 4000000 in
theorem t_X7_partDigest_47 (k38 : Int → Int → Int → SS → Option (Int × SS)) (k47 : Int → Int → Int → Int → SS → Option (Int × SS)) (hk38 : ∀ (x3 : Int) (x4 : Int) (x6 : Int) (s0 : SS) (r : (Int × SS)), k38 x3 x4 x6 s0 = some r → AW LM M_X7_partDigest (some (vL r.1), r.2) 38 [some (vR (some 0)), none, none, some (vI x3), some (vL x4), none, some (vI x6), none] [] s0) (hk47 : ∀ (x3 : Int) (x4 : Int) (x6 : Int) (x7 : Int) (s0 : SS) (r : (Int × SS)), k47 x3 x4 x6 x7 s0 = some r → AW LM M_X7_partDigest (some (vL r.1), r.2) 47 [some (vR (some 0)), none, none, some (vI x3), some (vL x4), none, some (vI x6), some (vI x7)] [] s0) : ∀ (x3 : Int) (x4 : Int) (x6 : Int) (x7 : Int) (s0 : SS) (r : (Int × SS)), g_X7_partDigest_47 k38 k47 x3 x4 x6 x7 s0 = some r → AW LM M_X7_partDigest (some (vL r.1), r.2) 47 [some (vR (some 0)), none, none, some (vI x3), some (vL x4), none, some (vI x6), some (vI x7)] [] s0 := by
  intro x3 x4 x6 x7 s0 r h
  unfold g_X7_partDigest_47 at h
  refine aw_iload dX7_partDigest_47 rfl ?_
  refine aw_iconst dX7_partDigest_49 ⟨by decide, by decide⟩ ?_
  refine aw_icmp_ge (tgt := 78) dX7_partDigest_50 (by decide) (fun hc => ?_) (fun hc => ?_)
  · replace h := ip hc h
    exact aw_less (ls' := [some (vR (some 0)), none, none, some (vI x3), some (vL x4), none, some (vI x6), none]) (⟨rfl, ⟨rfl, ⟨rfl, ⟨rfl, trivial⟩⟩⟩⟩) (t_X7_partDigest_78 k38 hk38 x3 x4 x6 s0 _ h)
  · replace h := ic hc h
    refine aw_ldc2 (n := 31) dX7_partDigest_53 cl_X7_295 ⟨by decide, by decide⟩ (by decide) ?_
    refine aw_lload dX7_partDigest_56 rfl ?_
    refine aw_lmul dX7_partDigest_58 ?_
    refine aw_aload_n dX7_partDigest_59 rfl rfl ?_
    refine aw_iload_n dX7_partDigest_60 rfl rfl ?_
    refine aw_iload dX7_partDigest_61 rfl ?_
    refine aw_iload dX7_partDigest_63 rfl ?_
    obtain ⟨y1, s1, hg1, h⟩ := cb_e h
    refine aw_V3i (M2 := M_X7_frontier) dX7_partDigest_65 lk_X7_300 mk_X7_frontier mv_X7_frontier ⟨by decide, by decide⟩ pM_0 ⟨_, _, rfl⟩ (Nat.le_of_ble_eq_true rfl) (c_X7_frontier  hg1) ?_
    refine aw_i2l dX7_partDigest_68 ?_
    refine aw_ladd dX7_partDigest_69 ?_
    refine aw_lstore dX7_partDigest_70 (by decide) rfl (fun y2 e => ?_)
    replace h := sb_e h e
    clear e
    show AW _ _ _ 72 [some (vR (some 0)), none, none, some (vI x3), some (vL y2), none, some (vI x6), some (vI x7)] _ _
    refine aw_iinc dX7_partDigest_72 rfl (by decide) rfl (fun y3 e => ?_)
    replace h := sb_e h e
    clear e
    show AW _ _ _ 75 [some (vR (some 0)), none, none, some (vI x3), some (vL y2), none, some (vI x6), some (vI y3)] _ _
    refine aw_goto (tgt := 47) dX7_partDigest_75 (by decide) ?_
    exact (hk47 x3 y2 x6 y3 s1 _ h)
def f_X7_partDigest_47 (k38 : Int → Int → Int → SS → Option (Int × SS)) : Nat → Int → Int → Int → Int → SS → Option (Int × SS)
  | 0 => fun _ _ _ _ _ => none
  | n + 1 => g_X7_partDigest_47 k38 (f_X7_partDigest_47 k38 n)
theorem s_X7_partDigest_47 (k38 : Int → Int → Int → SS → Option (Int × SS)) (hk38 : ∀ (x3 : Int) (x4 : Int) (x6 : Int) (s0 : SS) (r : (Int × SS)), k38 x3 x4 x6 s0 = some r → AW LM M_X7_partDigest (some (vL r.1), r.2) 38 [some (vR (some 0)), none, none, some (vI x3), some (vL x4), none, some (vI x6), none] [] s0) : ∀ (n : Nat), ∀ (x3 : Int) (x4 : Int) (x6 : Int) (x7 : Int) (s0 : SS) (r : (Int × SS)), f_X7_partDigest_47 k38 n x3 x4 x6 x7 s0 = some r → AW LM M_X7_partDigest (some (vL r.1), r.2) 47 [some (vR (some 0)), none, none, some (vI x3), some (vL x4), none, some (vI x6), some (vI x7)] [] s0 := by
  intro n
  induction n with
  | zero =>
    intro x3 x4 x6 x7 s0 r h
    cases h
  | succ n ih =>
    intro x3 x4 x6 x7 s0 r h
    exact t_X7_partDigest_47 k38 (f_X7_partDigest_47 k38 n) hk38 ih x3 x4 x6 x7 s0 r h
def g_X7_partDigest_38 (k38 : Int → Int → Int → SS → Option (Int × SS)) (x3 : Int) (x4 : Int) (x6 : Int) (s0 : SS) : Option (Int × SS) :=
  if 2 ≤ x6 then (
    g_X7_partDigest_84  x4 s0
  ) else (
    f_X7_partDigest_47 k38 FU x3 x4 x6 0 s0
  )
set_option maxHeartbeats 4000000 in
theorem t_X7_partDigest_38 (k38 : Int → Int → Int → SS → Option (Int × SS)) (hk38 : ∀ (x3 : Int) (x4 : Int) (x6 : Int) (s0 : SS) (r : (Int × SS)), k38 x3 x4 x6 s0 = some r → AW LM M_X7_partDigest (some (vL r.1), r.2) 38 [some (vR (some 0)), none, none, some (vI x3), some (vL x4), none, some (vI x6), none] [] s0) : ∀ (x3 : Int) (x4 : Int) (x6 : Int) (s0 : SS) (r : (Int × SS)), g_X7_partDigest_38 k38 x3 x4 x6 s0 = some r → AW LM M_X7_partDigest (some (vL r.1), r.2) 38 [some (vR (some 0)), none, none, some (vI x3), some (vL x4), none, some (vI x6), none] [] s0 := by
  intro x3 x4 x6 s0 r h
  unfold g_X7_partDigest_38 at h
  refine aw_iload dX7_partDigest_38 rfl ?_
  refine aw_iconst dX7_partDigest_40 ⟨by decide, by decide⟩ ?_
  refine aw_icmp_ge (tgt := 84) dX7_partDigest_41 (by decide) (fun hc => ?_) (fun hc => ?_)
  · replace h := ip hc h
    exact aw_less (ls' := [none, none, none, none, some (vL x4), none, none, none]) (⟨rfl, trivial⟩) (t_X7_partDigest_84   x4 s0 _ h)
  · replace h := ic hc h
    refine aw_iconst dX7_partDigest_44 ⟨by decide, by decide⟩ ?_
    refine aw_istoreA dX7_partDigest_45 (by decide) rfl ?_
    show AW _ _ _ 47 [some (vR (some 0)), none, none, some (vI x3), some (vL x4), none, some (vI x6), some (vI 0)] _ _
    exact (s_X7_partDigest_47 k38 hk38 FU x3 x4 x6 0 s0 _ h)
def f_X7_partDigest_38 : Nat → Int → Int → Int → SS → Option (Int × SS)
  | 0 => fun _ _ _ _ => none
  | n + 1 => g_X7_partDigest_38 (f_X7_partDigest_38  n)
theorem s_X7_partDigest_38  : ∀ (n : Nat), ∀ (x3 : Int) (x4 : Int) (x6 : Int) (s0 : SS) (r : (Int × SS)), f_X7_partDigest_38 n x3 x4 x6 s0 = some r → AW LM M_X7_partDigest (some (vL r.1), r.2) 38 [some (vR (some 0)), none, none, some (vI x3), some (vL x4), none, some (vI x6), none] [] s0 := by
  intro n
  induction n with
  | zero =>
    intro x3 x4 x6 s0 r h
    cases h
  | succ n ih =>
    intro x3 x4 x6 s0 r h
    exact t_X7_partDigest_38 (f_X7_partDigest_38  n) ih x3 x4 x6 s0 r h
def g_X7_partDigest_35 (x3 : Int) (x4 : Int) (s0 : SS) : Option (Int × SS) :=
  f_X7_partDigest_38  FU x3 x4 0 s0
set_option maxHeartbeats 4000000 in
theorem t_X7_partDigest_35  : ∀ (x3 : Int) (x4 : Int) (s0 : SS) (r : (Int × SS)), g_X7_partDigest_35 x3 x4 s0 = some r → AW LM M_X7_partDigest (some (vL r.1), r.2) 35 [some (vR (some 0)), none, none, some (vI x3), some (vL x4), none, none, none] [] s0 := by
  intro x3 x4 s0 r h
  unfold g_X7_partDigest_35 at h
  refine aw_iconst dX7_partDigest_35 ⟨by decide, by decide⟩ ?_
  refine aw_istoreA dX7_partDigest_36 (by decide) rfl ?_
  show AW _ _ _ 38 [some (vR (some 0)), none, none, some (vI x3), some (vL x4), none, some (vI 0), none] _ _
  exact (s_X7_partDigest_38   FU x3 x4 0 s0 _ h)
def g_X7_partDigest_6 (k6 : Int → Int → Int → SS → Option (Int × SS)) (x3 : Int) (x4 : Int) (x6 : Int) (s0 : SS) : Option (Int × SS) :=
  if 4 ≤ x6 then (
    g_X7_partDigest_35  x3 x4 s0
  ) else (
    cb (f_X7_part x3 x6 s0) fun y1 s1 =>
    sb (wl ((wl (31 * x4)) + y1)) fun y2 =>
    sb (wr (x6 + 1)) fun y3 =>
    k6 x3 y2 y3 s1
  )
set_option maxHeartbeats 4000000 in
theorem t_X7_partDigest_6 (k6 : Int → Int → Int → SS → Option (Int × SS)) (hk6 : ∀ (x3 : Int) (x4 : Int) (x6 : Int) (s0 : SS) (r : (Int × SS)), k6 x3 x4 x6 s0 = some r → AW LM M_X7_partDigest (some (vL r.1), r.2) 6 [some (vR (some 0)), none, none, some (vI x3), some (vL x4), none, some (vI x6), none] [] s0) : ∀ (x3 : Int) (x4 : Int) (x6 : Int) (s0 : SS) (r : (Int × SS)), g_X7_partDigest_6 k6 x3 x4 x6 s0 = some r → AW LM M_X7_partDigest (some (vL r.1), r.2) 6 [some (vR (some 0)), none, none, some (vI x3), some (vL x4), none, some (vI x6), none] [] s0 := by
  intro x3 x4 x6 s0 r h
  unfold g_X7_partDigest_6 at h
  refine aw_iload dX7_partDigest_6 rfl ?_
  refine aw_iconst dX7_partDigest_8 ⟨by decide, by decide⟩ ?_
  refine aw_icmp_ge (tgt := 35) dX7_partDigest_9 (by decide) (fun hc => ?_) (fun hc => ?_)
  · replace h := ip hc h
    exact aw_less (ls' := [some (vR (some 0)), none, none, some (vI x3), some (vL x4), none, none, none]) (⟨rfl, ⟨rfl, ⟨rfl, trivial⟩⟩⟩) (t_X7_partDigest_35   x3 x4 s0 _ h)
  · replace h := ic hc h
    refine aw_ldc2 (n := 31) dX7_partDigest_12 cl_X7_295 ⟨by decide, by decide⟩ (by decide) ?_
    refine aw_lload dX7_partDigest_15 rfl ?_
    refine aw_lmul dX7_partDigest_17 ?_
    refine aw_aload_n dX7_partDigest_18 rfl rfl ?_
    refine aw_iload_n dX7_partDigest_19 rfl rfl ?_
    refine aw_iload dX7_partDigest_20 rfl ?_
    obtain ⟨y1, s1, hg1, h⟩ := cb_e h
    refine aw_V2i (M2 := M_X7_part) dX7_partDigest_22 lk_X7_297 mk_X7_part mv_X7_part ⟨by decide, by decide⟩ pM_0 ⟨_, _, rfl⟩ (Nat.le_of_ble_eq_true rfl) (c_X7_part  hg1) ?_
    refine aw_i2l dX7_partDigest_25 ?_
    refine aw_ladd dX7_partDigest_26 ?_
    refine aw_lstore dX7_partDigest_27 (by decide) rfl (fun y2 e => ?_)
    replace h := sb_e h e
    clear e
    show AW _ _ _ 29 [some (vR (some 0)), none, none, some (vI x3), some (vL y2), none, some (vI x6), none] _ _
    refine aw_iinc dX7_partDigest_29 rfl (by decide) rfl (fun y3 e => ?_)
    replace h := sb_e h e
    clear e
    show AW _ _ _ 32 [some (vR (some 0)), none, none, some (vI x3), some (vL y2), none, some (vI y3), none] _ _
    refine aw_goto (tgt := 6) dX7_partDigest_32 (by decide) ?_
    exact (hk6 x3 y2 y3 s1 _ h)
def f_X7_partDigest_6 : Nat → Int → Int → Int → SS → Option (Int × SS)
  | 0 => fun _ _ _ _ => none
  | n + 1 => g_X7_partDigest_6 (f_X7_partDigest_6  n)
theorem s_X7_partDigest_6  : ∀ (n : Nat), ∀ (x3 : Int) (x4 : Int) (x6 : Int) (s0 : SS) (r : (Int × SS)), f_X7_partDigest_6 n x3 x4 x6 s0 = some r → AW LM M_X7_partDigest (some (vL r.1), r.2) 6 [some (vR (some 0)), none, none, some (vI x3), some (vL x4), none, some (vI x6), none] [] s0 := by
  intro n
  induction n with
  | zero =>
    intro x3 x4 x6 s0 r h
    cases h
  | succ n ih =>
    intro x3 x4 x6 s0 r h
    exact t_X7_partDigest_6 (f_X7_partDigest_6  n) ih x3 x4 x6 s0 r h
def f_X7_partDigest (x1 : Int) (x3 : Int) (s0 : SS) : Option (Int × SS) :=
  f_X7_partDigest_6  FU x3 x1 0 s0
set_option maxHeartbeats 4000000 in
theorem t_X7_partDigest_0  : ∀ (x1 : Int) (x3 : Int) (s0 : SS) (r : (Int × SS)), f_X7_partDigest x1 x3 s0 = some r → AW LM M_X7_partDigest (some (vL r.1), r.2) 0 [some (vR (some 0)), some (vL x1), none, some (vI x3), none, none, none, none] [] s0 := by
  intro x1 x3 s0 r h
  unfold f_X7_partDigest at h
  refine aw_lload_n dX7_partDigest_0 rfl rfl ?_
  refine aw_lstoreA dX7_partDigest_1 (by decide) rfl ?_
  show AW _ _ _ 3 [some (vR (some 0)), some (vL x1), none, some (vI x3), some (vL x1), none, none, none] _ _
  refine aw_iconst dX7_partDigest_3 ⟨by decide, by decide⟩ ?_
  refine aw_istoreA dX7_partDigest_4 (by decide) rfl ?_
  show AW _ _ _ 6 [some (vR (some 0)), some (vL x1), none, some (vI x3), some (vL x1), none, some (vI 0), none] _ _
  exact aw_less (ls' := [some (vR (some 0)), none, none, some (vI x3), some (vL x1), none, some (vI 0), none]) (⟨rfl, ⟨rfl, ⟨rfl, ⟨rfl, trivial⟩⟩⟩⟩) (s_X7_partDigest_6   FU x3 x1 0 s0 _ h)
theorem c_X7_partDigest {x1 : Int} {x3 : Int} {s0 : SS} {y : Int} {s1 : SS} (h : f_X7_partDigest x1 x3 s0 = some (y, s1)) : CT LM M_X7_partDigest [vR (some 0), vL x1, vI x3] s0 (some (vL y), s1) :=
  ct_of (n := 4) (by decide) (Nat.le_of_ble_eq_true rfl) (t_X7_partDigest_0 x1 x3 s0  _ h)
