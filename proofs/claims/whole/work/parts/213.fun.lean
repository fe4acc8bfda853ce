def g_X1_leastMost_45 (x1 : Int) (s0 : SS) : Option Int :=
  some x1
set_option maxHeartbeats 4000000 in
theorem t_X1_leastMost_45  : ∀ (x1 : Int) (s0 : SS) (r : Int), g_X1_leastMost_45 x1 s0 = some r → AW LC M_X1_leastMost (some (vI r), s0) 45 [none, some (vI x1), none] [] s0 := by
  intro x1 s0 r h
  unfold g_X1_leastMost_45 at h
  refine aw_iload_n dX1_leastMost_45 rfl rfl ?_
  obtain rfl := Option.some.inj h
  exact aw_iret dX1_leastMost_46 rfl
def g_X1_leastMost_39 (k16 : Int → Int → SS → Option Int) (x1 : Int) (x2 : Int) (s0 : SS) : Option Int :=
  sb (wr (x2 + 1)) fun y1 =>
  k16 x1 y1 s0
set_option maxHeartbeats 4000000 in
theorem t_X1_leastMost_39 (k16 : Int → Int → SS → Option Int) (hk16 : ∀ (x1 : Int) (x2 : Int) (s0 : SS) (r : Int), k16 x1 x2 s0 = some r → AW LC M_X1_leastMost (some (vI r), s0) 16 [some (vR (some 10)), some (vI x1), some (vI x2)] [] s0) : ∀ (x1 : Int) (x2 : Int) (s0 : SS) (r : Int), g_X1_leastMost_39 k16 x1 x2 s0 = some r → AW LC M_X1_leastMost (some (vI r), s0) 39 [some (vR (some 10)), some (vI x1), some (vI x2)] [] s0 := by
  intro x1 x2 s0 r h
  unfold g_X1_leastMost_39 at h
  refine aw_iinc dX1_leastMost_39 rfl (by decide) rfl (fun y1 e => ?_)
  replace h := sb_e h e
  clear e
  show AW _ _ _ 42 [some (vR (some 10)), some (vI x1), some (vI y1)] _ _
  refine aw_goto (tgt := 16) dX1_leastMost_42 (by decide) ?_
  exact (hk16 x1 y1 s0 _ h)
def g_X1_leastMost_16 (k16 : Int → Int → SS → Option Int) (x1 : Int) (x2 : Int) (s0 : SS) : Option Int :=
  bn (f_X1_sizeOf 0 s0) fun y1 =>
  if y1 ≤ x2 then (
    g_X1_leastMost_45  x1 s0
  ) else (
    bn (f_X3_lessMost 11 x2 x1 s0) fun y2 =>
    if y2 = 0 then (
      g_X1_leastMost_39 k16 x1 x2 s0
    ) else (
      g_X1_leastMost_39 k16 x2 x2 s0
    )
  )
set_option maxHeartbeats 4000000 in
theorem t_X1_leastMost_16 (k16 : Int → Int → SS → Option Int) (hk16 : ∀ (x1 : Int) (x2 : Int) (s0 : SS) (r : Int), k16 x1 x2 s0 = some r → AW LC M_X1_leastMost (some (vI r), s0) 16 [some (vR (some 10)), some (vI x1), some (vI x2)] [] s0) : ∀ (x1 : Int) (x2 : Int) (s0 : SS) (r : Int), g_X1_leastMost_16 k16 x1 x2 s0 = some r → AW LC M_X1_leastMost (some (vI r), s0) 16 [some (vR (some 10)), some (vI x1), some (vI x2)] [] s0 := by
  intro x1 x2 s0 r h
  unfold g_X1_leastMost_16 at h
  refine aw_iload_n dX1_leastMost_16 rfl rfl ?_
  refine aw_aload_n dX1_leastMost_17 rfl rfl ?_
  refine aw_iconst dX1_leastMost_18 ⟨by decide, by decide⟩ ?_
  obtain ⟨y1, hg1, h⟩ := bn_e h
  refine aw_V1i (M2 := M_X1_sizeOf) dX1_leastMost_19 lk_X1_72 mk_X1_sizeOf mv_X1_sizeOf ⟨by decide, by decide⟩ pC_10 ⟨_, _, rfl⟩ (Nat.le_of_ble_eq_true rfl) (c_X1_sizeOf  hg1) ?_
  refine aw_icmp_ge (tgt := 45) dX1_leastMost_22 (by decide) (fun hc => ?_) (fun hc => ?_)
  · replace h := ip hc h
    exact aw_less (ls' := [none, some (vI x1), none]) (⟨rfl, trivial⟩) (t_X1_leastMost_45   x1 s0 _ h)
  · replace h := ic hc h
    refine aw_aload_n dX1_leastMost_25 rfl rfl ?_
    refine aw_getR (t := 11) dX1_leastMost_26 fk_X1_14 pC_10 rfl ?_
    refine aw_iload_n dX1_leastMost_29 rfl rfl ?_
    refine aw_iload_n dX1_leastMost_30 rfl rfl ?_
    obtain ⟨y2, hg2, h⟩ := bn_e h
    refine aw_V2i (M2 := M_X3_lessMost) dX1_leastMost_31 lk_X1_104 mk_X3_lessMost mv_X3_lessMost ⟨by decide, by decide⟩ pC_11 ⟨_, _, rfl⟩ (Nat.le_of_ble_eq_true rfl) (c_X3_lessMost pC_11 hg2) ?_
    refine aw_if_eq (tgt := 39) dX1_leastMost_34 (by decide) (fun hc => ?_) (fun hc => ?_)
    · replace h := ip hc h
      exact (t_X1_leastMost_39 k16 hk16 x1 x2 s0 _ h)
    · replace h := ic hc h
      refine aw_iload_n dX1_leastMost_37 rfl rfl ?_
      refine aw_istore_nA dX1_leastMost_38 rfl (by decide) rfl ?_
      show AW _ _ _ 39 [some (vR (some 10)), some (vI x2), some (vI x2)] _ _
      exact (t_X1_leastMost_39 k16 hk16 x2 x2 s0 _ h)
def f_X1_leastMost_16 : Nat → Int → Int → SS → Option Int
  | 0 => fun _ _ _ => none
  | n + 1 => g_X1_leastMost_16 (f_X1_leastMost_16  n)
theorem s_X1_leastMost_16  : ∀ (n : Nat), ∀ (x1 : Int) (x2 : Int) (s0 : SS) (r : Int), f_X1_leastMost_16 n x1 x2 s0 = some r → AW LC M_X1_leastMost (some (vI r), s0) 16 [some (vR (some 10)), some (vI x1), some (vI x2)] [] s0 := by
  intro n
  induction n with
  | zero =>
    intro x1 x2 s0 r h
    cases h
  | succ n ih =>
    intro x1 x2 s0 r h
    exact t_X1_leastMost_16 (f_X1_leastMost_16  n) ih x1 x2 s0 r h
def g_X1_leastMost_13 (z0 : Int) (s0 : SS) : Option Int :=
  f_X1_leastMost_16  FU z0 1 s0
set_option maxHeartbeats 4000000 in
theorem t_X1_leastMost_13  : ∀ (z0 : Int) (s0 : SS) (r : Int), g_X1_leastMost_13 z0 s0 = some r → AW LC M_X1_leastMost (some (vI r), s0) 13 [some (vR (some 10)), none, none] [vI z0] s0 := by
  intro z0 s0 r h
  unfold g_X1_leastMost_13 at h
  refine aw_istore_nA dX1_leastMost_13 rfl (by decide) rfl ?_
  show AW _ _ _ 14 [some (vR (some 10)), some (vI z0), none] _ _
  refine aw_iconst dX1_leastMost_14 ⟨by decide, by decide⟩ ?_
  refine aw_istore_nA dX1_leastMost_15 rfl (by decide) rfl ?_
  show AW _ _ _ 16 [some (vR (some 10)), some (vI z0), some (vI 1)] _ _
  exact (s_X1_leastMost_16   FU z0 1 s0 _ h)
def f_X1_leastMost  (s0 : SS) : Option Int :=
  bn (f_X1_sizeOf 0 s0) fun y1 =>
  if y1 = 0 then (
    g_X1_leastMost_13  (-1) s0
  ) else (
    g_X1_leastMost_13  0 s0
  )
set_option maxHeartbeats 4000000 in
theorem t_X1_leastMost_0  : ∀ (s0 : SS) (r : Int), f_X1_leastMost s0 = some r → AW LC M_X1_leastMost (some (vI r), s0) 0 [some (vR (some 10)), none, none] [] s0 := by
  intro s0 r h
  unfold f_X1_leastMost at h
  refine aw_aload_n dX1_leastMost_0 rfl rfl ?_
  refine aw_iconst dX1_leastMost_1 ⟨by decide, by decide⟩ ?_
  obtain ⟨y1, hg1, h⟩ := bn_e h
  refine aw_V1i (M2 := M_X1_sizeOf) dX1_leastMost_2 lk_X1_72 mk_X1_sizeOf mv_X1_sizeOf ⟨by decide, by decide⟩ pC_10 ⟨_, _, rfl⟩ (Nat.le_of_ble_eq_true rfl) (c_X1_sizeOf  hg1) ?_
  refine aw_if_ne (tgt := 12) dX1_leastMost_5 (by decide) (fun hc => ?_) (fun hc => ?_)
  rotate_left
  · replace h := ip hc h
    refine aw_iconst dX1_leastMost_8 ⟨by decide, by decide⟩ ?_
    refine aw_goto (tgt := 13) dX1_leastMost_9 (by decide) ?_
    exact (t_X1_leastMost_13   (-1) s0 _ h)
  · replace h := ic hc h
    refine aw_iconst dX1_leastMost_12 ⟨by decide, by decide⟩ ?_
    exact (t_X1_leastMost_13   0 s0 _ h)
theorem c_X1_leastMost {s0 : SS} {y : Int} (h : f_X1_leastMost s0 = some y) : CT LC M_X1_leastMost [vR (some 10)] s0 (some (vI y), s0) :=
  ct_of (n := 2) (by decide) (Nat.le_of_ble_eq_true rfl) (t_X1_leastMost_0  s0  _ h)
def f_X2_clear  (s0 : SS) : Option SS :=
  sb (up s0 35 5 0) fun s1 =>
  some s1
set_option maxHeartbeats 4000000 in
theorem t_X2_clear_0  : ∀ (s0 : SS) (r : SS), f_X2_clear s0 = some r → AW LC M_X2_clear (none, r) 0 [some (vR (some 35))] [] s0 := by
  intro s0 r h
  unfold f_X2_clear at h
  refine aw_aload_n dX2_clear_0 rfl rfl ?_
  refine aw_iconst dX2_clear_1 ⟨by decide, by decide⟩ ?_
  refine aw_put dX2_clear_2 fk_X2_28 pC_35 rfl ft_2_5 (nar_int _) (fun s1 e => ?_)
  replace h := sb_e h e
  clear e
  obtain rfl := Option.some.inj h
  exact aw_vret dX2_clear_5 rfl
theorem c_X2_clear {s0 : SS} {s1 : SS} (h : f_X2_clear s0 = some s1) : CT LC M_X2_clear [vR (some 35)] s0 (none, s1) :=
  ct_of (n := 0) (by decide) (Nat.le_of_ble_eq_true rfl) (t_X2_clear_0  s0  _ h)
def g_X2_putAt_41  (s0 : SS) : Option SS :=
  some s0
set_option maxHeartbeats 4000000 in
theorem t_X2_putAt_41  : ∀ (s0 : SS) (r : SS), g_X2_putAt_41 s0 = some r → AW LC M_X2_putAt (none, r) 41 [none, none, none, none] [] s0 := by
  intro s0 r h
  unfold g_X2_putAt_41 at h
  obtain rfl := Option.some.inj h
  exact aw_vret dX2_putAt_41 rfl
def f_X2_putAt (x1 : Int) (x2 : Int) (x3 : Int) (s0 : SS) : Option SS :=
  if x1 < 0 then (
    g_X2_putAt_41  s0
  ) else (
    if 40 ≤ x1 then (
      g_X2_putAt_41  s0
    ) else (
      gx x1 40 <|
      sb (up s0 36 x1.toNat 1) fun s1 =>
      gx x1 40 <|
      sb (up s1 37 x1.toNat x2) fun s2 =>
      gx x1 40 <|
      sb (up s2 38 x1.toNat x3) fun s3 =>
      gx x1 40 <|
      sb (up s3 39 x1.toNat 0) fun s4 =>
      g_X2_putAt_41  s4
    )
  )
set_option maxHeartbeats 4000000 in
theorem t_X2_putAt_0  : ∀ (x1 : Int) (x2 : Int) (x3 : Int) (s0 : SS) (r : SS), f_X2_putAt x1 x2 x3 s0 = some r → AW LC M_X2_putAt (none, r) 0 [some (vR (some 35)), some (vI x1), some (vI x2), some (vI x3)] [] s0 := by
  intro x1 x2 x3 s0 r h
  unfold f_X2_putAt at h
  refine aw_iload_n dX2_putAt_0 rfl rfl ?_
  refine aw_if_lt (tgt := 41) dX2_putAt_1 (by decide) (fun hc => ?_) (fun hc => ?_)
  · replace h := ip hc h
    exact aw_less (ls' := [none, none, none, none]) (trivial) (t_X2_putAt_41   s0 _ h)
  · replace h := ic hc h
    refine aw_iload_n dX2_putAt_4 rfl rfl ?_
    refine aw_aload_n dX2_putAt_5 rfl rfl ?_
    refine aw_getR (t := 36) dX2_putAt_6 fk_X2_9 pC_35 rfl ?_
    refine aw_alen dX2_putAt_9 aC_36 (by decide) ⟨by decide, by decide⟩ ?_
    refine aw_icmp_ge (tgt := 41) dX2_putAt_10 (by decide) (fun hc => ?_) (fun hc => ?_)
    · replace h := ip hc h
      exact aw_less (ls' := [none, none, none, none]) (trivial) (t_X2_putAt_41   s0 _ h)
    · replace h := ic hc h
      refine aw_aload_n dX2_putAt_13 rfl rfl ?_
      refine aw_getR (t := 36) dX2_putAt_14 fk_X2_9 pC_35 rfl ?_
      refine aw_iload_n dX2_putAt_17 rfl rfl ?_
      refine aw_iconst dX2_putAt_18 ⟨by decide, by decide⟩ ?_
      obtain ⟨hg1, h⟩ := gx_e h
      refine aw_zast dX2_putAt_19 aC_36 hg1 (by decide) (fun s1 e => ?_)
      replace h := sb_e h e
      clear e
      refine aw_aload_n dX2_putAt_20 rfl rfl ?_
      refine aw_getR (t := 37) dX2_putAt_21 fk_X2_15 pC_35 rfl ?_
      refine aw_iload_n dX2_putAt_24 rfl rfl ?_
      refine aw_iload_n dX2_putAt_25 rfl rfl ?_
      obtain ⟨hg2, h⟩ := gx_e h
      refine aw_iast dX2_putAt_26 aC_37 hg2 (fun s2 e => ?_)
      replace h := sb_e h e
      clear e
      refine aw_aload_n dX2_putAt_27 rfl rfl ?_
      refine aw_getR (t := 38) dX2_putAt_28 fk_X2_19 pC_35 rfl ?_
      refine aw_iload_n dX2_putAt_31 rfl rfl ?_
      refine aw_iload_n dX2_putAt_32 rfl rfl ?_
      obtain ⟨hg3, h⟩ := gx_e h
      refine aw_iast dX2_putAt_33 aC_38 hg3 (fun s3 e => ?_)
      replace h := sb_e h e
      clear e
      refine aw_aload_n dX2_putAt_34 rfl rfl ?_
      refine aw_getR (t := 39) dX2_putAt_35 fk_X2_22 pC_35 rfl ?_
      refine aw_iload_n dX2_putAt_38 rfl rfl ?_
      refine aw_iconst dX2_putAt_39 ⟨by decide, by decide⟩ ?_
      obtain ⟨hg4, h⟩ := gx_e h
      refine aw_iast dX2_putAt_40 aC_39 hg4 (fun s4 e => ?_)
      replace h := sb_e h e
      clear e
      exact aw_less (ls' := [none, none, none, none]) (trivial) (t_X2_putAt_41   s4 _ h)
theorem c_X2_putAt {x1 : Int} {x2 : Int} {x3 : Int} {s0 : SS} {s1 : SS} (h : f_X2_putAt x1 x2 x3 s0 = some s1) : CT LC M_X2_putAt [vR (some 35), vI x1, vI x2, vI x3] s0 (none, s1) :=
  ct_of (n := 0) (by decide) (Nat.le_of_ble_eq_true rfl) (t_X2_putAt_0 x1 x2 x3 s0  _ h)
def g_X2_placeBelow_278  (s0 : SS) : Option SS :=
  some s0
set_option maxHeartbeats 4000000 in
theorem t_X2_placeBelow_278  : ∀ (s0 : SS) (r : SS), g_X2_placeBelow_278 s0 = some r → AW LC M_X2_placeBelow (none, r) 278 [none, none, none, none, none, none, none] [] s0 := by
  intro s0 r h
  unfold g_X2_placeBelow_278 at h
  obtain rfl := Option.some.inj h
  exact aw_vret dX2_placeBelow_278 rfl
def g_X2_placeBelow_214 (x3 : Int) (z0 : Int) (s0 : SS) : Option SS :=
  gx x3 40 <|
  gx x3 40 <|
  bn (f_X2_putAt z0 (s0 37 x3.toNat) (s0 38 x3.toNat) s0) fun s1 =>
  g_X2_placeBelow_278  s1
set_option maxHeartbeats 4000000 in
theorem t_X2_placeBelow_214  : ∀ (x3 : Int) (z0 : Int) (s0 : SS) (r : SS), g_X2_placeBelow_214 x3 z0 s0 = some r → AW LC M_X2_placeBelow (none, r) 214 [some (vR (some 35)), none, none, some (vI x3), none, none, none] [vI z0, vR (some 35)] s0 := by
  intro x3 z0 s0 r h
  unfold g_X2_placeBelow_214 at h
  refine aw_aload_n dX2_placeBelow_214 rfl rfl ?_
  refine aw_getR (t := 37) dX2_placeBelow_215 fk_X2_15 pC_35 rfl ?_
  refine aw_iload_n dX2_placeBelow_218 rfl rfl ?_
  obtain ⟨hg1, h⟩ := gx_e h
  refine aw_iald dX2_placeBelow_219 aC_37 hg1 ?_
  refine aw_aload_n dX2_placeBelow_220 rfl rfl ?_
  refine aw_getR (t := 38) dX2_placeBelow_221 fk_X2_19 pC_35 rfl ?_
  refine aw_iload_n dX2_placeBelow_224 rfl rfl ?_
  obtain ⟨hg2, h⟩ := gx_e h
  refine aw_iald dX2_placeBelow_225 aC_38 hg2 ?_
  obtain ⟨s1, hg3, h⟩ := bn_e h
  refine aw_V3v (M2 := M_X2_putAt) dX2_placeBelow_226 lk_X2_35 mk_X2_putAt mv_X2_putAt ⟨by decide, by decide⟩ pC_35 ⟨_, _, rfl⟩ (Nat.le_of_ble_eq_true rfl) (c_X2_putAt  hg3) ?_
  refine aw_goto (tgt := 278) dX2_placeBelow_229 (by decide) ?_
  exact aw_less (ls' := [none, none, none, none, none, none, none]) (trivial) (t_X2_placeBelow_278   s1 _ h)
def f_X2_placeBelow (x3 : Int) (x4 : Int) (s0 : SS) : Option SS :=
  gx x3 40 <|
  sb (s0 7 x3.toNat) fun y1 =>
  gx x3 40 <|
  sb (s0 8 x3.toNat) fun y2 =>
  gx x3 40 <|
  sb (s0 3 x3.toNat) fun y3 =>
  if y3 = 0 then (
    gx x3 40 <|
    gx x3 40 <|
    sb (up s0 39 x3.toNat (s0 9 x3.toNat)) fun s1 =>
    gx x3 40 <|
    gx x3 40 <|
    sb (up s1 40 x3.toNat (wr ((wr ((s1 9 x3.toNat) + 97)) - 1))) fun s2 =>
    g_X2_placeBelow_278  s2
  ) else (
  if y3 = 1 then (
    gx x3 40 <|
    gx x3 40 <|
    bn (f_X2_putAt y1 (s0 37 x3.toNat) (s0 38 x3.toNat) s0) fun s3 =>
    gx x3 40 <|
    bn (f_X3_tell 23 y1 0 s3) fun y4 =>
    gx x3 40 <|
    bn (f_X3_tell 23 y1 1 s3) fun y5 =>
    bn (f_X2_putAt y2 (wr ((wr ((s3 37 x3.toNat) + y4)) - 1)) (wr ((s3 38 x3.toNat) + y5)) s3) fun s4 =>
    g_X2_placeBelow_278  s4
  ) else (
  if y3 = 2 then (
    gx x3 40 <|
    gx x3 40 <|
    bn (f_X2_putAt y1 (s0 37 x3.toNat) (s0 38 x3.toNat) s0) fun s5 =>
    gx x3 40 <|
    bn (f_X3_tell 23 y1 0 s5) fun y6 =>
    gx x3 40 <|
    bn (f_X2_putAt y2 (wr ((s5 37 x3.toNat) + y6)) (s5 38 x3.toNat) s5) fun s6 =>
    g_X2_placeBelow_278  s6
  ) else (
  if y3 = 3 then (
    gx x3 40 <|
    if (i_and x4 (i_shl 1 (s0 9 x3.toNat))) = 0 then (
      g_X2_placeBelow_214  x3 y1 s0
    ) else (
      g_X2_placeBelow_214  x3 y2 s0
    )
  ) else (
  if y3 = 4 then (
    gx x3 40 <|
    gx x3 40 <|
    gx x3 40 <|
    bn (f_X2_putAt y1 (s0 37 x3.toNat) (wr ((s0 38 x3.toNat) + (s0 9 x3.toNat))) s0) fun s7 =>
    g_X2_placeBelow_278  s7
  ) else (
    gx x3 40 <|
    gx x3 40 <|
    bn (f_X2_putAt y1 (s0 37 x3.toNat) (s0 38 x3.toNat) s0) fun s8 =>
    g_X2_placeBelow_278  s8
  )
  )
  )
  )
  )
set_option maxHeartbeats 4000000 in
theorem t_X2_placeBelow_0  : ∀ (x3 : Int) (x4 : Int) (s0 : SS) (r : SS), f_X2_placeBelow x3 x4 s0 = some r → AW LC M_X2_placeBelow (none, r) 0 [some (vR (some 35)), some (vR (some 1)), some (vR (some 23)), some (vI x3), some (vI x4), none, none] [] s0 := by
  intro x3 x4 s0 r h
  unfold f_X2_placeBelow at h
  refine aw_aload_n dX2_placeBelow_0 rfl rfl ?_
  refine aw_getR (t := 7) dX2_placeBelow_1 fk_X2_53 pC_1 rfl ?_
  refine aw_iload_n dX2_placeBelow_4 rfl rfl ?_
  obtain ⟨hg1, h⟩ := gx_e h
  refine aw_iald dX2_placeBelow_5 aC_7 hg1 ?_
  refine aw_istore dX2_placeBelow_6 (by decide) rfl (fun y1 e => ?_)
  replace h := sb_e h e
  clear e
  show AW _ _ _ 8 [some (vR (some 35)), some (vR (some 1)), some (vR (some 23)), some (vI x3), some (vI x4), some (vI y1), none] _ _
  refine aw_aload_n dX2_placeBelow_8 rfl rfl ?_
  refine aw_getR (t := 8) dX2_placeBelow_9 fk_X2_56 pC_1 rfl ?_
  refine aw_iload_n dX2_placeBelow_12 rfl rfl ?_
  obtain ⟨hg2, h⟩ := gx_e h
  refine aw_iald dX2_placeBelow_13 aC_8 hg2 ?_
  refine aw_istore dX2_placeBelow_14 (by decide) rfl (fun y2 e => ?_)
  replace h := sb_e h e
  clear e
  show AW _ _ _ 16 [some (vR (some 35)), some (vR (some 1)), some (vR (some 23)), some (vI x3), some (vI x4), some (vI y1), some (vI y2)] _ _
  refine aw_aload_n dX2_placeBelow_16 rfl rfl ?_
  refine aw_getR (t := 3) dX2_placeBelow_17 fk_X2_59 pC_1 rfl ?_
  refine aw_iload_n dX2_placeBelow_20 rfl rfl ?_
  obtain ⟨hg3, h⟩ := gx_e h
  refine aw_iald dX2_placeBelow_21 aC_3 hg3 ?_
  refine aw_name (fun y3 e => ?_)
  replace h := sb_e h e
  clear e
  by_cases hc : y3 = 0
  · replace h := ip hc h
    refine aw_tableIn (tgt := 56) dX2_placeBelow_22 (by rw [hc]; decide) (by rw [hc]; decide) (by rw [hc]; rfl) (by decide) ?_
    refine aw_aload_n dX2_placeBelow_56 rfl rfl ?_
    refine aw_getR (t := 39) dX2_placeBelow_57 fk_X2_22 pC_35 rfl ?_
    refine aw_iload_n dX2_placeBelow_60 rfl rfl ?_
    refine aw_aload_n dX2_placeBelow_61 rfl rfl ?_
    refine aw_getR (t := 9) dX2_placeBelow_62 fk_X2_62 pC_1 rfl ?_
    refine aw_iload_n dX2_placeBelow_65 rfl rfl ?_
    obtain ⟨hg4, h⟩ := gx_e h
    refine aw_iald dX2_placeBelow_66 aC_9 hg4 ?_
    obtain ⟨hg5, h⟩ := gx_e h
    refine aw_iast dX2_placeBelow_67 aC_39 hg5 (fun s1 e => ?_)
    replace h := sb_e h e
    clear e
    refine aw_aload_n dX2_placeBelow_68 rfl rfl ?_
    refine aw_getR (t := 40) dX2_placeBelow_69 fk_X2_25 pC_35 rfl ?_
    refine aw_iload_n dX2_placeBelow_72 rfl rfl ?_
    refine aw_aload_n dX2_placeBelow_73 rfl rfl ?_
    refine aw_getR (t := 9) dX2_placeBelow_74 fk_X2_62 pC_1 rfl ?_
    refine aw_iload_n dX2_placeBelow_77 rfl rfl ?_
    obtain ⟨hg6, h⟩ := gx_e h
    refine aw_iald dX2_placeBelow_78 aC_9 hg6 ?_
    refine aw_bipush dX2_placeBelow_79 ⟨by decide, by decide⟩ (by decide) ?_
    refine aw_iadd dX2_placeBelow_81 ?_
    refine aw_iconst dX2_placeBelow_82 ⟨by decide, by decide⟩ ?_
    refine aw_isub dX2_placeBelow_83 ?_
    obtain ⟨hg7, h⟩ := gx_e h
    refine aw_iast dX2_placeBelow_84 aC_40 hg7 (fun s2 e => ?_)
    replace h := sb_e h e
    clear e
    refine aw_goto (tgt := 278) dX2_placeBelow_85 (by decide) ?_
    exact aw_less (ls' := [none, none, none, none, none, none, none]) (trivial) (t_X2_placeBelow_278   s2 _ h)
  replace h := ic hc h
  have hn0 := hc
  clear hc
  by_cases hc : y3 = 1
  · replace h := ip hc h
    refine aw_tableIn (tgt := 88) dX2_placeBelow_22 (by rw [hc]; decide) (by rw [hc]; decide) (by rw [hc]; rfl) (by decide) ?_
    refine aw_aload_n dX2_placeBelow_88 rfl rfl ?_
    refine aw_iload dX2_placeBelow_89 rfl ?_
    refine aw_aload_n dX2_placeBelow_91 rfl rfl ?_
    refine aw_getR (t := 37) dX2_placeBelow_92 fk_X2_15 pC_35 rfl ?_
    refine aw_iload_n dX2_placeBelow_95 rfl rfl ?_
    obtain ⟨hg8, h⟩ := gx_e h
    refine aw_iald dX2_placeBelow_96 aC_37 hg8 ?_
    refine aw_aload_n dX2_placeBelow_97 rfl rfl ?_
    refine aw_getR (t := 38) dX2_placeBelow_98 fk_X2_19 pC_35 rfl ?_
    refine aw_iload_n dX2_placeBelow_101 rfl rfl ?_
    obtain ⟨hg9, h⟩ := gx_e h
    refine aw_iald dX2_placeBelow_102 aC_38 hg9 ?_
    obtain ⟨s3, hg10, h⟩ := bn_e h
    refine aw_V3v (M2 := M_X2_putAt) dX2_placeBelow_103 lk_X2_35 mk_X2_putAt mv_X2_putAt ⟨by decide, by decide⟩ pC_35 ⟨_, _, rfl⟩ (Nat.le_of_ble_eq_true rfl) (c_X2_putAt  hg10) ?_
    refine aw_aload_n dX2_placeBelow_106 rfl rfl ?_
    refine aw_iload dX2_placeBelow_107 rfl ?_
    refine aw_aload_n dX2_placeBelow_109 rfl rfl ?_
    refine aw_getR (t := 37) dX2_placeBelow_110 fk_X2_15 pC_35 rfl ?_
    refine aw_iload_n dX2_placeBelow_113 rfl rfl ?_
    obtain ⟨hg11, h⟩ := gx_e h
    refine aw_iald dX2_placeBelow_114 aC_37 hg11 ?_
    refine aw_aload_n dX2_placeBelow_115 rfl rfl ?_
    refine aw_iload dX2_placeBelow_116 rfl ?_
    refine aw_iconst dX2_placeBelow_118 ⟨by decide, by decide⟩ ?_
    obtain ⟨y4, hg12, h⟩ := bn_e h
    refine aw_V2i (M2 := M_X3_tell) dX2_placeBelow_119 lk_X2_39 mk_X3_tell mv_X3_tell ⟨by decide, by decide⟩ pC_23 ⟨_, _, rfl⟩ (Nat.le_of_ble_eq_true rfl) (c_X3_tell pC_23 hg12) ?_
    refine aw_iadd dX2_placeBelow_122 ?_
    refine aw_iconst dX2_placeBelow_123 ⟨by decide, by decide⟩ ?_
    refine aw_isub dX2_placeBelow_124 ?_
    refine aw_aload_n dX2_placeBelow_125 rfl rfl ?_
    refine aw_getR (t := 38) dX2_placeBelow_126 fk_X2_19 pC_35 rfl ?_
    refine aw_iload_n dX2_placeBelow_129 rfl rfl ?_
    obtain ⟨hg13, h⟩ := gx_e h
    refine aw_iald dX2_placeBelow_130 aC_38 hg13 ?_
    refine aw_aload_n dX2_placeBelow_131 rfl rfl ?_
    refine aw_iload dX2_placeBelow_132 rfl ?_
    refine aw_iconst dX2_placeBelow_134 ⟨by decide, by decide⟩ ?_
    obtain ⟨y5, hg14, h⟩ := bn_e h
    refine aw_V2i (M2 := M_X3_tell) dX2_placeBelow_135 lk_X2_39 mk_X3_tell mv_X3_tell ⟨by decide, by decide⟩ pC_23 ⟨_, _, rfl⟩ (Nat.le_of_ble_eq_true rfl) (c_X3_tell pC_23 hg14) ?_
    refine aw_iadd dX2_placeBelow_138 ?_
    obtain ⟨s4, hg15, h⟩ := bn_e h
    refine aw_V3v (M2 := M_X2_putAt) dX2_placeBelow_139 lk_X2_35 mk_X2_putAt mv_X2_putAt ⟨by decide, by decide⟩ pC_35 ⟨_, _, rfl⟩ (Nat.le_of_ble_eq_true rfl) (c_X2_putAt  hg15) ?_
    refine aw_goto (tgt := 278) dX2_placeBelow_142 (by decide) ?_
    exact aw_less (ls' := [none, none, none, none, none, none, none]) (trivial) (t_X2_placeBelow_278   s4 _ h)
  replace h := ic hc h
  have hn1 := hc
  clear hc
  by_cases hc : y3 = 2
  · replace h := ip hc h
    refine aw_tableIn (tgt := 145) dX2_placeBelow_22 (by rw [hc]; decide) (by rw [hc]; decide) (by rw [hc]; rfl) (by decide) ?_
    refine aw_aload_n dX2_placeBelow_145 rfl rfl ?_
    refine aw_iload dX2_placeBelow_146 rfl ?_
    refine aw_aload_n dX2_placeBelow_148 rfl rfl ?_
    refine aw_getR (t := 37) dX2_placeBelow_149 fk_X2_15 pC_35 rfl ?_
    refine aw_iload_n dX2_placeBelow_152 rfl rfl ?_
    obtain ⟨hg16, h⟩ := gx_e h
    refine aw_iald dX2_placeBelow_153 aC_37 hg16 ?_
    refine aw_aload_n dX2_placeBelow_154 rfl rfl ?_
    refine aw_getR (t := 38) dX2_placeBelow_155 fk_X2_19 pC_35 rfl ?_
    refine aw_iload_n dX2_placeBelow_158 rfl rfl ?_
    obtain ⟨hg17, h⟩ := gx_e h
    refine aw_iald dX2_placeBelow_159 aC_38 hg17 ?_
    obtain ⟨s5, hg18, h⟩ := bn_e h
    refine aw_V3v (M2 := M_X2_putAt) dX2_placeBelow_160 lk_X2_35 mk_X2_putAt mv_X2_putAt ⟨by decide, by decide⟩ pC_35 ⟨_, _, rfl⟩ (Nat.le_of_ble_eq_true rfl) (c_X2_putAt  hg18) ?_
    refine aw_aload_n dX2_placeBelow_163 rfl rfl ?_
    refine aw_iload dX2_placeBelow_164 rfl ?_
    refine aw_aload_n dX2_placeBelow_166 rfl rfl ?_
    refine aw_getR (t := 37) dX2_placeBelow_167 fk_X2_15 pC_35 rfl ?_
    refine aw_iload_n dX2_placeBelow_170 rfl rfl ?_
    obtain ⟨hg19, h⟩ := gx_e h
    refine aw_iald dX2_placeBelow_171 aC_37 hg19 ?_
    refine aw_aload_n dX2_placeBelow_172 rfl rfl ?_
    refine aw_iload dX2_placeBelow_173 rfl ?_
    refine aw_iconst dX2_placeBelow_175 ⟨by decide, by decide⟩ ?_
    obtain ⟨y6, hg20, h⟩ := bn_e h
    refine aw_V2i (M2 := M_X3_tell) dX2_placeBelow_176 lk_X2_39 mk_X3_tell mv_X3_tell ⟨by decide, by decide⟩ pC_23 ⟨_, _, rfl⟩ (Nat.le_of_ble_eq_true rfl) (c_X3_tell pC_23 hg20) ?_
    refine aw_iadd dX2_placeBelow_179 ?_
    refine aw_aload_n dX2_placeBelow_180 rfl rfl ?_
    refine aw_getR (t := 38) dX2_placeBelow_181 fk_X2_19 pC_35 rfl ?_
    refine aw_iload_n dX2_placeBelow_184 rfl rfl ?_
    obtain ⟨hg21, h⟩ := gx_e h
    refine aw_iald dX2_placeBelow_185 aC_38 hg21 ?_
    obtain ⟨s6, hg22, h⟩ := bn_e h
    refine aw_V3v (M2 := M_X2_putAt) dX2_placeBelow_186 lk_X2_35 mk_X2_putAt mv_X2_putAt ⟨by decide, by decide⟩ pC_35 ⟨_, _, rfl⟩ (Nat.le_of_ble_eq_true rfl) (c_X2_putAt  hg22) ?_
    refine aw_goto (tgt := 278) dX2_placeBelow_189 (by decide) ?_
    exact aw_less (ls' := [none, none, none, none, none, none, none]) (trivial) (t_X2_placeBelow_278   s6 _ h)
  replace h := ic hc h
  have hn2 := hc
  clear hc
  by_cases hc : y3 = 3
  · replace h := ip hc h
    refine aw_tableIn (tgt := 192) dX2_placeBelow_22 (by rw [hc]; decide) (by rw [hc]; decide) (by rw [hc]; rfl) (by decide) ?_
    refine aw_aload_n dX2_placeBelow_192 rfl rfl ?_
    refine aw_iload dX2_placeBelow_193 rfl ?_
    refine aw_iconst dX2_placeBelow_195 ⟨by decide, by decide⟩ ?_
    refine aw_aload_n dX2_placeBelow_196 rfl rfl ?_
    refine aw_getR (t := 9) dX2_placeBelow_197 fk_X2_62 pC_1 rfl ?_
    refine aw_iload_n dX2_placeBelow_200 rfl rfl ?_
    obtain ⟨hg23, h⟩ := gx_e h
    refine aw_iald dX2_placeBelow_201 aC_9 hg23 ?_
    refine aw_ishl dX2_placeBelow_202 ?_
    refine aw_iand dX2_placeBelow_203 ?_
    refine aw_if_ne (tgt := 212) dX2_placeBelow_204 (by decide) (fun hc => ?_) (fun hc => ?_)
    rotate_left
    · replace h := ip hc h
      refine aw_iload dX2_placeBelow_207 rfl ?_
      refine aw_goto (tgt := 214) dX2_placeBelow_209 (by decide) ?_
      exact aw_less (ls' := [some (vR (some 35)), none, none, some (vI x3), none, none, none]) (⟨rfl, ⟨rfl, trivial⟩⟩) (t_X2_placeBelow_214   x3 y1 s0 _ h)
    · replace h := ic hc h
      refine aw_iload dX2_placeBelow_212 rfl ?_
      exact aw_less (ls' := [some (vR (some 35)), none, none, some (vI x3), none, none, none]) (⟨rfl, ⟨rfl, trivial⟩⟩) (t_X2_placeBelow_214   x3 y2 s0 _ h)
  replace h := ic hc h
  have hn3 := hc
  clear hc
  by_cases hc : y3 = 4
  · replace h := ip hc h
    refine aw_tableIn (tgt := 232) dX2_placeBelow_22 (by rw [hc]; decide) (by rw [hc]; decide) (by rw [hc]; rfl) (by decide) ?_
    refine aw_aload_n dX2_placeBelow_232 rfl rfl ?_
    refine aw_iload dX2_placeBelow_233 rfl ?_
    refine aw_aload_n dX2_placeBelow_235 rfl rfl ?_
    refine aw_getR (t := 37) dX2_placeBelow_236 fk_X2_15 pC_35 rfl ?_
    refine aw_iload_n dX2_placeBelow_239 rfl rfl ?_
    obtain ⟨hg24, h⟩ := gx_e h
    refine aw_iald dX2_placeBelow_240 aC_37 hg24 ?_
    refine aw_aload_n dX2_placeBelow_241 rfl rfl ?_
    refine aw_getR (t := 38) dX2_placeBelow_242 fk_X2_19 pC_35 rfl ?_
    refine aw_iload_n dX2_placeBelow_245 rfl rfl ?_
    obtain ⟨hg25, h⟩ := gx_e h
    refine aw_iald dX2_placeBelow_246 aC_38 hg25 ?_
    refine aw_aload_n dX2_placeBelow_247 rfl rfl ?_
    refine aw_getR (t := 9) dX2_placeBelow_248 fk_X2_62 pC_1 rfl ?_
    refine aw_iload_n dX2_placeBelow_251 rfl rfl ?_
    obtain ⟨hg26, h⟩ := gx_e h
    refine aw_iald dX2_placeBelow_252 aC_9 hg26 ?_
    refine aw_iadd dX2_placeBelow_253 ?_
    obtain ⟨s7, hg27, h⟩ := bn_e h
    refine aw_V3v (M2 := M_X2_putAt) dX2_placeBelow_254 lk_X2_35 mk_X2_putAt mv_X2_putAt ⟨by decide, by decide⟩ pC_35 ⟨_, _, rfl⟩ (Nat.le_of_ble_eq_true rfl) (c_X2_putAt  hg27) ?_
    refine aw_goto (tgt := 278) dX2_placeBelow_257 (by decide) ?_
    exact aw_less (ls' := [none, none, none, none, none, none, none]) (trivial) (t_X2_placeBelow_278   s7 _ h)
  replace h := ic hc h
  have hn4 := hc
  clear hc
  have hK : AW LC M_X2_placeBelow (none, r) 260 [some (vR (some 35)), some (vR (some 1)), some (vR (some 23)), some (vI x3), some (vI x4), some (vI y1), some (vI y2)] [] s0 := by
    refine aw_aload_n dX2_placeBelow_260 rfl rfl ?_
    refine aw_iload dX2_placeBelow_261 rfl ?_
    refine aw_aload_n dX2_placeBelow_263 rfl rfl ?_
    refine aw_getR (t := 37) dX2_placeBelow_264 fk_X2_15 pC_35 rfl ?_
    refine aw_iload_n dX2_placeBelow_267 rfl rfl ?_
    obtain ⟨hg28, h⟩ := gx_e h
    refine aw_iald dX2_placeBelow_268 aC_37 hg28 ?_
    refine aw_aload_n dX2_placeBelow_269 rfl rfl ?_
    refine aw_getR (t := 38) dX2_placeBelow_270 fk_X2_19 pC_35 rfl ?_
    refine aw_iload_n dX2_placeBelow_273 rfl rfl ?_
    obtain ⟨hg29, h⟩ := gx_e h
    refine aw_iald dX2_placeBelow_274 aC_38 hg29 ?_
    obtain ⟨s8, hg30, h⟩ := bn_e h
    refine aw_V3v (M2 := M_X2_putAt) dX2_placeBelow_275 lk_X2_35 mk_X2_putAt mv_X2_putAt ⟨by decide, by decide⟩ pC_35 ⟨_, _, rfl⟩ (Nat.le_of_ble_eq_true rfl) (c_X2_putAt  hg30) ?_
    exact aw_less (ls' := [none, none, none, none, none, none, none]) (trivial) (t_X2_placeBelow_278   s8 _ h)
  by_cases hr : y3 < 0 ∨ 4 < y3
  · exact aw_tableOut (tgt := 260) dX2_placeBelow_22 hr (by decide) hK
  · exact absurd hr (by omega)
theorem c_X2_placeBelow {x3 : Int} {x4 : Int} {s0 : SS} {s1 : SS} (h : f_X2_placeBelow x3 x4 s0 = some s1) : CT LC M_X2_placeBelow [vR (some 35), vR (some 1), vR (some 23), vI x3, vI x4] s0 (none, s1) :=
  ct_of (n := 2) (by decide) (Nat.le_of_ble_eq_true rfl) (t_X2_placeBelow_0 x3 x4 s0  _ h)
def g_X2_place_92  (s0 : SS) : Option SS :=
  some s0
set_option maxHeartbeats 4000000 in
theorem t_X2_place_92  : ∀ (s0 : SS) (r : SS), g_X2_place_92 s0 = some r → AW LC M_X2_place (none, r) 92 [none, none, none, none, none] [] s0 := by
  intro s0 r h
  unfold g_X2_place_92 at h
  obtain rfl := Option.some.inj h
  exact aw_vret dX2_place_92 rfl
def g_X2_place_86 (k49 : Int → Int → SS → Option SS) (x3 : Int) (x4 : Int) (s0 : SS) : Option SS :=
  sb (wr (x4 + 1)) fun y1 =>
  k49 x3 y1 s0
set_option maxHeartbeats 4000000 in
theorem t_X2_place_86 (k49 : Int → Int → SS → Option SS) (hk49 : ∀ (x3 : Int) (x4 : Int) (s0 : SS) (r : SS), k49 x3 x4 s0 = some r → AW LC M_X2_place (none, r) 49 [some (vR (some 35)), some (vR (some 1)), some (vR (some 23)), some (vI x3), some (vI x4)] [] s0) : ∀ (x3 : Int) (x4 : Int) (s0 : SS) (r : SS), g_X2_place_86 k49 x3 x4 s0 = some r → AW LC M_X2_place (none, r) 86 [some (vR (some 35)), some (vR (some 1)), some (vR (some 23)), some (vI x3), some (vI x4)] [] s0 := by
  intro x3 x4 s0 r h
  unfold g_X2_place_86 at h
  refine aw_iinc dX2_place_86 rfl (by decide) rfl (fun y1 e => ?_)
  replace h := sb_e h e
  clear e
  show AW _ _ _ 89 [some (vR (some 35)), some (vR (some 1)), some (vR (some 23)), some (vI x3), some (vI y1)] _ _
  refine aw_goto (tgt := 49) dX2_place_89 (by decide) ?_
  exact (hk49 x3 y1 s0 _ h)
def g_X2_place_49 (k49 : Int → Int → SS → Option SS) (x3 : Int) (x4 : Int) (s0 : SS) : Option SS :=
  if (s0 1 9) ≤ x4 then (
    g_X2_place_92  s0
  ) else (
    bn (f_X0_hasPart x4 s0) fun y1 =>
    if y1 = 0 then (
      g_X2_place_86 k49 x3 x4 s0
    ) else (
      gx x4 40 <|
      if (s0 36 x4.toNat) = 0 then (
        g_X2_place_86 k49 x3 x4 s0
      ) else (
        bn (f_X2_placeBelow x4 x3 s0) fun s1 =>
        g_X2_place_86 k49 x3 x4 s1
      )
    )
  )
set_option maxHeartbeats 4000000 in
theorem t_X2_place_49 (k49 : Int → Int → SS → Option SS) (hk49 : ∀ (x3 : Int) (x4 : Int) (s0 : SS) (r : SS), k49 x3 x4 s0 = some r → AW LC M_X2_place (none, r) 49 [some (vR (some 35)), some (vR (some 1)), some (vR (some 23)), some (vI x3), some (vI x4)] [] s0) : ∀ (x3 : Int) (x4 : Int) (s0 : SS) (r : SS), g_X2_place_49 k49 x3 x4 s0 = some r → AW LC M_X2_place (none, r) 49 [some (vR (some 35)), some (vR (some 1)), some (vR (some 23)), some (vI x3), some (vI x4)] [] s0 := by
  intro x3 x4 s0 r h
  unfold g_X2_place_49 at h
  refine aw_iload dX2_place_49 rfl ?_
  refine aw_aload_n dX2_place_51 rfl rfl ?_
  refine aw_getI dX2_place_52 fk_X2_32 pC_1 rfl ?_
  refine aw_icmp_ge (tgt := 92) dX2_place_55 (by decide) (fun hc => ?_) (fun hc => ?_)
  · replace h := ip hc h
    exact aw_less (ls' := [none, none, none, none, none]) (trivial) (t_X2_place_92   s0 _ h)
  · replace h := ic hc h
    refine aw_aload_n dX2_place_58 rfl rfl ?_
    refine aw_iload dX2_place_59 rfl ?_
    obtain ⟨y1, hg1, h⟩ := bn_e h
    refine aw_V1i (M2 := M_X0_hasPart) dX2_place_61 lk_X2_45 mk_X0_hasPart mv_X0_hasPart ⟨by decide, by decide⟩ pC_1 ⟨_, _, rfl⟩ (Nat.le_of_ble_eq_true rfl) (c_X0_hasPart  hg1) ?_
    refine aw_if_eq (tgt := 86) dX2_place_64 (by decide) (fun hc => ?_) (fun hc => ?_)
    · replace h := ip hc h
      exact (t_X2_place_86 k49 hk49 x3 x4 s0 _ h)
    · replace h := ic hc h
      refine aw_aload_n dX2_place_67 rfl rfl ?_
      refine aw_getR (t := 36) dX2_place_68 fk_X2_9 pC_35 rfl ?_
      refine aw_iload dX2_place_71 rfl ?_
      obtain ⟨hg2, h⟩ := gx_e h
      refine aw_zald dX2_place_73 aC_36 hg2 ?_
      refine aw_if_eq (tgt := 86) dX2_place_74 (by decide) (fun hc => ?_) (fun hc => ?_)
      · replace h := ip hc h
        exact (t_X2_place_86 k49 hk49 x3 x4 s0 _ h)
      · replace h := ic hc h
        refine aw_aload_n dX2_place_77 rfl rfl ?_
        refine aw_aload_n dX2_place_78 rfl rfl ?_
        refine aw_aload_n dX2_place_79 rfl rfl ?_
        refine aw_iload dX2_place_80 rfl ?_
        refine aw_iload_n dX2_place_82 rfl rfl ?_
        obtain ⟨s1, hg3, h⟩ := bn_e h
        refine aw_V4v (M2 := M_X2_placeBelow) dX2_place_83 lk_X2_49 mk_X2_placeBelow mv_X2_placeBelow ⟨by decide, by decide⟩ pC_35 ⟨_, _, rfl⟩ (Nat.le_of_ble_eq_true rfl) (c_X2_placeBelow  hg3) ?_
        exact (t_X2_place_86 k49 hk49 x3 x4 s1 _ h)
def f_X2_place_49 : Nat → Int → Int → SS → Option SS
  | 0 => fun _ _ _ => none
  | n + 1 => g_X2_place_49 (f_X2_place_49  n)
theorem s_X2_place_49  : ∀ (n : Nat), ∀ (x3 : Int) (x4 : Int) (s0 : SS) (r : SS), f_X2_place_49 n x3 x4 s0 = some r → AW LC M_X2_place (none, r) 49 [some (vR (some 35)), some (vR (some 1)), some (vR (some 23)), some (vI x3), some (vI x4)] [] s0 := by
  intro n
  induction n with
  | zero =>
    intro x3 x4 s0 r h
    cases h
  | succ n ih =>
    intro x3 x4 s0 r h
    exact t_X2_place_49 (f_X2_place_49  n) ih x3 x4 s0 r h
def g_X2_place_32  (s0 : SS) : Option SS :=
  bn (f_X2_putAt 0 0 0 s0) fun s1 =>
  bn (f_X3_tell 23 0 3 s1) fun y1 =>
  f_X2_place_49  FU y1 0 s1
set_option maxHeartbeats 4000000 in
theorem t_X2_place_32  : ∀ (s0 : SS) (r : SS), g_X2_place_32 s0 = some r → AW LC M_X2_place (none, r) 32 [some (vR (some 35)), some (vR (some 1)), some (vR (some 23)), none, none] [] s0 := by
  intro s0 r h
  unfold g_X2_place_32 at h
  refine aw_aload_n dX2_place_32 rfl rfl ?_
  refine aw_iconst dX2_place_33 ⟨by decide, by decide⟩ ?_
  refine aw_iconst dX2_place_34 ⟨by decide, by decide⟩ ?_
  refine aw_iconst dX2_place_35 ⟨by decide, by decide⟩ ?_
  obtain ⟨s1, hg1, h⟩ := bn_e h
  refine aw_V3v (M2 := M_X2_putAt) dX2_place_36 lk_X2_35 mk_X2_putAt mv_X2_putAt ⟨by decide, by decide⟩ pC_35 ⟨_, _, rfl⟩ (Nat.le_of_ble_eq_true rfl) (c_X2_putAt  hg1) ?_
  refine aw_aload_n dX2_place_39 rfl rfl ?_
  refine aw_iconst dX2_place_40 ⟨by decide, by decide⟩ ?_
  refine aw_iconst dX2_place_41 ⟨by decide, by decide⟩ ?_
  obtain ⟨y1, hg2, h⟩ := bn_e h
  refine aw_V2i (M2 := M_X3_tell) dX2_place_42 lk_X2_39 mk_X3_tell mv_X3_tell ⟨by decide, by decide⟩ pC_23 ⟨_, _, rfl⟩ (Nat.le_of_ble_eq_true rfl) (c_X3_tell pC_23 hg2) ?_
  refine aw_istore_nA dX2_place_45 rfl (by decide) rfl ?_
  show AW _ _ _ 46 [some (vR (some 35)), some (vR (some 1)), some (vR (some 23)), some (vI y1), none] _ _
  refine aw_iconst dX2_place_46 ⟨by decide, by decide⟩ ?_
  refine aw_istoreA dX2_place_47 (by decide) rfl ?_
  show AW _ _ _ 49 [some (vR (some 35)), some (vR (some 1)), some (vR (some 23)), some (vI y1), some (vI 0)] _ _
  exact (s_X2_place_49   FU y1 0 s1 _ h)
def g_X2_place_10 (k10 : Int → SS → Option SS) (x3 : Int) (s0 : SS) : Option SS :=
  if 40 ≤ x3 then (
    g_X2_place_32  s0
  ) else (
    gx x3 40 <|
    sb (up s0 36 x3.toNat 0) fun s1 =>
    sb (wr (x3 + 1)) fun y1 =>
    k10 y1 s1
  )
set_option maxHeartbeats 4000000 in
theorem t_X2_place_10 (k10 : Int → SS → Option SS) (hk10 : ∀ (x3 : Int) (s0 : SS) (r : SS), k10 x3 s0 = some r → AW LC M_X2_place (none, r) 10 [some (vR (some 35)), some (vR (some 1)), some (vR (some 23)), some (vI x3), none] [] s0) : ∀ (x3 : Int) (s0 : SS) (r : SS), g_X2_place_10 k10 x3 s0 = some r → AW LC M_X2_place (none, r) 10 [some (vR (some 35)), some (vR (some 1)), some (vR (some 23)), some (vI x3), none] [] s0 := by
  intro x3 s0 r h
  unfold g_X2_place_10 at h
  refine aw_iload_n dX2_place_10 rfl rfl ?_
  refine aw_aload_n dX2_place_11 rfl rfl ?_
  refine aw_getR (t := 36) dX2_place_12 fk_X2_9 pC_35 rfl ?_
  refine aw_alen dX2_place_15 aC_36 (by decide) ⟨by decide, by decide⟩ ?_
  refine aw_icmp_ge (tgt := 32) dX2_place_16 (by decide) (fun hc => ?_) (fun hc => ?_)
  · replace h := ip hc h
    exact aw_less (ls' := [some (vR (some 35)), some (vR (some 1)), some (vR (some 23)), none, none]) (⟨rfl, ⟨rfl, ⟨rfl, trivial⟩⟩⟩) (t_X2_place_32   s0 _ h)
  · replace h := ic hc h
    refine aw_aload_n dX2_place_19 rfl rfl ?_
    refine aw_getR (t := 36) dX2_place_20 fk_X2_9 pC_35 rfl ?_
    refine aw_iload_n dX2_place_23 rfl rfl ?_
    refine aw_iconst dX2_place_24 ⟨by decide, by decide⟩ ?_
    obtain ⟨hg1, h⟩ := gx_e h
    refine aw_zast dX2_place_25 aC_36 hg1 (by decide) (fun s1 e => ?_)
    replace h := sb_e h e
    clear e
    refine aw_iinc dX2_place_26 rfl (by decide) rfl (fun y1 e => ?_)
    replace h := sb_e h e
    clear e
    show AW _ _ _ 29 [some (vR (some 35)), some (vR (some 1)), some (vR (some 23)), some (vI y1), none] _ _
    refine aw_goto (tgt := 10) dX2_place_29 (by decide) ?_
    exact (hk10 y1 s1 _ h)
def f_X2_place_10 : Nat → Int → SS → Option SS
  | 0 => fun _ _ => none
  | n + 1 => g_X2_place_10 (f_X2_place_10  n)
theorem s_X2_place_10  : ∀ (n : Nat), ∀ (x3 : Int) (s0 : SS) (r : SS), f_X2_place_10 n x3 s0 = some r → AW LC M_X2_place (none, r) 10 [some (vR (some 35)), some (vR (some 1)), some (vR (some 23)), some (vI x3), none] [] s0 := by
  intro n
  induction n with
  | zero =>
    intro x3 s0 r h
    cases h
  | succ n ih =>
    intro x3 s0 r h
    exact t_X2_place_10 (f_X2_place_10  n) ih x3 s0 r h
def f_X2_place  (s0 : SS) : Option SS :=
  sb (up s0 35 5 (s0 1 9)) fun s1 =>
  f_X2_place_10  FU 0 s1
set_option maxHeartbeats 4000000 in
theorem t_X2_place_0  : ∀ (s0 : SS) (r : SS), f_X2_place s0 = some r → AW LC M_X2_place (none, r) 0 [some (vR (some 35)), some (vR (some 1)), some (vR (some 23)), none, none] [] s0 := by
  intro s0 r h
  unfold f_X2_place at h
  refine aw_aload_n dX2_place_0 rfl rfl ?_
  refine aw_aload_n dX2_place_1 rfl rfl ?_
  refine aw_getI dX2_place_2 fk_X2_32 pC_1 rfl ?_
  refine aw_put dX2_place_5 fk_X2_28 pC_35 rfl ft_2_5 (nar_int _) (fun s1 e => ?_)
  replace h := sb_e h e
  clear e
  refine aw_iconst dX2_place_8 ⟨by decide, by decide⟩ ?_
  refine aw_istore_nA dX2_place_9 rfl (by decide) rfl ?_
  show AW _ _ _ 10 [some (vR (some 35)), some (vR (some 1)), some (vR (some 23)), some (vI 0), none] _ _
  exact (s_X2_place_10   FU 0 s1 _ h)
theorem c_X2_place {s0 : SS} {s1 : SS} (h : f_X2_place s0 = some s1) : CT LC M_X2_place [vR (some 35), vR (some 1), vR (some 23)] s0 (none, s1) :=
  ct_of (n := 2) (by decide) (Nat.le_of_ble_eq_true rfl) (t_X2_place_0  s0  _ h)
def f_X6_keepBest (x1 : Int) (s0 : SS) : Option SS :=
  bn (f_X3_tell 11 x1 0 s0) fun y1 =>
  bn (f_X3_tell 11 x1 1 s0) fun y2 =>
  bn (f_X3_tell 11 x1 2 s0) fun y3 =>
  bn (f_X3_tell 11 x1 3 s0) fun y4 =>
  bn (f_X3_set 17 0 y1 y2 y3 y4 s0) fun s1 =>
  bn (f_X3_tell 17 0 3 s1) fun y5 =>
  bn (f_X5_shapeParts y5 s1) fun s2 =>
  bn (f_X2_place s2) fun s3 =>
  some s3
set_option maxHeartbeats 4000000 in
theorem t_X6_keepBest_0  : ∀ (x1 : Int) (s0 : SS) (r : SS), f_X6_keepBest x1 s0 = some r → AW LC M_X6_keepBest (none, r) 0 [some (vR (some 0)), some (vI x1), none] [] s0 := by
  intro x1 s0 r h
  unfold f_X6_keepBest at h
  refine aw_aload_n dX6_keepBest_0 rfl rfl ?_
  refine aw_getR (t := 10) dX6_keepBest_1 fk_X6_19 pC_0 rfl ?_
  refine aw_getR (t := 11) dX6_keepBest_4 fk_X6_109 pC_10 rfl ?_
  refine aw_astore_n dX6_keepBest_7 rfl (by decide) rfl ?_
  show AW _ _ _ 8 [some (vR (some 0)), some (vI x1), some (vR (some 11))] _ _
  refine aw_aload_n dX6_keepBest_8 rfl rfl ?_
  refine aw_getR (t := 17) dX6_keepBest_9 fk_X6_28 pC_0 rfl ?_
  refine aw_iconst dX6_keepBest_12 ⟨by decide, by decide⟩ ?_
  refine aw_aload_n dX6_keepBest_13 rfl rfl ?_
  refine aw_iload_n dX6_keepBest_14 rfl rfl ?_
  refine aw_iconst dX6_keepBest_15 ⟨by decide, by decide⟩ ?_
  obtain ⟨y1, hg1, h⟩ := bn_e h
  refine aw_V2i (M2 := M_X3_tell) dX6_keepBest_16 lk_X6_112 mk_X3_tell mv_X3_tell ⟨by decide, by decide⟩ pC_11 ⟨_, _, rfl⟩ (Nat.le_of_ble_eq_true rfl) (c_X3_tell pC_11 hg1) ?_
  refine aw_aload_n dX6_keepBest_19 rfl rfl ?_
  refine aw_iload_n dX6_keepBest_20 rfl rfl ?_
  refine aw_iconst dX6_keepBest_21 ⟨by decide, by decide⟩ ?_
  obtain ⟨y2, hg2, h⟩ := bn_e h
  refine aw_V2i (M2 := M_X3_tell) dX6_keepBest_22 lk_X6_112 mk_X3_tell mv_X3_tell ⟨by decide, by decide⟩ pC_11 ⟨_, _, rfl⟩ (Nat.le_of_ble_eq_true rfl) (c_X3_tell pC_11 hg2) ?_
  refine aw_aload_n dX6_keepBest_25 rfl rfl ?_
  refine aw_iload_n dX6_keepBest_26 rfl rfl ?_
  refine aw_iconst dX6_keepBest_27 ⟨by decide, by decide⟩ ?_
  obtain ⟨y3, hg3, h⟩ := bn_e h
  refine aw_V2i (M2 := M_X3_tell) dX6_keepBest_28 lk_X6_112 mk_X3_tell mv_X3_tell ⟨by decide, by decide⟩ pC_11 ⟨_, _, rfl⟩ (Nat.le_of_ble_eq_true rfl) (c_X3_tell pC_11 hg3) ?_
  refine aw_aload_n dX6_keepBest_31 rfl rfl ?_
  refine aw_iload_n dX6_keepBest_32 rfl rfl ?_
  refine aw_iconst dX6_keepBest_33 ⟨by decide, by decide⟩ ?_
  obtain ⟨y4, hg4, h⟩ := bn_e h
  refine aw_V2i (M2 := M_X3_tell) dX6_keepBest_34 lk_X6_112 mk_X3_tell mv_X3_tell ⟨by decide, by decide⟩ pC_11 ⟨_, _, rfl⟩ (Nat.le_of_ble_eq_true rfl) (c_X3_tell pC_11 hg4) ?_
  obtain ⟨s1, hg5, h⟩ := bn_e h
  refine aw_V5v (M2 := M_X3_set) dX6_keepBest_37 lk_X6_278 mk_X3_set mv_X3_set ⟨by decide, by decide⟩ pC_17 ⟨_, _, rfl⟩ (Nat.le_of_ble_eq_true rfl) (c_X3_set pC_17 hg5) ?_
  refine aw_aload_n dX6_keepBest_40 rfl rfl ?_
  refine aw_getR (t := 22) dX6_keepBest_41 fk_X6_35 pC_0 rfl ?_
  refine aw_aload_n dX6_keepBest_44 rfl rfl ?_
  refine aw_getR (t := 1) dX6_keepBest_45 fk_X6_10 pC_0 rfl ?_
  refine aw_aload_n dX6_keepBest_48 rfl rfl ?_
  refine aw_getR (t := 17) dX6_keepBest_49 fk_X6_28 pC_0 rfl ?_
  refine aw_iconst dX6_keepBest_52 ⟨by decide, by decide⟩ ?_
  refine aw_iconst dX6_keepBest_53 ⟨by decide, by decide⟩ ?_
  obtain ⟨y5, hg6, h⟩ := bn_e h
  refine aw_V2i (M2 := M_X3_tell) dX6_keepBest_54 lk_X6_112 mk_X3_tell mv_X3_tell ⟨by decide, by decide⟩ pC_17 ⟨_, _, rfl⟩ (Nat.le_of_ble_eq_true rfl) (c_X3_tell pC_17 hg6) ?_
  obtain ⟨s2, hg7, h⟩ := bn_e h
  refine aw_V2v (M2 := M_X5_shapeParts) dX6_keepBest_57 lk_X6_282 mk_X5_shapeParts mv_X5_shapeParts ⟨by decide, by decide⟩ pC_22 ⟨_, _, rfl⟩ (Nat.le_of_ble_eq_true rfl) (c_X5_shapeParts  hg7) ?_
  refine aw_aload_n dX6_keepBest_60 rfl rfl ?_
  refine aw_getR (t := 35) dX6_keepBest_61 fk_X6_42 pC_0 rfl ?_
  refine aw_aload_n dX6_keepBest_64 rfl rfl ?_
  refine aw_getR (t := 1) dX6_keepBest_65 fk_X6_10 pC_0 rfl ?_
  refine aw_aload_n dX6_keepBest_68 rfl rfl ?_
  refine aw_getR (t := 22) dX6_keepBest_69 fk_X6_35 pC_0 rfl ?_
  refine aw_getR (t := 23) dX6_keepBest_72 fk_X6_285 pC_22 rfl ?_
  obtain ⟨s3, hg8, h⟩ := bn_e h
  refine aw_V2v (M2 := M_X2_place) dX6_keepBest_75 lk_X6_287 mk_X2_place mv_X2_place ⟨by decide, by decide⟩ pC_35 ⟨_, _, rfl⟩ (Nat.le_of_ble_eq_true rfl) (c_X2_place  hg8) ?_
  obtain rfl := Option.some.inj h
  exact aw_vret dX6_keepBest_78 rfl
theorem c_X6_keepBest {x1 : Int} {s0 : SS} {s1 : SS} (h : f_X6_keepBest x1 s0 = some s1) : CT LC M_X6_keepBest [vR (some 0), vI x1] s0 (none, s1) :=
  ct_of (n := 1) (by decide) (Nat.le_of_ble_eq_true rfl) (t_X6_keepBest_0 x1 s0  _ h)
def g_X6_chooseBest_131  (s0 : SS) : Option SS :=
  some s0
set_option maxHeartbeats 4000000 in
theorem t_X6_chooseBest_131  : ∀ (s0 : SS) (r : SS), g_X6_chooseBest_131 s0 = some r → AW LC M_X6_chooseBest (none, r) 131 [none, none] [] s0 := by
  intro s0 r h
  unfold g_X6_chooseBest_131 at h
  obtain rfl := Option.some.inj h
  exact aw_vret dX6_chooseBest_131 rfl
def g_X6_chooseBest_109  (s0 : SS) : Option SS :=
  if (s0 0 9) = 0 then (
    g_X6_chooseBest_131  s0
  ) else (
    bn (f_X1_make (s0 0 6) s0) fun s1 =>
    g_X6_chooseBest_131  s1
  )
set_option maxHeartbeats 4000000 in
theorem t_X6_chooseBest_109  : ∀ (s0 : SS) (r : SS), g_X6_chooseBest_109 s0 = some r → AW LC M_X6_chooseBest (none, r) 109 [some (vR (some 0)), none] [] s0 := by
  intro s0 r h
  unfold g_X6_chooseBest_109 at h
  refine aw_aload_n dX6_chooseBest_109 rfl rfl ?_
  refine aw_getI dX6_chooseBest_110 fk_X6_126 pC_0 rfl ?_
  refine aw_if_eq (tgt := 131) dX6_chooseBest_113 (by decide) (fun hc => ?_) (fun hc => ?_)
  · replace h := ip hc h
    exact aw_less (ls' := [none, none]) (trivial) (t_X6_chooseBest_131   s0 _ h)
  · replace h := ic hc h
    refine aw_aload_n dX6_chooseBest_116 rfl rfl ?_
    refine aw_getR (t := 10) dX6_chooseBest_117 fk_X6_19 pC_0 rfl ?_
    refine aw_aload_n dX6_chooseBest_120 rfl rfl ?_
    refine aw_getR (t := 1) dX6_chooseBest_121 fk_X6_10 pC_0 rfl ?_
    refine aw_aload_n dX6_chooseBest_124 rfl rfl ?_
    refine aw_getI dX6_chooseBest_125 fk_X6_53 pC_0 rfl ?_
    obtain ⟨s1, hg1, h⟩ := bn_e h
    refine aw_V2v (M2 := M_X1_make) dX6_chooseBest_128 lk_X6_264 mk_X1_make mv_X1_make ⟨by decide, by decide⟩ pC_10 ⟨_, _, rfl⟩ (Nat.le_of_ble_eq_true rfl) (c_X1_make  hg1) ?_
    exact aw_less (ls' := [none, none]) (trivial) (t_X6_chooseBest_131   s1 _ h)
def g_X6_chooseBest_87 (x1 : Int) (z0 : Int) (s0 : SS) : Option SS :=
  gb z0 <|
  sb (up s0 0 8 z0) fun s1 =>
  bn (f_X2_clear s1) fun s2 =>
  if (s2 0 8) = 0 then (
    g_X6_chooseBest_109  s2
  ) else (
    bn (f_X6_keepBest x1 s2) fun s3 =>
    g_X6_chooseBest_109  s3
  )
set_option maxHeartbeats 4000000 in
theorem t_X6_chooseBest_87  : ∀ (x1 : Int) (z0 : Int) (s0 : SS) (r : SS), g_X6_chooseBest_87 x1 z0 s0 = some r → AW LC M_X6_chooseBest (none, r) 87 [some (vR (some 0)), some (vI x1)] [vI z0, vR (some 0)] s0 := by
  intro x1 z0 s0 r h
  unfold g_X6_chooseBest_87 at h
  obtain ⟨hg1, h⟩ := gb_e h
  refine aw_put dX6_chooseBest_87 fk_X6_122 pC_0 rfl ft_6_8 (nar_bool hg1) (fun s1 e => ?_)
  replace h := sb_e h e
  clear e
  refine aw_aload_n dX6_chooseBest_90 rfl rfl ?_
  refine aw_getR (t := 35) dX6_chooseBest_91 fk_X6_42 pC_0 rfl ?_
  obtain ⟨s2, hg2, h⟩ := bn_e h
  refine aw_V0v (M2 := M_X2_clear) dX6_chooseBest_94 lk_X6_272 mk_X2_clear mv_X2_clear ⟨by decide, by decide⟩ pC_35 ⟨_, _, rfl⟩ (Nat.le_of_ble_eq_true rfl) (c_X2_clear  hg2) ?_
  refine aw_aload_n dX6_chooseBest_97 rfl rfl ?_
  refine aw_getI dX6_chooseBest_98 fk_X6_122 pC_0 rfl ?_
  refine aw_if_eq (tgt := 109) dX6_chooseBest_101 (by decide) (fun hc => ?_) (fun hc => ?_)
  · replace h := ip hc h
    exact aw_less (ls' := [some (vR (some 0)), none]) (⟨rfl, trivial⟩) (t_X6_chooseBest_109   s2 _ h)
  · replace h := ic hc h
    refine aw_aload_n dX6_chooseBest_104 rfl rfl ?_
    refine aw_iload_n dX6_chooseBest_105 rfl rfl ?_
    obtain ⟨s3, hg3, h⟩ := bn_e h
    refine aw_V1v (M2 := M_X6_keepBest) dX6_chooseBest_106 lk_X6_275 mk_X6_keepBest mv_X6_keepBest ⟨by decide, by decide⟩ pC_0 ⟨_, _, rfl⟩ (Nat.le_of_ble_eq_true rfl) (c_X6_keepBest  hg3) ?_
    exact aw_less (ls' := [some (vR (some 0)), none]) (⟨rfl, trivial⟩) (t_X6_chooseBest_109   s3 _ h)
def g_X6_chooseBest_76 (x1 : Int) (s0 : SS) : Option SS :=
  if x1 = (-1) then (
    g_X6_chooseBest_87  x1 0 s0
  ) else (
    g_X6_chooseBest_87  x1 1 s0
  )
set_option maxHeartbeats 4000000 in
theorem t_X6_chooseBest_76  : ∀ (x1 : Int) (s0 : SS) (r : SS), g_X6_chooseBest_76 x1 s0 = some r → AW LC M_X6_chooseBest (none, r) 76 [some (vR (some 0)), some (vI x1)] [] s0 := by
  intro x1 s0 r h
  unfold g_X6_chooseBest_76 at h
  refine aw_aload_n dX6_chooseBest_76 rfl rfl ?_
  refine aw_iload_n dX6_chooseBest_77 rfl rfl ?_
  refine aw_iconst dX6_chooseBest_78 ⟨by decide, by decide⟩ ?_
  refine aw_icmp_eq (tgt := 86) dX6_chooseBest_79 (by decide) (fun hc => ?_) (fun hc => ?_)
  · replace h := ip hc h
    refine aw_iconst dX6_chooseBest_86 ⟨by decide, by decide⟩ ?_
    exact (t_X6_chooseBest_87   x1 0 s0 _ h)
  · replace h := ic hc h
    refine aw_iconst dX6_chooseBest_82 ⟨by decide, by decide⟩ ?_
    refine aw_goto (tgt := 87) dX6_chooseBest_83 (by decide) ?_
    exact (t_X6_chooseBest_87   x1 1 s0 _ h)
def g_X6_chooseBest_44 (x1 : Int) (z0 : Int) (s0 : SS) : Option SS :=
  gb z0 <|
  sb (up s0 0 9 z0) fun s1 =>
  if (s1 0 9) = 0 then (
    g_X6_chooseBest_76  x1 s1
  ) else (
    bn (f_X1_make 1000 s1) fun s2 =>
    bn (f_X1_leastMost s2) fun y1 =>
    g_X6_chooseBest_76  y1 s2
  )
set_option maxHeartbeats 4000000 in
theorem t_X6_chooseBest_44  : ∀ (x1 : Int) (z0 : Int) (s0 : SS) (r : SS), g_X6_chooseBest_44 x1 z0 s0 = some r → AW LC M_X6_chooseBest (none, r) 44 [some (vR (some 0)), some (vI x1)] [vI z0, vR (some 0)] s0 := by
  intro x1 z0 s0 r h
  unfold g_X6_chooseBest_44 at h
  obtain ⟨hg1, h⟩ := gb_e h
  refine aw_put dX6_chooseBest_44 fk_X6_126 pC_0 rfl ft_6_9 (nar_bool hg1) (fun s1 e => ?_)
  replace h := sb_e h e
  clear e
  refine aw_aload_n dX6_chooseBest_47 rfl rfl ?_
  refine aw_getI dX6_chooseBest_48 fk_X6_126 pC_0 rfl ?_
  refine aw_if_eq (tgt := 76) dX6_chooseBest_51 (by decide) (fun hc => ?_) (fun hc => ?_)
  · replace h := ip hc h
    exact (t_X6_chooseBest_76   x1 s1 _ h)
  · replace h := ic hc h
    refine aw_aload_n dX6_chooseBest_54 rfl rfl ?_
    refine aw_getR (t := 10) dX6_chooseBest_55 fk_X6_19 pC_0 rfl ?_
    refine aw_aload_n dX6_chooseBest_58 rfl rfl ?_
    refine aw_getR (t := 1) dX6_chooseBest_59 fk_X6_10 pC_0 rfl ?_
    refine aw_sipush dX6_chooseBest_62 ⟨by decide, by decide⟩ (by decide) ?_
    obtain ⟨s2, hg2, h⟩ := bn_e h
    refine aw_V2v (M2 := M_X1_make) dX6_chooseBest_65 lk_X6_264 mk_X1_make mv_X1_make ⟨by decide, by decide⟩ pC_10 ⟨_, _, rfl⟩ (Nat.le_of_ble_eq_true rfl) (c_X1_make  hg2) ?_
    refine aw_aload_n dX6_chooseBest_68 rfl rfl ?_
    refine aw_getR (t := 10) dX6_chooseBest_69 fk_X6_19 pC_0 rfl ?_
    obtain ⟨y1, hg3, h⟩ := bn_e h
    refine aw_V0i (M2 := M_X1_leastMost) dX6_chooseBest_72 lk_X6_269 mk_X1_leastMost mv_X1_leastMost ⟨by decide, by decide⟩ pC_10 ⟨_, _, rfl⟩ (Nat.le_of_ble_eq_true rfl) (c_X1_leastMost  hg3) ?_
    refine aw_istore_nA dX6_chooseBest_75 rfl (by decide) rfl ?_
    show AW _ _ _ 76 [some (vR (some 0)), some (vI y1)] _ _
    exact (t_X6_chooseBest_76   y1 s2 _ h)
def g_X6_chooseBest_43 (x1 : Int) (s0 : SS) : Option SS :=
  g_X6_chooseBest_44  x1 0 s0
set_option maxHeartbeats 4000000 in
theorem t_X6_chooseBest_43  : ∀ (x1 : Int) (s0 : SS) (r : SS), g_X6_chooseBest_43 x1 s0 = some r → AW LC M_X6_chooseBest (none, r) 43 [some (vR (some 0)), some (vI x1)] [vR (some 0)] s0 := by
  intro x1 s0 r h
  unfold g_X6_chooseBest_43 at h
  refine aw_iconst dX6_chooseBest_43 ⟨by decide, by decide⟩ ?_
  exact (t_X6_chooseBest_44   x1 0 s0 _ h)
def f_X6_chooseBest  (s0 : SS) : Option SS :=
  bn (f_X1_make (s0 0 6) s0) fun s1 =>
  bn (f_X1_fewestLines s1) fun y1 =>
  if (s1 1 9) ≤ 0 then (
    g_X6_chooseBest_43  y1 s1
  ) else (
    if y1 = (-1) then (
      g_X6_chooseBest_44  y1 1 s1
    ) else (
      g_X6_chooseBest_43  y1 s1
    )
  )
set_option maxHeartbeats 4000000 in
theorem t_X6_chooseBest_0  : ∀ (s0 : SS) (r : SS), f_X6_chooseBest s0 = some r → AW LC M_X6_chooseBest (none, r) 0 [some (vR (some 0)), none] [] s0 := by
  intro s0 r h
  unfold f_X6_chooseBest at h
  refine aw_aload_n dX6_chooseBest_0 rfl rfl ?_
  refine aw_getR (t := 10) dX6_chooseBest_1 fk_X6_19 pC_0 rfl ?_
  refine aw_aload_n dX6_chooseBest_4 rfl rfl ?_
  refine aw_getR (t := 1) dX6_chooseBest_5 fk_X6_10 pC_0 rfl ?_
  refine aw_aload_n dX6_chooseBest_8 rfl rfl ?_
  refine aw_getI dX6_chooseBest_9 fk_X6_53 pC_0 rfl ?_
  obtain ⟨s1, hg1, h⟩ := bn_e h
  refine aw_V2v (M2 := M_X1_make) dX6_chooseBest_12 lk_X6_264 mk_X1_make mv_X1_make ⟨by decide, by decide⟩ pC_10 ⟨_, _, rfl⟩ (Nat.le_of_ble_eq_true rfl) (c_X1_make  hg1) ?_
  refine aw_aload_n dX6_chooseBest_15 rfl rfl ?_
  refine aw_getR (t := 10) dX6_chooseBest_16 fk_X6_19 pC_0 rfl ?_
  obtain ⟨y1, hg2, h⟩ := bn_e h
  refine aw_V0i (M2 := M_X1_fewestLines) dX6_chooseBest_19 lk_X6_267 mk_X1_fewestLines mv_X1_fewestLines ⟨by decide, by decide⟩ pC_10 ⟨_, _, rfl⟩ (Nat.le_of_ble_eq_true rfl) (c_X1_fewestLines  hg2) ?_
  refine aw_istore_nA dX6_chooseBest_22 rfl (by decide) rfl ?_
  show AW _ _ _ 23 [some (vR (some 0)), some (vI y1)] _ _
  refine aw_aload_n dX6_chooseBest_23 rfl rfl ?_
  refine aw_aload_n dX6_chooseBest_24 rfl rfl ?_
  refine aw_getR (t := 1) dX6_chooseBest_25 fk_X6_10 pC_0 rfl ?_
  refine aw_getI dX6_chooseBest_28 fk_X6_196 pC_1 rfl ?_
  refine aw_if_le (tgt := 43) dX6_chooseBest_31 (by decide) (fun hc => ?_) (fun hc => ?_)
  · replace h := ip hc h
    exact (t_X6_chooseBest_43   y1 s1 _ h)
  · replace h := ic hc h
    refine aw_iload_n dX6_chooseBest_34 rfl rfl ?_
    refine aw_iconst dX6_chooseBest_35 ⟨by decide, by decide⟩ ?_
    refine aw_icmp_ne (tgt := 43) dX6_chooseBest_36 (by decide) (fun hc => ?_) (fun hc => ?_)
    rotate_left
    · replace h := ip hc h
      refine aw_iconst dX6_chooseBest_39 ⟨by decide, by decide⟩ ?_
      refine aw_goto (tgt := 44) dX6_chooseBest_40 (by decide) ?_
      exact (t_X6_chooseBest_44   y1 1 s1 _ h)
    · replace h := ic hc h
      exact (t_X6_chooseBest_43   y1 s1 _ h)
theorem c_X6_chooseBest {s0 : SS} {s1 : SS} (h : f_X6_chooseBest s0 = some s1) : CT LC M_X6_chooseBest [vR (some 0)] s0 (none, s1) :=
  ct_of (n := 1) (by decide) (Nat.le_of_ble_eq_true rfl) (t_X6_chooseBest_0  s0  _ h)
def f_X6_type (x1 : Int) (s0 : SS) : Option (Int × SS) :=
  bn (f_X6_isByte x1) fun y1 =>
  if y1 = 0 then (
    some ((-2), s0)
  ) else (
    cb (f_X0_append x1 s0) fun y2 s1 =>
    if y2 = 0 then (
      some ((-4), s1)
    ) else (
      bn (f_X6_readDoc s1) fun s2 =>
      bn (f_X6_chooseBest s2) fun s3 =>
      some (s3 1 8, s3)
    )
  )
set_option maxHeartbeats 4000000 in
theorem t_X6_type_0  : ∀ (x1 : Int) (s0 : SS) (r : (Int × SS)), f_X6_type x1 s0 = some r → AW LC M_X6_type (some (vI r.1), r.2) 0 [some (vR (some 0)), some (vI x1)] [] s0 := by
  intro x1 s0 r h
  unfold f_X6_type at h
  refine aw_iload_n dX6_type_0 rfl rfl ?_
  obtain ⟨y1, hg1, h⟩ := bn_e h
  refine aw_S1i (M2 := M_X6_isByte) dX6_type_1 lk_X6_57 mk_X6_isByte ms_X6_isByte ⟨by decide, by decide⟩ (Nat.le_of_ble_eq_true rfl) (c_X6_isByte  hg1) ?_
  refine aw_if_ne (tgt := 10) dX6_type_4 (by decide) (fun hc => ?_) (fun hc => ?_)
  rotate_left
  · replace h := ip hc h
    refine aw_bipush dX6_type_7 ⟨by decide, by decide⟩ (by decide) ?_
    obtain rfl := Option.some.inj h
    exact aw_iret dX6_type_9 rfl
  · replace h := ic hc h
    refine aw_aload_n dX6_type_10 rfl rfl ?_
    refine aw_getR (t := 1) dX6_type_11 fk_X6_10 pC_0 rfl ?_
    refine aw_iload_n dX6_type_14 rfl rfl ?_
    obtain ⟨y2, s1, hg2, h⟩ := cb_e h
    refine aw_V1i (M2 := M_X0_append) dX6_type_15 lk_X6_61 mk_X0_append mv_X0_append ⟨by decide, by decide⟩ pC_1 ⟨_, _, rfl⟩ (Nat.le_of_ble_eq_true rfl) (c_X0_append  hg2) ?_
    refine aw_if_ne (tgt := 24) dX6_type_18 (by decide) (fun hc => ?_) (fun hc => ?_)
    rotate_left
    · replace h := ip hc h
      refine aw_bipush dX6_type_21 ⟨by decide, by decide⟩ (by decide) ?_
      obtain rfl := Option.some.inj h
      exact aw_iret dX6_type_23 rfl
    · replace h := ic hc h
      refine aw_aload_n dX6_type_24 rfl rfl ?_
      obtain ⟨s2, hg3, h⟩ := bn_e h
      refine aw_V0v (M2 := M_X6_readDoc) dX6_type_25 lk_X6_64 mk_X6_readDoc mv_X6_readDoc ⟨by decide, by decide⟩ pC_0 ⟨_, _, rfl⟩ (Nat.le_of_ble_eq_true rfl) (c_X6_readDoc  hg3) ?_
      refine aw_aload_n dX6_type_28 rfl rfl ?_
      obtain ⟨s3, hg4, h⟩ := bn_e h
      refine aw_V0v (M2 := M_X6_chooseBest) dX6_type_29 lk_X6_67 mk_X6_chooseBest mv_X6_chooseBest ⟨by decide, by decide⟩ pC_0 ⟨_, _, rfl⟩ (Nat.le_of_ble_eq_true rfl) (c_X6_chooseBest  hg4) ?_
      refine aw_aload_n dX6_type_32 rfl rfl ?_
      refine aw_getR (t := 1) dX6_type_33 fk_X6_10 pC_0 rfl ?_
      refine aw_getI dX6_type_36 fk_X6_70 pC_1 rfl ?_
      obtain rfl := Option.some.inj h
      exact aw_iret dX6_type_39 rfl
theorem c_X6_type {x1 : Int} {s0 : SS} {y : Int} {s1 : SS} (h : f_X6_type x1 s0 = some (y, s1)) : CT LC M_X6_type [vR (some 0), vI x1] s0 (some (vI y), s1) :=
  ct_of (n := 0) (by decide) (Nat.le_of_ble_eq_true rfl) (t_X6_type_0 x1 s0  _ h)
def f_X6_wipe  (s0 : SS) : Option (Int × SS) :=
  sb (s0 1 8) fun y1 =>
  sb (up s0 1 8 0) fun s1 =>
  bn (f_X6_readDoc s1) fun s2 =>
  bn (f_X6_chooseBest s2) fun s3 =>
  some (y1, s3)
set_option maxHeartbeats 4000000 in
theorem t_X6_wipe_0  : ∀ (s0 : SS) (r : (Int × SS)), f_X6_wipe s0 = some r → AW LC M_X6_wipe (some (vI r.1), r.2) 0 [some (vR (some 0)), none] [] s0 := by
  intro s0 r h
  unfold f_X6_wipe at h
  refine aw_aload_n dX6_wipe_0 rfl rfl ?_
  refine aw_getR (t := 1) dX6_wipe_1 fk_X6_10 pC_0 rfl ?_
  refine aw_getI dX6_wipe_4 fk_X6_70 pC_1 rfl ?_
  refine aw_istore_n dX6_wipe_7 rfl (by decide) rfl (fun y1 e => ?_)
  replace h := sb_e h e
  clear e
  show AW _ _ _ 8 [some (vR (some 0)), some (vI y1)] _ _
  refine aw_aload_n dX6_wipe_8 rfl rfl ?_
  refine aw_getR (t := 1) dX6_wipe_9 fk_X6_10 pC_0 rfl ?_
  refine aw_iconst dX6_wipe_12 ⟨by decide, by decide⟩ ?_
  refine aw_put dX6_wipe_13 fk_X6_70 pC_1 rfl ft_0_8 (nar_int _) (fun s1 e => ?_)
  replace h := sb_e h e
  clear e
  refine aw_aload_n dX6_wipe_16 rfl rfl ?_
  obtain ⟨s2, hg1, h⟩ := bn_e h
  refine aw_V0v (M2 := M_X6_readDoc) dX6_wipe_17 lk_X6_64 mk_X6_readDoc mv_X6_readDoc ⟨by decide, by decide⟩ pC_0 ⟨_, _, rfl⟩ (Nat.le_of_ble_eq_true rfl) (c_X6_readDoc  hg1) ?_
  refine aw_aload_n dX6_wipe_20 rfl rfl ?_
  obtain ⟨s3, hg2, h⟩ := bn_e h
  refine aw_V0v (M2 := M_X6_chooseBest) dX6_wipe_21 lk_X6_67 mk_X6_chooseBest mv_X6_chooseBest ⟨by decide, by decide⟩ pC_0 ⟨_, _, rfl⟩ (Nat.le_of_ble_eq_true rfl) (c_X6_chooseBest  hg2) ?_
  refine aw_iload_n dX6_wipe_24 rfl rfl ?_
  obtain rfl := Option.some.inj h
  exact aw_iret dX6_wipe_25 rfl
theorem c_X6_wipe {s0 : SS} {y : Int} {s1 : SS} (h : f_X6_wipe s0 = some (y, s1)) : CT LC M_X6_wipe [vR (some 0)] s0 (some (vI y), s1) :=
  ct_of (n := 1) (by decide) (Nat.le_of_ble_eq_true rfl) (t_X6_wipe_0  s0  _ h)
def f_X6_undo  (s0 : SS) : Option (Int × SS) :=
  if (s0 1 8) = 0 then (
    some ((-3), s0)
  ) else (
    sb (up s0 1 8 (wr ((s0 1 8) - 1))) fun s1 =>
    bn (f_X6_readDoc s1) fun s2 =>
    bn (f_X6_chooseBest s2) fun s3 =>
    some (s3 1 8, s3)
  )
set_option maxHeartbeats 4000000 in
theorem t_X6_undo_0  : ∀ (s0 : SS) (r : (Int × SS)), f_X6_undo s0 = some r → AW LC M_X6_undo (some (vI r.1), r.2) 0 [some (vR (some 0))] [] s0 := by
  intro s0 r h
  unfold f_X6_undo at h
  refine aw_aload_n dX6_undo_0 rfl rfl ?_
  refine aw_getR (t := 1) dX6_undo_1 fk_X6_10 pC_0 rfl ?_
  refine aw_getI dX6_undo_4 fk_X6_70 pC_1 rfl ?_
  refine aw_if_ne (tgt := 13) dX6_undo_7 (by decide) (fun hc => ?_) (fun hc => ?_)
  rotate_left
  · replace h := ip hc h
    refine aw_bipush dX6_undo_10 ⟨by decide, by decide⟩ (by decide) ?_
    obtain rfl := Option.some.inj h
    exact aw_iret dX6_undo_12 rfl
  · replace h := ic hc h
    refine aw_aload_n dX6_undo_13 rfl rfl ?_
    refine aw_getR (t := 1) dX6_undo_14 fk_X6_10 pC_0 rfl ?_
    refine aw_dup dX6_undo_17 rfl ?_
    refine aw_getI dX6_undo_18 fk_X6_70 pC_1 rfl ?_
    refine aw_iconst dX6_undo_21 ⟨by decide, by decide⟩ ?_
    refine aw_isub dX6_undo_22 ?_
    refine aw_put dX6_undo_23 fk_X6_70 pC_1 rfl ft_0_8 (nar_int _) (fun s1 e => ?_)
    replace h := sb_e h e
    clear e
    refine aw_aload_n dX6_undo_26 rfl rfl ?_
    obtain ⟨s2, hg1, h⟩ := bn_e h
    refine aw_V0v (M2 := M_X6_readDoc) dX6_undo_27 lk_X6_64 mk_X6_readDoc mv_X6_readDoc ⟨by decide, by decide⟩ pC_0 ⟨_, _, rfl⟩ (Nat.le_of_ble_eq_true rfl) (c_X6_readDoc  hg1) ?_
    refine aw_aload_n dX6_undo_30 rfl rfl ?_
    obtain ⟨s3, hg2, h⟩ := bn_e h
    refine aw_V0v (M2 := M_X6_chooseBest) dX6_undo_31 lk_X6_67 mk_X6_chooseBest mv_X6_chooseBest ⟨by decide, by decide⟩ pC_0 ⟨_, _, rfl⟩ (Nat.le_of_ble_eq_true rfl) (c_X6_chooseBest  hg2) ?_
    refine aw_aload_n dX6_undo_34 rfl rfl ?_
    refine aw_getR (t := 1) dX6_undo_35 fk_X6_10 pC_0 rfl ?_
    refine aw_getI dX6_undo_38 fk_X6_70 pC_1 rfl ?_
    obtain rfl := Option.some.inj h
    exact aw_iret dX6_undo_41 rfl
theorem c_X6_undo {s0 : SS} {y : Int} {s1 : SS} (h : f_X6_undo s0 = some (y, s1)) : CT LC M_X6_undo [vR (some 0)] s0 (some (vI y), s1) :=
  ct_of (n := 0) (by decide) (Nat.le_of_ble_eq_true rfl) (t_X6_undo_0  s0  _ h)
def f_X6_fault  (s0 : SS) : Option Int :=
  some (s0 1 11)
set_option maxHeartbeats 4000000 in
theorem t_X6_fault_0  : ∀ (s0 : SS) (r : Int), f_X6_fault s0 = some r → AW LC M_X6_fault (some (vI r), s0) 0 [some (vR (some 0))] [] s0 := by
  intro s0 r h
  unfold f_X6_fault at h
  refine aw_aload_n dX6_fault_0 rfl rfl ?_
  refine aw_getR (t := 1) dX6_fault_1 fk_X6_10 pC_0 rfl ?_
  refine aw_getI dX6_fault_4 fk_X6_73 pC_1 rfl ?_
  obtain rfl := Option.some.inj h
  exact aw_iret dX6_fault_7 rfl
theorem c_X6_fault {s0 : SS} {y : Int} (h : f_X6_fault s0 = some y) : CT LC M_X6_fault [vR (some 0)] s0 (some (vI y), s0) :=
  ct_of (n := 0) (by decide) (Nat.le_of_ble_eq_true rfl) (t_X6_fault_0  s0  _ h)
def g_X6_width_11  (s0 : SS) : Option (Int × SS) :=
  some ((-2), s0)
set_option maxHeartbeats 4000000 in
theorem t_X6_width_11  : ∀ (s0 : SS) (r : (Int × SS)), g_X6_width_11 s0 = some r → AW LC M_X6_width (some (vI r.1), r.2) 11 [none, none, none] [] s0 := by
  intro s0 r h
  unfold g_X6_width_11 at h
  refine aw_bipush dX6_width_11 ⟨by decide, by decide⟩ (by decide) ?_
  obtain rfl := Option.some.inj h
  exact aw_iret dX6_width_13 rfl
def f_X6_width (x1 : Int) (s0 : SS) : Option (Int × SS) :=
  if x1 < 1 then (
    g_X6_width_11  s0
  ) else (
    if x1 ≤ 99 then (
      sb (s0 0 6) fun y1 =>
      sb (up s0 0 6 x1) fun s1 =>
      bn (f_X6_chooseBest s1) fun s2 =>
      some (y1, s2)
    ) else (
      g_X6_width_11  s0
    )
  )
set_option maxHeartbeats 4000000 in
theorem t_X6_width_0  : ∀ (x1 : Int) (s0 : SS) (r : (Int × SS)), f_X6_width x1 s0 = some r → AW LC M_X6_width (some (vI r.1), r.2) 0 [some (vR (some 0)), some (vI x1), none] [] s0 := by
  intro x1 s0 r h
  unfold f_X6_width at h
  refine aw_iload_n dX6_width_0 rfl rfl ?_
  refine aw_iconst dX6_width_1 ⟨by decide, by decide⟩ ?_
  refine aw_icmp_lt (tgt := 11) dX6_width_2 (by decide) (fun hc => ?_) (fun hc => ?_)
  · replace h := ip hc h
    exact aw_less (ls' := [none, none, none]) (trivial) (t_X6_width_11   s0 _ h)
  · replace h := ic hc h
    refine aw_iload_n dX6_width_5 rfl rfl ?_
    refine aw_bipush dX6_width_6 ⟨by decide, by decide⟩ (by decide) ?_
    refine aw_icmp_le (tgt := 14) dX6_width_8 (by decide) (fun hc => ?_) (fun hc => ?_)
    · replace h := ip hc h
      refine aw_aload_n dX6_width_14 rfl rfl ?_
      refine aw_getI dX6_width_15 fk_X6_53 pC_0 rfl ?_
      refine aw_istore_n dX6_width_18 rfl (by decide) rfl (fun y1 e => ?_)
      replace h := sb_e h e
      clear e
      show AW _ _ _ 19 [some (vR (some 0)), some (vI x1), some (vI y1)] _ _
      refine aw_aload_n dX6_width_19 rfl rfl ?_
      refine aw_iload_n dX6_width_20 rfl rfl ?_
      refine aw_put dX6_width_21 fk_X6_53 pC_0 rfl ft_6_6 (nar_int _) (fun s1 e => ?_)
      replace h := sb_e h e
      clear e
      refine aw_aload_n dX6_width_24 rfl rfl ?_
      obtain ⟨s2, hg1, h⟩ := bn_e h
      refine aw_V0v (M2 := M_X6_chooseBest) dX6_width_25 lk_X6_67 mk_X6_chooseBest mv_X6_chooseBest ⟨by decide, by decide⟩ pC_0 ⟨_, _, rfl⟩ (Nat.le_of_ble_eq_true rfl) (c_X6_chooseBest  hg1) ?_
      refine aw_iload_n dX6_width_28 rfl rfl ?_
      obtain rfl := Option.some.inj h
      exact aw_iret dX6_width_29 rfl
    · replace h := ic hc h
      exact aw_less (ls' := [none, none, none]) (trivial) (t_X6_width_11   s0 _ h)
theorem c_X6_width {x1 : Int} {s0 : SS} {y : Int} {s1 : SS} (h : f_X6_width x1 s0 = some (y, s1)) : CT LC M_X6_width [vR (some 0), vI x1] s0 (some (vI y), s1) :=
  ct_of (n := 1) (by decide) (Nat.le_of_ble_eq_true rfl) (t_X6_width_0 x1 s0  _ h)
def g_X6_sheetOf_23 (z0 : Option Nat) (s0 : SS) : Option (Option Nat) :=
  some z0
set_option maxHeartbeats 4000000 in
theorem t_X6_sheetOf_23  : ∀ (z0 : Option Nat) (s0 : SS) (r : (Option Nat)), g_X6_sheetOf_23 z0 s0 = some r → AW LC M_X6_sheetOf (some (vR r), s0) 23 [none, none] [vR z0] s0 := by
  intro z0 s0 r h
  unfold g_X6_sheetOf_23 at h
  obtain rfl := Option.some.inj h
  exact aw_aret dX6_sheetOf_23 rfl
def g_X6_sheetOf_13  (s0 : SS) : Option (Option Nat) :=
  g_X6_sheetOf_23  none s0
set_option maxHeartbeats 4000000 in
theorem t_X6_sheetOf_13  : ∀ (s0 : SS) (r : (Option Nat)), g_X6_sheetOf_13 s0 = some r → AW LC M_X6_sheetOf (some (vR r), s0) 13 [none, none] [] s0 := by
  intro s0 r h
  unfold g_X6_sheetOf_13 at h
  refine aw_null dX6_sheetOf_13 ?_
  refine aw_goto (tgt := 23) dX6_sheetOf_14 (by decide) ?_
  exact (t_X6_sheetOf_23   none s0 _ h)
def f_X6_sheetOf (x1 : Int) (s0 : SS) : Option (Option Nat) :=
  if x1 < 0 then (
    g_X6_sheetOf_13  s0
  ) else (
    if x1 < 4 then (
      gx x1 4 <|
      g_X6_sheetOf_23  (LC.2.2.2 41 x1.toNat) s0
    ) else (
      g_X6_sheetOf_13  s0
    )
  )
set_option maxHeartbeats 4000000 in
theorem t_X6_sheetOf_0  : ∀ (x1 : Int) (s0 : SS) (r : (Option Nat)), f_X6_sheetOf x1 s0 = some r → AW LC M_X6_sheetOf (some (vR r), s0) 0 [some (vR (some 0)), some (vI x1)] [] s0 := by
  intro x1 s0 r h
  unfold f_X6_sheetOf at h
  refine aw_iload_n dX6_sheetOf_0 rfl rfl ?_
  refine aw_if_lt (tgt := 13) dX6_sheetOf_1 (by decide) (fun hc => ?_) (fun hc => ?_)
  · replace h := ip hc h
    exact aw_less (ls' := [none, none]) (trivial) (t_X6_sheetOf_13   s0 _ h)
  · replace h := ic hc h
    refine aw_iload_n dX6_sheetOf_4 rfl rfl ?_
    refine aw_aload_n dX6_sheetOf_5 rfl rfl ?_
    refine aw_getR (t := 41) dX6_sheetOf_6 fk_X6_48 pC_0 rfl ?_
    refine aw_alen dX6_sheetOf_9 aC_41 (by decide) ⟨by decide, by decide⟩ ?_
    refine aw_icmp_lt (tgt := 17) dX6_sheetOf_10 (by decide) (fun hc => ?_) (fun hc => ?_)
    · replace h := ip hc h
      refine aw_aload_n dX6_sheetOf_17 rfl rfl ?_
      refine aw_getR (t := 41) dX6_sheetOf_18 fk_X6_48 pC_0 rfl ?_
      refine aw_iload_n dX6_sheetOf_21 rfl rfl ?_
      obtain ⟨hg1, h⟩ := gx_e h
      refine aw_aald dX6_sheetOf_22 aC_41 hg1 ?_
      exact aw_less (ls' := [none, none]) (trivial) (t_X6_sheetOf_23   (LC.2.2.2 41 x1.toNat) s0 _ h)
    · replace h := ic hc h
      exact aw_less (ls' := [none, none]) (trivial) (t_X6_sheetOf_13   s0 _ h)
theorem c_X6_sheetOf {x1 : Int} {s0 : SS} {y : Option Nat} (h : f_X6_sheetOf x1 s0 = some y) : CT LC M_X6_sheetOf [vR (some 0), vI x1] s0 (some (vR y), s0) :=
  ct_of (n := 0) (by decide) (Nat.le_of_ble_eq_true rfl) (t_X6_sheetOf_0 x1 s0  _ h)
def g_X4_isLost_13 (z0 : Int) (s0 : SS) : Option Int :=
  gb z0 <|
  some z0
set_option maxHeartbeats 4000000 in
theorem t_X4_isLost_13  : ∀ (z0 : Int) (s0 : SS) (r : Int), g_X4_isLost_13 z0 s0 = some r → AW LC M_X4_isLost (some (vI r), s0) 13 [none] [vI z0] s0 := by
  intro z0 s0 r h
  unfold g_X4_isLost_13 at h
  obtain ⟨hg1, h⟩ := gb_e h
  obtain rfl := Option.some.inj h
  exact aw_zret dX4_isLost_13 rfl hg1
def f_X4_isLost (q : Nat) (s0 : SS) : Option Int :=
  if (s0 q 1) = (-1) then (
    g_X4_isLost_13  1 s0
  ) else (
    g_X4_isLost_13  0 s0
  )
set_option maxHeartbeats 4000000 in
theorem t_X4_isLost_0  : ∀ (q : Nat) (s0 : SS) (hq : PL LC q 4) (r : Int), f_X4_isLost q s0 = some r → AW LC M_X4_isLost (some (vI r), s0) 0 [some (vR (some q))] [] s0 := by
  intro q s0 hq r h
  unfold f_X4_isLost at h
  refine aw_aload_n dX4_isLost_0 rfl rfl ?_
  refine aw_getI dX4_isLost_1 fk_X4_15 hq (st_n hq (by decide)) ?_
  refine aw_iconst dX4_isLost_4 ⟨by decide, by decide⟩ ?_
  refine aw_icmp_ne (tgt := 12) dX4_isLost_5 (by decide) (fun hc => ?_) (fun hc => ?_)
  rotate_left
  · replace h := ip hc h
    refine aw_iconst dX4_isLost_8 ⟨by decide, by decide⟩ ?_
    refine aw_goto (tgt := 13) dX4_isLost_9 (by decide) ?_
    exact aw_less (ls' := [none]) (trivial) (t_X4_isLost_13   1 s0 _ h)
  · replace h := ic hc h
    refine aw_iconst dX4_isLost_12 ⟨by decide, by decide⟩ ?_
    exact aw_less (ls' := [none]) (trivial) (t_X4_isLost_13   0 s0 _ h)
theorem c_X4_isLost {q : Nat} {s0 : SS} {y : Int} (hq : PL LC q 4) (h : f_X4_isLost q s0 = some y) : CT LC M_X4_isLost [vR (some q)] s0 (some (vI y), s0) :=
  ct_of (n := 0) (by decide) (Nat.le_of_ble_eq_true rfl) (t_X4_isLost_0 q s0 hq _ h)
def f_X6_found (x1 : Int) (s0 : SS) : Option (Int × SS) :=
  sb (up s0 0 7 x1) fun s1 =>
  some (wr ((-10) - x1), s1)
set_option maxHeartbeats 4000000 in
theorem t_X6_found_0  : ∀ (x1 : Int) (s0 : SS) (r : (Int × SS)), f_X6_found x1 s0 = some r → AW LC M_X6_found (some (vI r.1), r.2) 0 [some (vR (some 0)), some (vI x1)] [] s0 := by
  intro x1 s0 r h
  unfold f_X6_found at h
  refine aw_aload_n dX6_found_0 rfl rfl ?_
  refine aw_iload_n dX6_found_1 rfl rfl ?_
  refine aw_put dX6_found_2 fk_X6_205 pC_0 rfl ft_6_7 (nar_int _) (fun s1 e => ?_)
  replace h := sb_e h e
  clear e
  refine aw_bipush dX6_found_5 ⟨by decide, by decide⟩ (by decide) ?_
  refine aw_iload_n dX6_found_7 rfl rfl ?_
  refine aw_isub dX6_found_8 ?_
  obtain rfl := Option.some.inj h
  exact aw_iret dX6_found_9 rfl
theorem c_X6_found {x1 : Int} {s0 : SS} {y : Int} {s1 : SS} (h : f_X6_found x1 s0 = some (y, s1)) : CT LC M_X6_found [vR (some 0), vI x1] s0 (some (vI y), s1) :=
  ct_of (n := 0) (by decide) (Nat.le_of_ble_eq_true rfl) (t_X6_found_0 x1 s0  _ h)
def g_X4_itemAt_31 (z0 : Int) (s0 : SS) : Option Int :=
  some z0
set_option maxHeartbeats 4000000 in
theorem t_X4_itemAt_31  : ∀ (z0 : Int) (s0 : SS) (r : Int), g_X4_itemAt_31 z0 s0 = some r → AW LC M_X4_itemAt (some (vI r), s0) 31 [none, none] [vI z0] s0 := by
  intro z0 s0 r h
  unfold g_X4_itemAt_31 at h
  obtain rfl := Option.some.inj h
  exact aw_iret dX4_itemAt_31 rfl
def g_X4_itemAt_30  (s0 : SS) : Option Int :=
  g_X4_itemAt_31  0 s0
set_option maxHeartbeats 4000000 in
theorem t_X4_itemAt_30  : ∀ (s0 : SS) (r : Int), g_X4_itemAt_30 s0 = some r → AW LC M_X4_itemAt (some (vI r), s0) 30 [none, none] [] s0 := by
  intro s0 r h
  unfold g_X4_itemAt_30 at h
  refine aw_iconst dX4_itemAt_30 ⟨by decide, by decide⟩ ?_
  exact (t_X4_itemAt_31   0 s0 _ h)
def f_X4_itemAt (q : Nat) (x1 : Int) (s0 : SS) : Option Int :=
  if x1 < 0 then (
    g_X4_itemAt_30  s0
  ) else (
    if (s0 q 2) ≤ x1 then (
      g_X4_itemAt_30  s0
    ) else (
      if 60 ≤ x1 then (
        g_X4_itemAt_30  s0
      ) else (
        gx x1 60 <|
        g_X4_itemAt_31  (s0 (q + 1) x1.toNat) s0
      )
    )
  )
set_option maxHeartbeats 4000000 in
theorem t_X4_itemAt_0  : ∀ (q : Nat) (x1 : Int) (s0 : SS) (hq : PL LC q 4) (r : Int), f_X4_itemAt q x1 s0 = some r → AW LC M_X4_itemAt (some (vI r), s0) 0 [some (vR (some q)), some (vI x1)] [] s0 := by
  intro q x1 s0 hq r h
  unfold f_X4_itemAt at h
  refine aw_iload_n dX4_itemAt_0 rfl rfl ?_
  refine aw_if_lt (tgt := 30) dX4_itemAt_1 (by decide) (fun hc => ?_) (fun hc => ?_)
  · replace h := ip hc h
    exact aw_less (ls' := [none, none]) (trivial) (t_X4_itemAt_30   s0 _ h)
  · replace h := ic hc h
    refine aw_iload_n dX4_itemAt_4 rfl rfl ?_
    refine aw_aload_n dX4_itemAt_5 rfl rfl ?_
    refine aw_getI dX4_itemAt_6 fk_X4_19 hq (st_n hq (by decide)) ?_
    refine aw_icmp_ge (tgt := 30) dX4_itemAt_9 (by decide) (fun hc => ?_) (fun hc => ?_)
    · replace h := ip hc h
      exact aw_less (ls' := [none, none]) (trivial) (t_X4_itemAt_30   s0 _ h)
    · replace h := ic hc h
      refine aw_iload_n dX4_itemAt_12 rfl rfl ?_
      refine aw_aload_n dX4_itemAt_13 rfl rfl ?_
      refine aw_getR dX4_itemAt_14 fk_X4_9 hq (st_r hq) ?_
      refine aw_alen dX4_itemAt_17 (st_a hq) (by decide) ⟨by decide, by decide⟩ ?_
      refine aw_icmp_ge (tgt := 30) dX4_itemAt_18 (by decide) (fun hc => ?_) (fun hc => ?_)
      · replace h := ip hc h
        exact aw_less (ls' := [none, none]) (trivial) (t_X4_itemAt_30   s0 _ h)
      · replace h := ic hc h
        refine aw_aload_n dX4_itemAt_21 rfl rfl ?_
        refine aw_getR dX4_itemAt_22 fk_X4_9 hq (st_r hq) ?_
        refine aw_iload_n dX4_itemAt_25 rfl rfl ?_
        obtain ⟨hg1, h⟩ := gx_e h
        refine aw_iald dX4_itemAt_26 (st_a hq) hg1 ?_
        refine aw_goto (tgt := 31) dX4_itemAt_27 (by decide) ?_
        exact aw_less (ls' := [none, none]) (trivial) (t_X4_itemAt_31   (s0 (q + 1) x1.toNat) s0 _ h)
theorem c_X4_itemAt {q : Nat} {x1 : Int} {s0 : SS} {y : Int} (hq : PL LC q 4) (h : f_X4_itemAt q x1 s0 = some y) : CT LC M_X4_itemAt [vR (some q), vI x1] s0 (some (vI y), s0) :=
  ct_of (n := 0) (by decide) (Nat.le_of_ble_eq_true rfl) (t_X4_itemAt_0 q x1 s0 hq _ h)
def g_X6_read_68 (x3 : Int) (s0 : SS) : Option (Int × SS) :=
  bn (f_X6_readDoc s0) fun s1 =>
  bn (f_X6_chooseBest s1) fun s2 =>
  some (x3, s2)
set_option maxHeartbeats 4000000 in
theorem t_X6_read_68  : ∀ (x3 : Int) (s0 : SS) (r : (Int × SS)), g_X6_read_68 x3 s0 = some r → AW LC M_X6_read (some (vI r.1), r.2) 68 [some (vR (some 0)), none, none, some (vI x3)] [] s0 := by
  intro x3 s0 r h
  unfold g_X6_read_68 at h
  refine aw_aload_n dX6_read_68 rfl rfl ?_
  obtain ⟨s1, hg1, h⟩ := bn_e h
  refine aw_V0v (M2 := M_X6_readDoc) dX6_read_69 lk_X6_64 mk_X6_readDoc mv_X6_readDoc ⟨by decide, by decide⟩ pC_0 ⟨_, _, rfl⟩ (Nat.le_of_ble_eq_true rfl) (c_X6_readDoc  hg1) ?_
  refine aw_aload_n dX6_read_72 rfl rfl ?_
  obtain ⟨s2, hg2, h⟩ := bn_e h
  refine aw_V0v (M2 := M_X6_chooseBest) dX6_read_73 lk_X6_67 mk_X6_chooseBest mv_X6_chooseBest ⟨by decide, by decide⟩ pC_0 ⟨_, _, rfl⟩ (Nat.le_of_ble_eq_true rfl) (c_X6_chooseBest  hg2) ?_
  refine aw_iload_n dX6_read_76 rfl rfl ?_
  obtain rfl := Option.some.inj h
  exact aw_iret dX6_read_77 rfl
def g_X6_read_28 (k28 : Nat → Int → SS → Option (Int × SS)) (wx2 : Nat) (x3 : Int) (s0 : SS) : Option (Int × SS) :=
  if (s0 wx2 2) ≤ x3 then (
    g_X6_read_68  x3 s0
  ) else (
    bn (f_X4_itemAt wx2 x3 s0) fun y1 =>
    bn (f_X6_isByte y1) fun y2 =>
    if y2 = 0 then (
      g_X6_read_68  x3 s0
    ) else (
      bn (f_X4_itemAt wx2 x3 s0) fun y3 =>
      cb (f_X0_append y3 s0) fun y4 s1 =>
      if y4 = 0 then (
        g_X6_read_68  x3 s1
      ) else (
        sb (wr (x3 + 1)) fun y5 =>
        k28 wx2 y5 s1
      )
    )
  )
set_option maxHeartbeats 4000000 in
theorem t_X6_read_28 (k28 : Nat → Int → SS → Option (Int × SS)) (hk28 : ∀ (wx2 : Nat) (x3 : Int) (s0 : SS) (hwx2 : PL LC wx2 4) (r : (Int × SS)), k28 wx2 x3 s0 = some r → AW LC M_X6_read (some (vI r.1), r.2) 28 [some (vR (some 0)), none, some (vR (some wx2)), some (vI x3)] [] s0) : ∀ (wx2 : Nat) (x3 : Int) (s0 : SS) (hwx2 : PL LC wx2 4) (r : (Int × SS)), g_X6_read_28 k28 wx2 x3 s0 = some r → AW LC M_X6_read (some (vI r.1), r.2) 28 [some (vR (some 0)), none, some (vR (some wx2)), some (vI x3)] [] s0 := by
  intro wx2 x3 s0 hwx2 r h
  unfold g_X6_read_28 at h
  refine aw_iload_n dX6_read_28 rfl rfl ?_
  refine aw_aload_n dX6_read_29 rfl rfl ?_
  refine aw_getI dX6_read_30 fk_X6_88 hwx2 (st_n hwx2 (by decide)) ?_
  refine aw_icmp_ge (tgt := 68) dX6_read_33 (by decide) (fun hc => ?_) (fun hc => ?_)
  · replace h := ip hc h
    exact aw_less (ls' := [some (vR (some 0)), none, none, some (vI x3)]) (⟨rfl, ⟨rfl, trivial⟩⟩) (t_X6_read_68   x3 s0 _ h)
  · replace h := ic hc h
    refine aw_aload_n dX6_read_36 rfl rfl ?_
    refine aw_iload_n dX6_read_37 rfl rfl ?_
    obtain ⟨y1, hg1, h⟩ := bn_e h
    refine aw_V1i (M2 := M_X4_itemAt) dX6_read_38 lk_X6_91 mk_X4_itemAt mv_X4_itemAt ⟨by decide, by decide⟩ hwx2 ⟨_, _, rfl⟩ (Nat.le_of_ble_eq_true rfl) (c_X4_itemAt hwx2 hg1) ?_
    obtain ⟨y2, hg2, h⟩ := bn_e h
    refine aw_S1i (M2 := M_X6_isByte) dX6_read_41 lk_X6_57 mk_X6_isByte ms_X6_isByte ⟨by decide, by decide⟩ (Nat.le_of_ble_eq_true rfl) (c_X6_isByte  hg2) ?_
    refine aw_if_eq (tgt := 68) dX6_read_44 (by decide) (fun hc => ?_) (fun hc => ?_)
    · replace h := ip hc h
      exact aw_less (ls' := [some (vR (some 0)), none, none, some (vI x3)]) (⟨rfl, ⟨rfl, trivial⟩⟩) (t_X6_read_68   x3 s0 _ h)
    · replace h := ic hc h
      refine aw_aload_n dX6_read_47 rfl rfl ?_
      refine aw_getR (t := 1) dX6_read_48 fk_X6_10 pC_0 rfl ?_
      refine aw_aload_n dX6_read_51 rfl rfl ?_
      refine aw_iload_n dX6_read_52 rfl rfl ?_
      obtain ⟨y3, hg3, h⟩ := bn_e h
      refine aw_V1i (M2 := M_X4_itemAt) dX6_read_53 lk_X6_91 mk_X4_itemAt mv_X4_itemAt ⟨by decide, by decide⟩ hwx2 ⟨_, _, rfl⟩ (Nat.le_of_ble_eq_true rfl) (c_X4_itemAt hwx2 hg3) ?_
      obtain ⟨y4, s1, hg4, h⟩ := cb_e h
      refine aw_V1i (M2 := M_X0_append) dX6_read_56 lk_X6_61 mk_X0_append mv_X0_append ⟨by decide, by decide⟩ pC_1 ⟨_, _, rfl⟩ (Nat.le_of_ble_eq_true rfl) (c_X0_append  hg4) ?_
      refine aw_if_eq (tgt := 68) dX6_read_59 (by decide) (fun hc => ?_) (fun hc => ?_)
      · replace h := ip hc h
        exact aw_less (ls' := [some (vR (some 0)), none, none, some (vI x3)]) (⟨rfl, ⟨rfl, trivial⟩⟩) (t_X6_read_68   x3 s1 _ h)
      · replace h := ic hc h
        refine aw_iinc dX6_read_62 rfl (by decide) rfl (fun y5 e => ?_)
        replace h := sb_e h e
        clear e
        show AW _ _ _ 65 [some (vR (some 0)), none, some (vR (some wx2)), some (vI y5)] _ _
        refine aw_goto (tgt := 28) dX6_read_65 (by decide) ?_
        exact (hk28 wx2 y5 s1 hwx2 _ h)
def f_X6_read_28 : Nat → Nat → Int → SS → Option (Int × SS)
  | 0 => fun _ _ _ => none
  | n + 1 => g_X6_read_28 (f_X6_read_28  n)
theorem s_X6_read_28  : ∀ (n : Nat), ∀ (wx2 : Nat) (x3 : Int) (s0 : SS) (hwx2 : PL LC wx2 4) (r : (Int × SS)), f_X6_read_28 n wx2 x3 s0 = some r → AW LC M_X6_read (some (vI r.1), r.2) 28 [some (vR (some 0)), none, some (vR (some wx2)), some (vI x3)] [] s0 := by
  intro n
  induction n with
  | zero =>
    intro wx2 x3 s0 hwx2 r h
    cases h
  | succ n ih =>
    intro wx2 x3 s0 hwx2 r h
    exact t_X6_read_28 (f_X6_read_28  n) ih wx2 x3 s0 hwx2 r h
def f_X6_read (x1 : Int) (s0 : SS) : Option (Int × SS) :=
  bn (f_X6_sheetOf x1 s0) fun y1 =>
  ob y1 (
    some ((-2), s0)
  ) fun w1 =>
  gp w1 <|
  bn (f_X4_isLost w1 s0) fun y2 =>
  if y2 = 0 then (
    f_X6_read_28  FU w1 0 s0
  ) else (
    cb (f_X6_found 1 s0) fun y3 s1 =>
    some (y3, s1)
  )
set_option maxHeartbeats 4000000 in
theorem t_X6_read_0  : ∀ (x1 : Int) (s0 : SS) (r : (Int × SS)), f_X6_read x1 s0 = some r → AW LC M_X6_read (some (vI r.1), r.2) 0 [some (vR (some 0)), some (vI x1), none, none] [] s0 := by
  intro x1 s0 r h
  unfold f_X6_read at h
  refine aw_aload_n dX6_read_0 rfl rfl ?_
  refine aw_iload_n dX6_read_1 rfl rfl ?_
  obtain ⟨y1, hg1, h⟩ := bn_e h
  refine aw_V1r (M2 := M_X6_sheetOf) dX6_read_2 lk_X6_76 mk_X6_sheetOf mv_X6_sheetOf ⟨by decide, by decide⟩ pC_0 ⟨_, _, rfl⟩ (Nat.le_of_ble_eq_true rfl) (c_X6_sheetOf  hg1) ?_
  refine aw_astore_n dX6_read_5 rfl (by decide) rfl ?_
  show AW _ _ _ 6 [some (vR (some 0)), some (vI x1), some (vR y1), none] _ _
  refine aw_aload_n dX6_read_6 rfl rfl ?_
  refine aw_ifnonnull (tgt := 13) dX6_read_7 (by decide) (fun w1 e => ?_) (fun e => ?_)
  rotate_left
  · subst e
    replace h := ob_n h
    refine aw_bipush dX6_read_10 ⟨by decide, by decide⟩ (by decide) ?_
    obtain rfl := Option.some.inj h
    exact aw_iret dX6_read_12 rfl
  · subst e
    replace h := ob_s h
    obtain ⟨hg2, h⟩ := gp_e h
    refine aw_aload_n dX6_read_13 rfl rfl ?_
    obtain ⟨y2, hg3, h⟩ := bn_e h
    refine aw_V0i (M2 := M_X4_isLost) dX6_read_14 lk_X6_80 mk_X4_isLost mv_X4_isLost ⟨by decide, by decide⟩ hg2 ⟨_, _, rfl⟩ (Nat.le_of_ble_eq_true rfl) (c_X4_isLost hg2 hg3) ?_
    refine aw_if_eq (tgt := 26) dX6_read_17 (by decide) (fun hc => ?_) (fun hc => ?_)
    · replace h := ip hc h
      refine aw_iconst dX6_read_26 ⟨by decide, by decide⟩ ?_
      refine aw_istore_nA dX6_read_27 rfl (by decide) rfl ?_
      show AW _ _ _ 28 [some (vR (some 0)), some (vI x1), some (vR (some w1)), some (vI 0)] _ _
      exact aw_less (ls' := [some (vR (some 0)), none, some (vR (some w1)), some (vI 0)]) (⟨rfl, ⟨rfl, ⟨rfl, trivial⟩⟩⟩) (s_X6_read_28   FU w1 0 s0 hg2 _ h)
    · replace h := ic hc h
      refine aw_aload_n dX6_read_20 rfl rfl ?_
      refine aw_iconst dX6_read_21 ⟨by decide, by decide⟩ ?_
      obtain ⟨y3, s1, hg4, h⟩ := cb_e h
      refine aw_V1i (M2 := M_X6_found) dX6_read_22 lk_X6_84 mk_X6_found mv_X6_found ⟨by decide, by decide⟩ pC_0 ⟨_, _, rfl⟩ (Nat.le_of_ble_eq_true rfl) (c_X6_found  hg4) ?_
      obtain rfl := Option.some.inj h
      exact aw_iret dX6_read_25 rfl
theorem c_X6_read {x1 : Int} {s0 : SS} {y : Int} {s1 : SS} (h : f_X6_read x1 s0 = some (y, s1)) : CT LC M_X6_read [vR (some 0), vI x1] s0 (some (vI y), s1) :=
  ct_of (n := 2) (by decide) (Nat.le_of_ble_eq_true rfl) (t_X6_read_0 x1 s0  _ h)
def g_X6_part_20  (s0 : SS) : Option Int :=
  some (-2)
set_option maxHeartbeats 4000000 in
theorem t_X6_part_20  : ∀ (s0 : SS) (r : Int), g_X6_part_20 s0 = some r → AW LC M_X6_part (some (vI r), s0) 20 [none, none, none] [] s0 := by
  intro s0 r h
  unfold g_X6_part_20 at h
  refine aw_bipush dX6_part_20 ⟨by decide, by decide⟩ (by decide) ?_
  obtain rfl := Option.some.inj h
  exact aw_iret dX6_part_22 rfl
def f_X6_part (x1 : Int) (x2 : Int) (s0 : SS) : Option Int :=
  bn (f_X0_hasPart x1 s0) fun y1 =>
  if y1 = 0 then (
    g_X6_part_20  s0
  ) else (
    if x2 < 0 then (
      g_X6_part_20  s0
    ) else (
      if x2 ≤ 3 then (
        if x2 = 0 then (
          gx x1 40 <|
          some (s0 4 x1.toNat)
        ) else (
        if x2 = 1 then (
          gx x1 40 <|
          some (s0 5 x1.toNat)
        ) else (
        if x2 = 2 then (
          bn (f_X1_sizeOf x1 s0) fun y2 =>
          some y2
        ) else (
          gx x1 40 <|
          some (s0 6 x1.toNat)
        )
        )
        )
      ) else (
        g_X6_part_20  s0
      )
    )
  )
set_option maxHeartbeats 4000000 in
theorem t_X6_part_0  : ∀ (x1 : Int) (x2 : Int) (s0 : SS) (r : Int), f_X6_part x1 x2 s0 = some r → AW LC M_X6_part (some (vI r), s0) 0 [some (vR (some 0)), some (vI x1), some (vI x2)] [] s0 := by
  intro x1 x2 s0 r h
  unfold f_X6_part at h
  refine aw_aload_n dX6_part_0 rfl rfl ?_
  refine aw_getR (t := 1) dX6_part_1 fk_X6_10 pC_0 rfl ?_
  refine aw_iload_n dX6_part_4 rfl rfl ?_
  obtain ⟨y1, hg1, h⟩ := bn_e h
  refine aw_V1i (M2 := M_X0_hasPart) dX6_part_5 lk_X6_94 mk_X0_hasPart mv_X0_hasPart ⟨by decide, by decide⟩ pC_1 ⟨_, _, rfl⟩ (Nat.le_of_ble_eq_true rfl) (c_X0_hasPart  hg1) ?_
  refine aw_if_eq (tgt := 20) dX6_part_8 (by decide) (fun hc => ?_) (fun hc => ?_)
  · replace h := ip hc h
    exact aw_less (ls' := [none, none, none]) (trivial) (t_X6_part_20   s0 _ h)
  · replace h := ic hc h
    refine aw_iload_n dX6_part_11 rfl rfl ?_
    refine aw_if_lt (tgt := 20) dX6_part_12 (by decide) (fun hc => ?_) (fun hc => ?_)
    · replace h := ip hc h
      exact aw_less (ls' := [none, none, none]) (trivial) (t_X6_part_20   s0 _ h)
    · replace h := ic hc h
      refine aw_iload_n dX6_part_15 rfl rfl ?_
      refine aw_iconst dX6_part_16 ⟨by decide, by decide⟩ ?_
      refine aw_icmp_le (tgt := 23) dX6_part_17 (by decide) (fun hc => ?_) (fun hc => ?_)
      · replace h := ip hc h
        refine aw_iload_n dX6_part_23 rfl rfl ?_
        by_cases hc : x2 = 0
        · replace h := ip hc h
          refine aw_tableIn (tgt := 52) dX6_part_24 (by rw [hc]; decide) (by rw [hc]; decide) (by rw [hc]; rfl) (by decide) ?_
          refine aw_aload_n dX6_part_52 rfl rfl ?_
          refine aw_getR (t := 1) dX6_part_53 fk_X6_10 pC_0 rfl ?_
          refine aw_getR (t := 4) dX6_part_56 fk_X6_97 pC_1 rfl ?_
          refine aw_iload_n dX6_part_59 rfl rfl ?_
          obtain ⟨hg2, h⟩ := gx_e h
          refine aw_iald dX6_part_60 aC_4 hg2 ?_
          obtain rfl := Option.some.inj h
          exact aw_iret dX6_part_61 rfl
        replace h := ic hc h
        have hn0 := hc
        clear hc
        by_cases hc : x2 = 1
        · replace h := ip hc h
          refine aw_tableIn (tgt := 62) dX6_part_24 (by rw [hc]; decide) (by rw [hc]; decide) (by rw [hc]; rfl) (by decide) ?_
          refine aw_aload_n dX6_part_62 rfl rfl ?_
          refine aw_getR (t := 1) dX6_part_63 fk_X6_10 pC_0 rfl ?_
          refine aw_getR (t := 5) dX6_part_66 fk_X6_101 pC_1 rfl ?_
          refine aw_iload_n dX6_part_69 rfl rfl ?_
          obtain ⟨hg3, h⟩ := gx_e h
          refine aw_iald dX6_part_70 aC_5 hg3 ?_
          obtain rfl := Option.some.inj h
          exact aw_iret dX6_part_71 rfl
        replace h := ic hc h
        have hn1 := hc
        clear hc
        by_cases hc : x2 = 2
        · replace h := ip hc h
          refine aw_tableIn (tgt := 72) dX6_part_24 (by rw [hc]; decide) (by rw [hc]; decide) (by rw [hc]; rfl) (by decide) ?_
          refine aw_aload_n dX6_part_72 rfl rfl ?_
          refine aw_getR (t := 10) dX6_part_73 fk_X6_19 pC_0 rfl ?_
          refine aw_iload_n dX6_part_76 rfl rfl ?_
          obtain ⟨y2, hg4, h⟩ := bn_e h
          refine aw_V1i (M2 := M_X1_sizeOf) dX6_part_77 lk_X6_103 mk_X1_sizeOf mv_X1_sizeOf ⟨by decide, by decide⟩ pC_10 ⟨_, _, rfl⟩ (Nat.le_of_ble_eq_true rfl) (c_X1_sizeOf  hg4) ?_
          obtain rfl := Option.some.inj h
          exact aw_iret dX6_part_80 rfl
        replace h := ic hc h
        have hn2 := hc
        clear hc
        have hK : AW LC M_X6_part (some (vI r), s0) 81 [some (vR (some 0)), some (vI x1), some (vI x2)] [] s0 := by
          refine aw_aload_n dX6_part_81 rfl rfl ?_
          refine aw_getR (t := 1) dX6_part_82 fk_X6_10 pC_0 rfl ?_
          refine aw_getR (t := 6) dX6_part_85 fk_X6_106 pC_1 rfl ?_
          refine aw_iload_n dX6_part_88 rfl rfl ?_
          obtain ⟨hg5, h⟩ := gx_e h
          refine aw_iald dX6_part_89 aC_6 hg5 ?_
          obtain rfl := Option.some.inj h
          exact aw_iret dX6_part_90 rfl
        by_cases hr : x2 < 0 ∨ 2 < x2
        · exact aw_tableOut (tgt := 81) dX6_part_24 hr (by decide) hK
        · exact absurd hr (by omega)
      · replace h := ic hc h
        exact aw_less (ls' := [none, none, none]) (trivial) (t_X6_part_20   s0 _ h)
theorem c_X6_part {x1 : Int} {x2 : Int} {s0 : SS} {y : Int} (h : f_X6_part x1 x2 s0 = some y) : CT LC M_X6_part [vR (some 0), vI x1, vI x2] s0 (some (vI y), s0) :=
  ct_of (n := 0) (by decide) (Nat.le_of_ble_eq_true rfl) (t_X6_part_0 x1 x2 s0  _ h)
