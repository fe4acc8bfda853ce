def g_X6_frontier_30  (s0 : SS) : Option Int :=
  some (-2)
set_option maxHeartbeats 4000000 in
theorem t_X6_frontier_30  : ∀ (s0 : SS) (r : Int), g_X6_frontier_30 s0 = some r → AW LC M_X6_frontier (some (vI r), s0) 30 [none, none, none, none] [] s0 := by
  intro s0 r h
  unfold g_X6_frontier_30 at h
  refine aw_bipush dX6_frontier_30 ⟨by decide, by decide⟩ (by decide) ?_
  obtain rfl := Option.some.inj h
  exact aw_iret dX6_frontier_32 rfl
def f_X6_frontier (x1 : Int) (x2 : Int) (x3 : Int) (s0 : SS) : Option Int :=
  bn (f_X0_hasPart x1 s0) fun y1 =>
  if y1 = 0 then (
    g_X6_frontier_30  s0
  ) else (
    if x2 < 0 then (
      g_X6_frontier_30  s0
    ) else (
      if 64 ≤ x2 then (
        g_X6_frontier_30  s0
      ) else (
        if x3 < 0 then (
          g_X6_frontier_30  s0
        ) else (
          if x3 ≤ 3 then (
            bn (f_X1_sizeOf x1 s0) fun y2 =>
            if x2 < y2 then (
              bn (f_X3_tell 11 (wr ((wr (x1 * 64)) + x2)) x3 s0) fun y3 =>
              some y3
            ) else (
              some (-1)
            )
          ) else (
            g_X6_frontier_30  s0
          )
        )
      )
    )
  )
set_option maxHeartbeats 4000000 in
theorem t_X6_frontier_0  : ∀ (x1 : Int) (x2 : Int) (x3 : Int) (s0 : SS) (r : Int), f_X6_frontier x1 x2 x3 s0 = some r → AW LC M_X6_frontier (some (vI r), s0) 0 [some (vR (some 0)), some (vI x1), some (vI x2), some (vI x3)] [] s0 := by
  intro x1 x2 x3 s0 r h
  unfold f_X6_frontier at h
  refine aw_aload_n dX6_frontier_0 rfl rfl ?_
  refine aw_getR (t := 1) dX6_frontier_1 fk_X6_10 pC_0 rfl ?_
  refine aw_iload_n dX6_frontier_4 rfl rfl ?_
  obtain ⟨y1, hg1, h⟩ := bn_e h
  refine aw_V1i (M2 := M_X0_hasPart) dX6_frontier_5 lk_X6_94 mk_X0_hasPart mv_X0_hasPart ⟨by decide, by decide⟩ pC_1 ⟨_, _, rfl⟩ (Nat.le_of_ble_eq_true rfl) (c_X0_hasPart  hg1) ?_
  refine aw_if_eq (tgt := 30) dX6_frontier_8 (by decide) (fun hc => ?_) (fun hc => ?_)
  · replace h := ip hc h
    exact aw_less (ls' := [none, none, none, none]) (trivial) (t_X6_frontier_30   s0 _ h)
  · replace h := ic hc h
    refine aw_iload_n dX6_frontier_11 rfl rfl ?_
    refine aw_if_lt (tgt := 30) dX6_frontier_12 (by decide) (fun hc => ?_) (fun hc => ?_)
    · replace h := ip hc h
      exact aw_less (ls' := [none, none, none, none]) (trivial) (t_X6_frontier_30   s0 _ h)
    · replace h := ic hc h
      refine aw_iload_n dX6_frontier_15 rfl rfl ?_
      refine aw_bipush dX6_frontier_16 ⟨by decide, by decide⟩ (by decide) ?_
      refine aw_icmp_ge (tgt := 30) dX6_frontier_18 (by decide) (fun hc => ?_) (fun hc => ?_)
      · replace h := ip hc h
        exact aw_less (ls' := [none, none, none, none]) (trivial) (t_X6_frontier_30   s0 _ h)
      · replace h := ic hc h
        refine aw_iload_n dX6_frontier_21 rfl rfl ?_
        refine aw_if_lt (tgt := 30) dX6_frontier_22 (by decide) (fun hc => ?_) (fun hc => ?_)
        · replace h := ip hc h
          exact aw_less (ls' := [none, none, none, none]) (trivial) (t_X6_frontier_30   s0 _ h)
        · replace h := ic hc h
          refine aw_iload_n dX6_frontier_25 rfl rfl ?_
          refine aw_iconst dX6_frontier_26 ⟨by decide, by decide⟩ ?_
          refine aw_icmp_le (tgt := 33) dX6_frontier_27 (by decide) (fun hc => ?_) (fun hc => ?_)
          · replace h := ip hc h
            refine aw_iload_n dX6_frontier_33 rfl rfl ?_
            refine aw_aload_n dX6_frontier_34 rfl rfl ?_
            refine aw_getR (t := 10) dX6_frontier_35 fk_X6_19 pC_0 rfl ?_
            refine aw_iload_n dX6_frontier_38 rfl rfl ?_
            obtain ⟨y2, hg2, h⟩ := bn_e h
            refine aw_V1i (M2 := M_X1_sizeOf) dX6_frontier_39 lk_X6_103 mk_X1_sizeOf mv_X1_sizeOf ⟨by decide, by decide⟩ pC_10 ⟨_, _, rfl⟩ (Nat.le_of_ble_eq_true rfl) (c_X1_sizeOf  hg2) ?_
            refine aw_icmp_lt (tgt := 47) dX6_frontier_42 (by decide) (fun hc => ?_) (fun hc => ?_)
            · replace h := ip hc h
              refine aw_aload_n dX6_frontier_47 rfl rfl ?_
              refine aw_getR (t := 10) dX6_frontier_48 fk_X6_19 pC_0 rfl ?_
              refine aw_getR (t := 11) dX6_frontier_51 fk_X6_109 pC_10 rfl ?_
              refine aw_iload_n dX6_frontier_54 rfl rfl ?_
              refine aw_bipush dX6_frontier_55 ⟨by decide, by decide⟩ (by decide) ?_
              refine aw_imul dX6_frontier_57 ?_
              refine aw_iload_n dX6_frontier_58 rfl rfl ?_
              refine aw_iadd dX6_frontier_59 ?_
              refine aw_iload_n dX6_frontier_60 rfl rfl ?_
              obtain ⟨y3, hg3, h⟩ := bn_e h
              refine aw_V2i (M2 := M_X3_tell) dX6_frontier_61 lk_X6_112 mk_X3_tell mv_X3_tell ⟨by decide, by decide⟩ pC_11 ⟨_, _, rfl⟩ (Nat.le_of_ble_eq_true rfl) (c_X3_tell pC_11 hg3) ?_
              obtain rfl := Option.some.inj h
              exact aw_iret dX6_frontier_64 rfl
            · replace h := ic hc h
              refine aw_iconst dX6_frontier_45 ⟨by decide, by decide⟩ ?_
              obtain rfl := Option.some.inj h
              exact aw_iret dX6_frontier_46 rfl
          · replace h := ic hc h
            exact aw_less (ls' := [none, none, none, none]) (trivial) (t_X6_frontier_30   s0 _ h)
theorem c_X6_frontier {x1 : Int} {x2 : Int} {x3 : Int} {s0 : SS} {y : Int} (h : f_X6_frontier x1 x2 x3 s0 = some y) : CT LC M_X6_frontier [vR (some 0), vI x1, vI x2, vI x3] s0 (some (vI y), s0) :=
  ct_of (n := 0) (by decide) (Nat.le_of_ble_eq_true rfl) (t_X6_frontier_0 x1 x2 x3 s0  _ h)
def g_X6_tried_9  (s0 : SS) : Option Int :=
  some (-2)
set_option maxHeartbeats 4000000 in
theorem t_X6_tried_9  : ∀ (s0 : SS) (r : Int), g_X6_tried_9 s0 = some r → AW LC M_X6_tried (some (vI r), s0) 9 [none, none] [] s0 := by
  intro s0 r h
  unfold g_X6_tried_9 at h
  refine aw_bipush dX6_tried_9 ⟨by decide, by decide⟩ (by decide) ?_
  obtain rfl := Option.some.inj h
  exact aw_iret dX6_tried_11 rfl
def g_X6_tried_33 (z0 : Int) (s0 : SS) : Option Int :=
  some z0
set_option maxHeartbeats 4000000 in
theorem t_X6_tried_33  : ∀ (z0 : Int) (s0 : SS) (r : Int), g_X6_tried_33 z0 s0 = some r → AW LC M_X6_tried (some (vI r), s0) 33 [none, none] [vI z0] s0 := by
  intro z0 s0 r h
  unfold g_X6_tried_33 at h
  obtain rfl := Option.some.inj h
  exact aw_iret dX6_tried_33 rfl
def f_X6_tried (x1 : Int) (s0 : SS) : Option Int :=
  if x1 < 0 then (
    g_X6_tried_9  s0
  ) else (
    if x1 ≤ 1 then (
      if x1 = 0 then (
        g_X6_tried_33  (s0 10 2) s0
      ) else (
        g_X6_tried_33  (s0 10 3) s0
      )
    ) else (
      g_X6_tried_9  s0
    )
  )
set_option maxHeartbeats 4000000 in
theorem t_X6_tried_0  : ∀ (x1 : Int) (s0 : SS) (r : Int), f_X6_tried x1 s0 = some r → AW LC M_X6_tried (some (vI r), s0) 0 [some (vR (some 0)), some (vI x1)] [] s0 := by
  intro x1 s0 r h
  unfold f_X6_tried at h
  refine aw_iload_n dX6_tried_0 rfl rfl ?_
  refine aw_if_lt (tgt := 9) dX6_tried_1 (by decide) (fun hc => ?_) (fun hc => ?_)
  · replace h := ip hc h
    exact aw_less (ls' := [none, none]) (trivial) (t_X6_tried_9   s0 _ h)
  · replace h := ic hc h
    refine aw_iload_n dX6_tried_4 rfl rfl ?_
    refine aw_iconst dX6_tried_5 ⟨by decide, by decide⟩ ?_
    refine aw_icmp_le (tgt := 12) dX6_tried_6 (by decide) (fun hc => ?_) (fun hc => ?_)
    · replace h := ip hc h
      refine aw_iload_n dX6_tried_12 rfl rfl ?_
      refine aw_if_ne (tgt := 26) dX6_tried_13 (by decide) (fun hc => ?_) (fun hc => ?_)
      rotate_left
      · replace h := ip hc h
        refine aw_aload_n dX6_tried_16 rfl rfl ?_
        refine aw_getR (t := 10) dX6_tried_17 fk_X6_19 pC_0 rfl ?_
        refine aw_getI dX6_tried_20 fk_X6_116 pC_10 rfl ?_
        refine aw_goto (tgt := 33) dX6_tried_23 (by decide) ?_
        exact aw_less (ls' := [none, none]) (trivial) (t_X6_tried_33   (s0 10 2) s0 _ h)
      · replace h := ic hc h
        refine aw_aload_n dX6_tried_26 rfl rfl ?_
        refine aw_getR (t := 10) dX6_tried_27 fk_X6_19 pC_0 rfl ?_
        refine aw_getI dX6_tried_30 fk_X6_119 pC_10 rfl ?_
        exact aw_less (ls' := [none, none]) (trivial) (t_X6_tried_33   (s0 10 3) s0 _ h)
    · replace h := ic hc h
      exact aw_less (ls' := [none, none]) (trivial) (t_X6_tried_9   s0 _ h)
theorem c_X6_tried {x1 : Int} {s0 : SS} {y : Int} (h : f_X6_tried x1 s0 = some y) : CT LC M_X6_tried [vR (some 0), vI x1] s0 (some (vI y), s0) :=
  ct_of (n := 0) (by decide) (Nat.le_of_ble_eq_true rfl) (t_X6_tried_0 x1 s0  _ h)
def g_X6_best_9  (s0 : SS) : Option Int :=
  some (-2)
set_option maxHeartbeats 4000000 in
theorem t_X6_best_9  : ∀ (s0 : SS) (r : Int), g_X6_best_9 s0 = some r → AW LC M_X6_best (some (vI r), s0) 9 [none, none] [] s0 := by
  intro s0 r h
  unfold g_X6_best_9 at h
  refine aw_bipush dX6_best_9 ⟨by decide, by decide⟩ (by decide) ?_
  obtain rfl := Option.some.inj h
  exact aw_iret dX6_best_11 rfl
def g_X6_best_38 (z0 : Int) (s0 : SS) : Option Int :=
  some z0
set_option maxHeartbeats 4000000 in
theorem t_X6_best_38  : ∀ (z0 : Int) (s0 : SS) (r : Int), g_X6_best_38 z0 s0 = some r → AW LC M_X6_best (some (vI r), s0) 38 [none, none] [vI z0] s0 := by
  intro z0 s0 r h
  unfold g_X6_best_38 at h
  obtain rfl := Option.some.inj h
  exact aw_iret dX6_best_38 rfl
def f_X6_best (x1 : Int) (s0 : SS) : Option Int :=
  if x1 < 0 then (
    g_X6_best_9  s0
  ) else (
    if x1 ≤ 4 then (
      if (s0 0 8) = 0 then (
        some (-1)
      ) else (
        if x1 = 4 then (
          if (s0 0 9) = 0 then (
            g_X6_best_38  0 s0
          ) else (
            g_X6_best_38  1 s0
          )
        ) else (
          bn (f_X3_tell 17 0 x1 s0) fun y1 =>
          some y1
        )
      )
    ) else (
      g_X6_best_9  s0
    )
  )
set_option maxHeartbeats 4000000 in
theorem t_X6_best_0  : ∀ (x1 : Int) (s0 : SS) (r : Int), f_X6_best x1 s0 = some r → AW LC M_X6_best (some (vI r), s0) 0 [some (vR (some 0)), some (vI x1)] [] s0 := by
  intro x1 s0 r h
  unfold f_X6_best at h
  refine aw_iload_n dX6_best_0 rfl rfl ?_
  refine aw_if_lt (tgt := 9) dX6_best_1 (by decide) (fun hc => ?_) (fun hc => ?_)
  · replace h := ip hc h
    exact aw_less (ls' := [none, none]) (trivial) (t_X6_best_9   s0 _ h)
  · replace h := ic hc h
    refine aw_iload_n dX6_best_4 rfl rfl ?_
    refine aw_iconst dX6_best_5 ⟨by decide, by decide⟩ ?_
    refine aw_icmp_le (tgt := 12) dX6_best_6 (by decide) (fun hc => ?_) (fun hc => ?_)
    · replace h := ip hc h
      refine aw_aload_n dX6_best_12 rfl rfl ?_
      refine aw_getI dX6_best_13 fk_X6_122 pC_0 rfl ?_
      refine aw_if_ne (tgt := 21) dX6_best_16 (by decide) (fun hc => ?_) (fun hc => ?_)
      rotate_left
      · replace h := ip hc h
        refine aw_iconst dX6_best_19 ⟨by decide, by decide⟩ ?_
        obtain rfl := Option.some.inj h
        exact aw_iret dX6_best_20 rfl
      · replace h := ic hc h
        refine aw_iload_n dX6_best_21 rfl rfl ?_
        refine aw_iconst dX6_best_22 ⟨by decide, by decide⟩ ?_
        refine aw_icmp_ne (tgt := 39) dX6_best_23 (by decide) (fun hc => ?_) (fun hc => ?_)
        rotate_left
        · replace h := ip hc h
          refine aw_aload_n dX6_best_26 rfl rfl ?_
          refine aw_getI dX6_best_27 fk_X6_126 pC_0 rfl ?_
          refine aw_if_eq (tgt := 37) dX6_best_30 (by decide) (fun hc => ?_) (fun hc => ?_)
          · replace h := ip hc h
            refine aw_iconst dX6_best_37 ⟨by decide, by decide⟩ ?_
            exact aw_less (ls' := [none, none]) (trivial) (t_X6_best_38   0 s0 _ h)
          · replace h := ic hc h
            refine aw_iconst dX6_best_33 ⟨by decide, by decide⟩ ?_
            refine aw_goto (tgt := 38) dX6_best_34 (by decide) ?_
            exact aw_less (ls' := [none, none]) (trivial) (t_X6_best_38   1 s0 _ h)
        · replace h := ic hc h
          refine aw_aload_n dX6_best_39 rfl rfl ?_
          refine aw_getR (t := 17) dX6_best_40 fk_X6_28 pC_0 rfl ?_
          refine aw_iconst dX6_best_43 ⟨by decide, by decide⟩ ?_
          refine aw_iload_n dX6_best_44 rfl rfl ?_
          obtain ⟨y1, hg1, h⟩ := bn_e h
          refine aw_V2i (M2 := M_X3_tell) dX6_best_45 lk_X6_112 mk_X3_tell mv_X3_tell ⟨by decide, by decide⟩ pC_17 ⟨_, _, rfl⟩ (Nat.le_of_ble_eq_true rfl) (c_X3_tell pC_17 hg1) ?_
          obtain rfl := Option.some.inj h
          exact aw_iret dX6_best_48 rfl
    · replace h := ic hc h
      exact aw_less (ls' := [none, none]) (trivial) (t_X6_best_9   s0 _ h)
theorem c_X6_best {x1 : Int} {s0 : SS} {y : Int} (h : f_X6_best x1 s0 = some y) : CT LC M_X6_best [vR (some 0), vI x1] s0 (some (vI y), s0) :=
  ct_of (n := 0) (by decide) (Nat.le_of_ble_eq_true rfl) (t_X6_best_0 x1 s0  _ h)
def g_X2_isWordOn_33 (z0 : Int) (s0 : SS) : Option Int :=
  gb z0 <|
  some z0
set_option maxHeartbeats 4000000 in
theorem t_X2_isWordOn_33  : ∀ (z0 : Int) (s0 : SS) (r : Int), g_X2_isWordOn_33 z0 s0 = some r → AW LC M_X2_isWordOn (some (vI r), s0) 33 [none, none, none] [vI z0] s0 := by
  intro z0 s0 r h
  unfold g_X2_isWordOn_33 at h
  obtain ⟨hg1, h⟩ := gb_e h
  obtain rfl := Option.some.inj h
  exact aw_zret dX2_isWordOn_33 rfl hg1
def g_X2_isWordOn_32  (s0 : SS) : Option Int :=
  g_X2_isWordOn_33  0 s0
set_option maxHeartbeats 4000000 in
theorem t_X2_isWordOn_32  : ∀ (s0 : SS) (r : Int), g_X2_isWordOn_32 s0 = some r → AW LC M_X2_isWordOn (some (vI r), s0) 32 [none, none, none] [] s0 := by
  intro s0 r h
  unfold g_X2_isWordOn_32 at h
  refine aw_iconst dX2_isWordOn_32 ⟨by decide, by decide⟩ ?_
  exact (t_X2_isWordOn_33   0 s0 _ h)
def f_X2_isWordOn (x1 : Int) (x2 : Int) (s0 : SS) : Option Int :=
  gx x1 40 <|
  if (s0 36 x1.toNat) = 0 then (
    g_X2_isWordOn_32  s0
  ) else (
    gx x1 40 <|
    if (s0 39 x1.toNat) ≤ 0 then (
      g_X2_isWordOn_32  s0
    ) else (
      gx x1 40 <|
      if (s0 37 x1.toNat) = x2 then (
        g_X2_isWordOn_33  1 s0
      ) else (
        g_X2_isWordOn_32  s0
      )
    )
  )
set_option maxHeartbeats 4000000 in
theorem t_X2_isWordOn_0  : ∀ (x1 : Int) (x2 : Int) (s0 : SS) (r : Int), f_X2_isWordOn x1 x2 s0 = some r → AW LC M_X2_isWordOn (some (vI r), s0) 0 [some (vR (some 35)), some (vI x1), some (vI x2)] [] s0 := by
  intro x1 x2 s0 r h
  unfold f_X2_isWordOn at h
  refine aw_aload_n dX2_isWordOn_0 rfl rfl ?_
  refine aw_getR (t := 36) dX2_isWordOn_1 fk_X2_9 pC_35 rfl ?_
  refine aw_iload_n dX2_isWordOn_4 rfl rfl ?_
  obtain ⟨hg1, h⟩ := gx_e h
  refine aw_zald dX2_isWordOn_5 aC_36 hg1 ?_
  refine aw_if_eq (tgt := 32) dX2_isWordOn_6 (by decide) (fun hc => ?_) (fun hc => ?_)
  · replace h := ip hc h
    exact aw_less (ls' := [none, none, none]) (trivial) (t_X2_isWordOn_32   s0 _ h)
  · replace h := ic hc h
    refine aw_aload_n dX2_isWordOn_9 rfl rfl ?_
    refine aw_getR (t := 39) dX2_isWordOn_10 fk_X2_22 pC_35 rfl ?_
    refine aw_iload_n dX2_isWordOn_13 rfl rfl ?_
    obtain ⟨hg2, h⟩ := gx_e h
    refine aw_iald dX2_isWordOn_14 aC_39 hg2 ?_
    refine aw_if_le (tgt := 32) dX2_isWordOn_15 (by decide) (fun hc => ?_) (fun hc => ?_)
    · replace h := ip hc h
      exact aw_less (ls' := [none, none, none]) (trivial) (t_X2_isWordOn_32   s0 _ h)
    · replace h := ic hc h
      refine aw_aload_n dX2_isWordOn_18 rfl rfl ?_
      refine aw_getR (t := 37) dX2_isWordOn_19 fk_X2_15 pC_35 rfl ?_
      refine aw_iload_n dX2_isWordOn_22 rfl rfl ?_
      obtain ⟨hg3, h⟩ := gx_e h
      refine aw_iald dX2_isWordOn_23 aC_37 hg3 ?_
      refine aw_iload_n dX2_isWordOn_24 rfl rfl ?_
      refine aw_icmp_ne (tgt := 32) dX2_isWordOn_25 (by decide) (fun hc => ?_) (fun hc => ?_)
      rotate_left
      · replace h := ip hc h
        refine aw_iconst dX2_isWordOn_28 ⟨by decide, by decide⟩ ?_
        refine aw_goto (tgt := 33) dX2_isWordOn_29 (by decide) ?_
        exact aw_less (ls' := [none, none, none]) (trivial) (t_X2_isWordOn_33   1 s0 _ h)
      · replace h := ic hc h
        exact aw_less (ls' := [none, none, none]) (trivial) (t_X2_isWordOn_32   s0 _ h)
theorem c_X2_isWordOn {x1 : Int} {x2 : Int} {s0 : SS} {y : Int} (h : f_X2_isWordOn x1 x2 s0 = some y) : CT LC M_X2_isWordOn [vR (some 35), vI x1, vI x2] s0 (some (vI y), s0) :=
  ct_of (n := 0) (by decide) (Nat.le_of_ble_eq_true rfl) (t_X2_isWordOn_0 x1 x2 s0  _ h)
def g_X2_columnsOf_54 (x2 : Int) (s0 : SS) : Option Int :=
  some x2
set_option maxHeartbeats 4000000 in
theorem t_X2_columnsOf_54  : ∀ (x2 : Int) (s0 : SS) (r : Int), g_X2_columnsOf_54 x2 s0 = some r → AW LC M_X2_columnsOf (some (vI r), s0) 54 [none, none, some (vI x2), none] [] s0 := by
  intro x2 s0 r h
  unfold g_X2_columnsOf_54 at h
  refine aw_iload_n dX2_columnsOf_54 rfl rfl ?_
  obtain rfl := Option.some.inj h
  exact aw_iret dX2_columnsOf_55 rfl
def g_X2_columnsOf_48 (k4 : Int → Int → Int → SS → Option Int) (x1 : Int) (x2 : Int) (x3 : Int) (s0 : SS) : Option Int :=
  sb (wr (x3 + 1)) fun y1 =>
  k4 x1 x2 y1 s0
set_option maxHeartbeats 4000000 in
theorem t_X2_columnsOf_48 (k4 : Int → Int → Int → SS → Option Int) (hk4 : ∀ (x1 : Int) (x2 : Int) (x3 : Int) (s0 : SS) (r : Int), k4 x1 x2 x3 s0 = some r → AW LC M_X2_columnsOf (some (vI r), s0) 4 [some (vR (some 35)), some (vI x1), some (vI x2), some (vI x3)] [] s0) : ∀ (x1 : Int) (x2 : Int) (x3 : Int) (s0 : SS) (r : Int), g_X2_columnsOf_48 k4 x1 x2 x3 s0 = some r → AW LC M_X2_columnsOf (some (vI r), s0) 48 [some (vR (some 35)), some (vI x1), some (vI x2), some (vI x3)] [] s0 := by
  intro x1 x2 x3 s0 r h
  unfold g_X2_columnsOf_48 at h
  refine aw_iinc dX2_columnsOf_48 rfl (by decide) rfl (fun y1 e => ?_)
  replace h := sb_e h e
  clear e
  show AW _ _ _ 51 [some (vR (some 35)), some (vI x1), some (vI x2), some (vI y1)] _ _
  refine aw_goto (tgt := 4) dX2_columnsOf_51 (by decide) ?_
  exact (hk4 x1 x2 y1 s0 _ h)
def g_X2_columnsOf_4 (k4 : Int → Int → Int → SS → Option Int) (x1 : Int) (x2 : Int) (x3 : Int) (s0 : SS) : Option Int :=
  if (s0 35 5) ≤ x3 then (
    g_X2_columnsOf_54  x2 s0
  ) else (
    if 40 ≤ x3 then (
      g_X2_columnsOf_54  x2 s0
    ) else (
      bn (f_X2_isWordOn x3 x1 s0) fun y1 =>
      if y1 = 0 then (
        g_X2_columnsOf_48 k4 x1 x2 x3 s0
      ) else (
        gx x3 40 <|
        gx x3 40 <|
        sb (if x2 < (wr ((s0 38 x3.toNat) + (s0 39 x3.toNat))) then (wr ((s0 38 x3.toNat) + (s0 39 x3.toNat))) else x2) fun y2 =>
        g_X2_columnsOf_48 k4 x1 y2 x3 s0
      )
    )
  )
set_option maxHeartbeats 4000000 in
theorem t_X2_columnsOf_4 (k4 : Int → Int → Int → SS → Option Int) (hk4 : ∀ (x1 : Int) (x2 : Int) (x3 : Int) (s0 : SS) (r : Int), k4 x1 x2 x3 s0 = some r → AW LC M_X2_columnsOf (some (vI r), s0) 4 [some (vR (some 35)), some (vI x1), some (vI x2), some (vI x3)] [] s0) : ∀ (x1 : Int) (x2 : Int) (x3 : Int) (s0 : SS) (r : Int), g_X2_columnsOf_4 k4 x1 x2 x3 s0 = some r → AW LC M_X2_columnsOf (some (vI r), s0) 4 [some (vR (some 35)), some (vI x1), some (vI x2), some (vI x3)] [] s0 := by
  intro x1 x2 x3 s0 r h
  unfold g_X2_columnsOf_4 at h
  refine aw_iload_n dX2_columnsOf_4 rfl rfl ?_
  refine aw_aload_n dX2_columnsOf_5 rfl rfl ?_
  refine aw_getI dX2_columnsOf_6 fk_X2_28 pC_35 rfl ?_
  refine aw_icmp_ge (tgt := 54) dX2_columnsOf_9 (by decide) (fun hc => ?_) (fun hc => ?_)
  · replace h := ip hc h
    exact aw_less (ls' := [none, none, some (vI x2), none]) (⟨rfl, trivial⟩) (t_X2_columnsOf_54   x2 s0 _ h)
  · replace h := ic hc h
    refine aw_iload_n dX2_columnsOf_12 rfl rfl ?_
    refine aw_aload_n dX2_columnsOf_13 rfl rfl ?_
    refine aw_getR (t := 36) dX2_columnsOf_14 fk_X2_9 pC_35 rfl ?_
    refine aw_alen dX2_columnsOf_17 aC_36 (by decide) ⟨by decide, by decide⟩ ?_
    refine aw_icmp_ge (tgt := 54) dX2_columnsOf_18 (by decide) (fun hc => ?_) (fun hc => ?_)
    · replace h := ip hc h
      exact aw_less (ls' := [none, none, some (vI x2), none]) (⟨rfl, trivial⟩) (t_X2_columnsOf_54   x2 s0 _ h)
    · replace h := ic hc h
      refine aw_aload_n dX2_columnsOf_21 rfl rfl ?_
      refine aw_iload_n dX2_columnsOf_22 rfl rfl ?_
      refine aw_iload_n dX2_columnsOf_23 rfl rfl ?_
      obtain ⟨y1, hg1, h⟩ := bn_e h
      refine aw_V2i (M2 := M_X2_isWordOn) dX2_columnsOf_24 lk_X2_65 mk_X2_isWordOn mv_X2_isWordOn ⟨by decide, by decide⟩ pC_35 ⟨_, _, rfl⟩ (Nat.le_of_ble_eq_true rfl) (c_X2_isWordOn  hg1) ?_
      refine aw_if_eq (tgt := 48) dX2_columnsOf_27 (by decide) (fun hc => ?_) (fun hc => ?_)
      · replace h := ip hc h
        exact (t_X2_columnsOf_48 k4 hk4 x1 x2 x3 s0 _ h)
      · replace h := ic hc h
        refine aw_iload_n dX2_columnsOf_30 rfl rfl ?_
        refine aw_aload_n dX2_columnsOf_31 rfl rfl ?_
        refine aw_getR (t := 38) dX2_columnsOf_32 fk_X2_19 pC_35 rfl ?_
        refine aw_iload_n dX2_columnsOf_35 rfl rfl ?_
        obtain ⟨hg2, h⟩ := gx_e h
        refine aw_iald dX2_columnsOf_36 aC_38 hg2 ?_
        refine aw_aload_n dX2_columnsOf_37 rfl rfl ?_
        refine aw_getR (t := 39) dX2_columnsOf_38 fk_X2_22 pC_35 rfl ?_
        refine aw_iload_n dX2_columnsOf_41 rfl rfl ?_
        obtain ⟨hg3, h⟩ := gx_e h
        refine aw_iald dX2_columnsOf_42 aC_39 hg3 ?_
        refine aw_iadd dX2_columnsOf_43 ?_
        refine aw_max dX2_columnsOf_44 lk_X2_69 jm_max_s jm_i jm_max_c ⟨by decide, by decide⟩ (Nat.le_of_ble_eq_true rfl) ?_
        refine aw_istore_n dX2_columnsOf_47 rfl (by decide) rfl (fun y2 e => ?_)
        replace h := sb_e h e
        clear e
        show AW _ _ _ 48 [some (vR (some 35)), some (vI x1), some (vI y2), some (vI x3)] _ _
        exact (t_X2_columnsOf_48 k4 hk4 x1 y2 x3 s0 _ h)
def f_X2_columnsOf_4 : Nat → Int → Int → Int → SS → Option Int
  | 0 => fun _ _ _ _ => none
  | n + 1 => g_X2_columnsOf_4 (f_X2_columnsOf_4  n)
theorem s_X2_columnsOf_4  : ∀ (n : Nat), ∀ (x1 : Int) (x2 : Int) (x3 : Int) (s0 : SS) (r : Int), f_X2_columnsOf_4 n x1 x2 x3 s0 = some r → AW LC M_X2_columnsOf (some (vI r), s0) 4 [some (vR (some 35)), some (vI x1), some (vI x2), some (vI x3)] [] s0 := by
  intro n
  induction n with
  | zero =>
    intro x1 x2 x3 s0 r h
    cases h
  | succ n ih =>
    intro x1 x2 x3 s0 r h
    exact t_X2_columnsOf_4 (f_X2_columnsOf_4  n) ih x1 x2 x3 s0 r h
def f_X2_columnsOf (x1 : Int) (s0 : SS) : Option Int :=
  f_X2_columnsOf_4  FU x1 (-1) 0 s0
set_option maxHeartbeats 4000000 in
theorem t_X2_columnsOf_0  : ∀ (x1 : Int) (s0 : SS) (r : Int), f_X2_columnsOf x1 s0 = some r → AW LC M_X2_columnsOf (some (vI r), s0) 0 [some (vR (some 35)), some (vI x1), none, none] [] s0 := by
  intro x1 s0 r h
  unfold f_X2_columnsOf at h
  refine aw_iconst dX2_columnsOf_0 ⟨by decide, by decide⟩ ?_
  refine aw_istore_nA dX2_columnsOf_1 rfl (by decide) rfl ?_
  show AW _ _ _ 2 [some (vR (some 35)), some (vI x1), some (vI (-1)), none] _ _
  refine aw_iconst dX2_columnsOf_2 ⟨by decide, by decide⟩ ?_
  refine aw_istore_nA dX2_columnsOf_3 rfl (by decide) rfl ?_
  show AW _ _ _ 4 [some (vR (some 35)), some (vI x1), some (vI (-1)), some (vI 0)] _ _
  exact (s_X2_columnsOf_4   FU x1 (-1) 0 s0 _ h)
theorem c_X2_columnsOf {x1 : Int} {s0 : SS} {y : Int} (h : f_X2_columnsOf x1 s0 = some y) : CT LC M_X2_columnsOf [vR (some 35), vI x1] s0 (some (vI y), s0) :=
  ct_of (n := 2) (by decide) (Nat.le_of_ble_eq_true rfl) (t_X2_columnsOf_0 x1 s0  _ h)
def g_X2_byteAt_95 (z0 : Int) (s0 : SS) : Option Int :=
  some z0
set_option maxHeartbeats 4000000 in
theorem t_X2_byteAt_95  : ∀ (z0 : Int) (s0 : SS) (r : Int), g_X2_byteAt_95 z0 s0 = some r → AW LC M_X2_byteAt (some (vI r), s0) 95 [none, none, none, none, none] [vI z0] s0 := by
  intro z0 s0 r h
  unfold g_X2_byteAt_95 at h
  obtain rfl := Option.some.inj h
  exact aw_iret dX2_byteAt_95 rfl
def g_X2_byteAt_80 (x1 : Int) (x2 : Int) (s0 : SS) : Option Int :=
  bn (f_X2_columnsOf x1 s0) fun y1 =>
  if y1 ≤ x2 then (
    g_X2_byteAt_95  (-1) s0
  ) else (
    g_X2_byteAt_95  32 s0
  )
set_option maxHeartbeats 4000000 in
theorem t_X2_byteAt_80  : ∀ (x1 : Int) (x2 : Int) (s0 : SS) (r : Int), g_X2_byteAt_80 x1 x2 s0 = some r → AW LC M_X2_byteAt (some (vI r), s0) 80 [some (vR (some 35)), some (vI x1), some (vI x2), none, none] [] s0 := by
  intro x1 x2 s0 r h
  unfold g_X2_byteAt_80 at h
  refine aw_iload_n dX2_byteAt_80 rfl rfl ?_
  refine aw_aload_n dX2_byteAt_81 rfl rfl ?_
  refine aw_iload_n dX2_byteAt_82 rfl rfl ?_
  obtain ⟨y1, hg1, h⟩ := bn_e h
  refine aw_V1i (M2 := M_X2_columnsOf) dX2_byteAt_83 lk_X2_74 mk_X2_columnsOf mv_X2_columnsOf ⟨by decide, by decide⟩ pC_35 ⟨_, _, rfl⟩ (Nat.le_of_ble_eq_true rfl) (c_X2_columnsOf  hg1) ?_
  refine aw_icmp_ge (tgt := 94) dX2_byteAt_86 (by decide) (fun hc => ?_) (fun hc => ?_)
  · replace h := ip hc h
    refine aw_iconst dX2_byteAt_94 ⟨by decide, by decide⟩ ?_
    exact aw_less (ls' := [none, none, none, none, none]) (trivial) (t_X2_byteAt_95   (-1) s0 _ h)
  · replace h := ic hc h
    refine aw_bipush dX2_byteAt_89 ⟨by decide, by decide⟩ (by decide) ?_
    refine aw_goto (tgt := 95) dX2_byteAt_91 (by decide) ?_
    exact aw_less (ls' := [none, none, none, none, none]) (trivial) (t_X2_byteAt_95   32 s0 _ h)
def g_X2_byteAt_74 (k2 : Int → Int → Int → SS → Option Int) (x1 : Int) (x2 : Int) (x3 : Int) (s0 : SS) : Option Int :=
  sb (wr (x3 + 1)) fun y1 =>
  k2 x1 x2 y1 s0
set_option maxHeartbeats 4000000 in
theorem t_X2_byteAt_74 (k2 : Int → Int → Int → SS → Option Int) (hk2 : ∀ (x1 : Int) (x2 : Int) (x3 : Int) (s0 : SS) (r : Int), k2 x1 x2 x3 s0 = some r → AW LC M_X2_byteAt (some (vI r), s0) 2 [some (vR (some 35)), some (vI x1), some (vI x2), some (vI x3), none] [] s0) : ∀ (x1 : Int) (x2 : Int) (x3 : Int) (s0 : SS) (r : Int), g_X2_byteAt_74 k2 x1 x2 x3 s0 = some r → AW LC M_X2_byteAt (some (vI r), s0) 74 [some (vR (some 35)), some (vI x1), some (vI x2), some (vI x3), none] [] s0 := by
  intro x1 x2 x3 s0 r h
  unfold g_X2_byteAt_74 at h
  refine aw_iinc dX2_byteAt_74 rfl (by decide) rfl (fun y1 e => ?_)
  replace h := sb_e h e
  clear e
  show AW _ _ _ 77 [some (vR (some 35)), some (vI x1), some (vI x2), some (vI y1), none] _ _
  refine aw_goto (tgt := 2) dX2_byteAt_77 (by decide) ?_
  exact (hk2 x1 x2 y1 s0 _ h)
def g_X2_byteAt_67 (x3 : Int) (s0 : SS) : Option Int :=
  gx x3 40 <|
  some (s0 40 x3.toNat)
set_option maxHeartbeats 4000000 in
theorem t_X2_byteAt_67  : ∀ (x3 : Int) (s0 : SS) (r : Int), g_X2_byteAt_67 x3 s0 = some r → AW LC M_X2_byteAt (some (vI r), s0) 67 [some (vR (some 35)), none, none, some (vI x3), none] [] s0 := by
  intro x3 s0 r h
  unfold g_X2_byteAt_67 at h
  refine aw_aload_n dX2_byteAt_67 rfl rfl ?_
  refine aw_getR (t := 40) dX2_byteAt_68 fk_X2_25 pC_35 rfl ?_
  refine aw_iload_n dX2_byteAt_71 rfl rfl ?_
  obtain ⟨hg1, h⟩ := gx_e h
  refine aw_iald dX2_byteAt_72 aC_40 hg1 ?_
  obtain rfl := Option.some.inj h
  exact aw_iret dX2_byteAt_73 rfl
def g_X2_byteAt_51 (k2 : Int → Int → Int → SS → Option Int) (x1 : Int) (x2 : Int) (x3 : Int) (z0 : Int) (s0 : SS) : Option Int :=
  if z0 = 0 then (
    g_X2_byteAt_74 k2 x1 x2 x3 s0
  ) else (
    bn (f_X2_isWordOn x3 x1 s0) fun y1 =>
    if y1 = 0 then (
      g_X2_byteAt_74 k2 x1 x2 x3 s0
    ) else (
      g_X2_byteAt_67  x3 s0
    )
  )
set_option maxHeartbeats 4000000 in
theorem t_X2_byteAt_51 (k2 : Int → Int → Int → SS → Option Int) (hk2 : ∀ (x1 : Int) (x2 : Int) (x3 : Int) (s0 : SS) (r : Int), k2 x1 x2 x3 s0 = some r → AW LC M_X2_byteAt (some (vI r), s0) 2 [some (vR (some 35)), some (vI x1), some (vI x2), some (vI x3), none] [] s0) : ∀ (x1 : Int) (x2 : Int) (x3 : Int) (z0 : Int) (s0 : SS) (r : Int), g_X2_byteAt_51 k2 x1 x2 x3 z0 s0 = some r → AW LC M_X2_byteAt (some (vI r), s0) 51 [some (vR (some 35)), some (vI x1), some (vI x2), some (vI x3), none] [vI z0] s0 := by
  intro x1 x2 x3 z0 s0 r h
  unfold g_X2_byteAt_51 at h
  refine aw_istoreA dX2_byteAt_51 (by decide) rfl ?_
  show AW _ _ _ 53 [some (vR (some 35)), some (vI x1), some (vI x2), some (vI x3), some (vI z0)] _ _
  refine aw_iload dX2_byteAt_53 rfl ?_
  refine aw_if_eq (tgt := 74) dX2_byteAt_55 (by decide) (fun hc => ?_) (fun hc => ?_)
  · replace h := ip hc h
    exact aw_less (ls' := [some (vR (some 35)), some (vI x1), some (vI x2), some (vI x3), none]) (⟨rfl, ⟨rfl, ⟨rfl, ⟨rfl, trivial⟩⟩⟩⟩) (t_X2_byteAt_74 k2 hk2 x1 x2 x3 s0 _ h)
  · replace h := ic hc h
    refine aw_aload_n dX2_byteAt_58 rfl rfl ?_
    refine aw_iload_n dX2_byteAt_59 rfl rfl ?_
    refine aw_iload_n dX2_byteAt_60 rfl rfl ?_
    obtain ⟨y1, hg1, h⟩ := bn_e h
    refine aw_V2i (M2 := M_X2_isWordOn) dX2_byteAt_61 lk_X2_65 mk_X2_isWordOn mv_X2_isWordOn ⟨by decide, by decide⟩ pC_35 ⟨_, _, rfl⟩ (Nat.le_of_ble_eq_true rfl) (c_X2_isWordOn  hg1) ?_
    refine aw_if_eq (tgt := 74) dX2_byteAt_64 (by decide) (fun hc => ?_) (fun hc => ?_)
    · replace h := ip hc h
      exact aw_less (ls' := [some (vR (some 35)), some (vI x1), some (vI x2), some (vI x3), none]) (⟨rfl, ⟨rfl, ⟨rfl, ⟨rfl, trivial⟩⟩⟩⟩) (t_X2_byteAt_74 k2 hk2 x1 x2 x3 s0 _ h)
    · replace h := ic hc h
      exact aw_less (ls' := [some (vR (some 35)), none, none, some (vI x3), none]) (⟨rfl, ⟨rfl, trivial⟩⟩) (t_X2_byteAt_67   x3 s0 _ h)
def g_X2_byteAt_50 (k2 : Int → Int → Int → SS → Option Int) (x1 : Int) (x2 : Int) (x3 : Int) (s0 : SS) : Option Int :=
  g_X2_byteAt_51 k2 x1 x2 x3 0 s0
set_option maxHeartbeats 4000000 in
theorem t_X2_byteAt_50 (k2 : Int → Int → Int → SS → Option Int) (hk2 : ∀ (x1 : Int) (x2 : Int) (x3 : Int) (s0 : SS) (r : Int), k2 x1 x2 x3 s0 = some r → AW LC M_X2_byteAt (some (vI r), s0) 2 [some (vR (some 35)), some (vI x1), some (vI x2), some (vI x3), none] [] s0) : ∀ (x1 : Int) (x2 : Int) (x3 : Int) (s0 : SS) (r : Int), g_X2_byteAt_50 k2 x1 x2 x3 s0 = some r → AW LC M_X2_byteAt (some (vI r), s0) 50 [some (vR (some 35)), some (vI x1), some (vI x2), some (vI x3), none] [] s0 := by
  intro x1 x2 x3 s0 r h
  unfold g_X2_byteAt_50 at h
  refine aw_iconst dX2_byteAt_50 ⟨by decide, by decide⟩ ?_
  exact (t_X2_byteAt_51 k2 hk2 x1 x2 x3 0 s0 _ h)
def g_X2_byteAt_2 (k2 : Int → Int → Int → SS → Option Int) (x1 : Int) (x2 : Int) (x3 : Int) (s0 : SS) : Option Int :=
  if (s0 35 5) ≤ x3 then (
    g_X2_byteAt_80  x1 x2 s0
  ) else (
    if 40 ≤ x3 then (
      g_X2_byteAt_80  x1 x2 s0
    ) else (
      gx x3 40 <|
      if x2 < (s0 38 x3.toNat) then (
        g_X2_byteAt_50 k2 x1 x2 x3 s0
      ) else (
        gx x3 40 <|
        gx x3 40 <|
        if (wr ((s0 38 x3.toNat) + (s0 39 x3.toNat))) ≤ x2 then (
          g_X2_byteAt_50 k2 x1 x2 x3 s0
        ) else (
          g_X2_byteAt_51 k2 x1 x2 x3 1 s0
        )
      )
    )
  )
set_option maxHeartbeats 4000000 in
theorem t_X2_byteAt_2 (k2 : Int → Int → Int → SS → Option Int) (hk2 : ∀ (x1 : Int) (x2 : Int) (x3 : Int) (s0 : SS) (r : Int), k2 x1 x2 x3 s0 = some r → AW LC M_X2_byteAt (some (vI r), s0) 2 [some (vR (some 35)), some (vI x1), some (vI x2), some (vI x3), none] [] s0) : ∀ (x1 : Int) (x2 : Int) (x3 : Int) (s0 : SS) (r : Int), g_X2_byteAt_2 k2 x1 x2 x3 s0 = some r → AW LC M_X2_byteAt (some (vI r), s0) 2 [some (vR (some 35)), some (vI x1), some (vI x2), some (vI x3), none] [] s0 := by
  intro x1 x2 x3 s0 r h
  unfold g_X2_byteAt_2 at h
  refine aw_iload_n dX2_byteAt_2 rfl rfl ?_
  refine aw_aload_n dX2_byteAt_3 rfl rfl ?_
  refine aw_getI dX2_byteAt_4 fk_X2_28 pC_35 rfl ?_
  refine aw_icmp_ge (tgt := 80) dX2_byteAt_7 (by decide) (fun hc => ?_) (fun hc => ?_)
  · replace h := ip hc h
    exact aw_less (ls' := [some (vR (some 35)), some (vI x1), some (vI x2), none, none]) (⟨rfl, ⟨rfl, ⟨rfl, trivial⟩⟩⟩) (t_X2_byteAt_80   x1 x2 s0 _ h)
  · replace h := ic hc h
    refine aw_iload_n dX2_byteAt_10 rfl rfl ?_
    refine aw_aload_n dX2_byteAt_11 rfl rfl ?_
    refine aw_getR (t := 36) dX2_byteAt_12 fk_X2_9 pC_35 rfl ?_
    refine aw_alen dX2_byteAt_15 aC_36 (by decide) ⟨by decide, by decide⟩ ?_
    refine aw_icmp_ge (tgt := 80) dX2_byteAt_16 (by decide) (fun hc => ?_) (fun hc => ?_)
    · replace h := ip hc h
      exact aw_less (ls' := [some (vR (some 35)), some (vI x1), some (vI x2), none, none]) (⟨rfl, ⟨rfl, ⟨rfl, trivial⟩⟩⟩) (t_X2_byteAt_80   x1 x2 s0 _ h)
    · replace h := ic hc h
      refine aw_iload_n dX2_byteAt_19 rfl rfl ?_
      refine aw_aload_n dX2_byteAt_20 rfl rfl ?_
      refine aw_getR (t := 38) dX2_byteAt_21 fk_X2_19 pC_35 rfl ?_
      refine aw_iload_n dX2_byteAt_24 rfl rfl ?_
      obtain ⟨hg1, h⟩ := gx_e h
      refine aw_iald dX2_byteAt_25 aC_38 hg1 ?_
      refine aw_icmp_lt (tgt := 50) dX2_byteAt_26 (by decide) (fun hc => ?_) (fun hc => ?_)
      · replace h := ip hc h
        exact (t_X2_byteAt_50 k2 hk2 x1 x2 x3 s0 _ h)
      · replace h := ic hc h
        refine aw_iload_n dX2_byteAt_29 rfl rfl ?_
        refine aw_aload_n dX2_byteAt_30 rfl rfl ?_
        refine aw_getR (t := 38) dX2_byteAt_31 fk_X2_19 pC_35 rfl ?_
        refine aw_iload_n dX2_byteAt_34 rfl rfl ?_
        obtain ⟨hg2, h⟩ := gx_e h
        refine aw_iald dX2_byteAt_35 aC_38 hg2 ?_
        refine aw_aload_n dX2_byteAt_36 rfl rfl ?_
        refine aw_getR (t := 39) dX2_byteAt_37 fk_X2_22 pC_35 rfl ?_
        refine aw_iload_n dX2_byteAt_40 rfl rfl ?_
        obtain ⟨hg3, h⟩ := gx_e h
        refine aw_iald dX2_byteAt_41 aC_39 hg3 ?_
        refine aw_iadd dX2_byteAt_42 ?_
        refine aw_icmp_ge (tgt := 50) dX2_byteAt_43 (by decide) (fun hc => ?_) (fun hc => ?_)
        · replace h := ip hc h
          exact (t_X2_byteAt_50 k2 hk2 x1 x2 x3 s0 _ h)
        · replace h := ic hc h
          refine aw_iconst dX2_byteAt_46 ⟨by decide, by decide⟩ ?_
          refine aw_goto (tgt := 51) dX2_byteAt_47 (by decide) ?_
          exact (t_X2_byteAt_51 k2 hk2 x1 x2 x3 1 s0 _ h)
def f_X2_byteAt_2 : Nat → Int → Int → Int → SS → Option Int
  | 0 => fun _ _ _ _ => none
  | n + 1 => g_X2_byteAt_2 (f_X2_byteAt_2  n)
theorem s_X2_byteAt_2  : ∀ (n : Nat), ∀ (x1 : Int) (x2 : Int) (x3 : Int) (s0 : SS) (r : Int), f_X2_byteAt_2 n x1 x2 x3 s0 = some r → AW LC M_X2_byteAt (some (vI r), s0) 2 [some (vR (some 35)), some (vI x1), some (vI x2), some (vI x3), none] [] s0 := by
  intro n
  induction n with
  | zero =>
    intro x1 x2 x3 s0 r h
    cases h
  | succ n ih =>
    intro x1 x2 x3 s0 r h
    exact t_X2_byteAt_2 (f_X2_byteAt_2  n) ih x1 x2 x3 s0 r h
def f_X2_byteAt (x1 : Int) (x2 : Int) (s0 : SS) : Option Int :=
  f_X2_byteAt_2  FU x1 x2 0 s0
set_option maxHeartbeats 4000000 in
theorem t_X2_byteAt_0  : ∀ (x1 : Int) (x2 : Int) (s0 : SS) (r : Int), f_X2_byteAt x1 x2 s0 = some r → AW LC M_X2_byteAt (some (vI r), s0) 0 [some (vR (some 35)), some (vI x1), some (vI x2), none, none] [] s0 := by
  intro x1 x2 s0 r h
  unfold f_X2_byteAt at h
  refine aw_iconst dX2_byteAt_0 ⟨by decide, by decide⟩ ?_
  refine aw_istore_nA dX2_byteAt_1 rfl (by decide) rfl ?_
  show AW _ _ _ 2 [some (vR (some 35)), some (vI x1), some (vI x2), some (vI 0), none] _ _
  exact (s_X2_byteAt_2   FU x1 x2 0 s0 _ h)
theorem c_X2_byteAt {x1 : Int} {x2 : Int} {s0 : SS} {y : Int} (h : f_X2_byteAt x1 x2 s0 = some y) : CT LC M_X2_byteAt [vR (some 35), vI x1, vI x2] s0 (some (vI y), s0) :=
  ct_of (n := 2) (by decide) (Nat.le_of_ble_eq_true rfl) (t_X2_byteAt_0 x1 x2 s0  _ h)
def g_X6_line_22  (s0 : SS) : Option Int :=
  some (-2)
set_option maxHeartbeats 4000000 in
theorem t_X6_line_22  : ∀ (s0 : SS) (r : Int), g_X6_line_22 s0 = some r → AW LC M_X6_line (some (vI r), s0) 22 [none, none, none] [] s0 := by
  intro s0 r h
  unfold g_X6_line_22 at h
  refine aw_bipush dX6_line_22 ⟨by decide, by decide⟩ (by decide) ?_
  obtain rfl := Option.some.inj h
  exact aw_iret dX6_line_24 rfl
def g_X6_line_50 (z0 : Int) (s0 : SS) : Option Int :=
  some z0
set_option maxHeartbeats 4000000 in
theorem t_X6_line_50  : ∀ (z0 : Int) (s0 : SS) (r : Int), g_X6_line_50 z0 s0 = some r → AW LC M_X6_line (some (vI r), s0) 50 [none, none, none] [vI z0] s0 := by
  intro z0 s0 r h
  unfold g_X6_line_50 at h
  obtain rfl := Option.some.inj h
  exact aw_iret dX6_line_50 rfl
def f_X6_line (x1 : Int) (x2 : Int) (s0 : SS) : Option Int :=
  if x1 < 0 then (
    g_X6_line_22  s0
  ) else (
    if 99 < x1 then (
      g_X6_line_22  s0
    ) else (
      if x2 < (-1) then (
        g_X6_line_22  s0
      ) else (
        if x2 ≤ 399 then (
          if x2 = (-1) then (
            bn (f_X2_columnsOf x1 s0) fun y1 =>
            g_X6_line_50  y1 s0
          ) else (
            bn (f_X2_byteAt x1 x2 s0) fun y2 =>
            g_X6_line_50  y2 s0
          )
        ) else (
          g_X6_line_22  s0
        )
      )
    )
  )
set_option maxHeartbeats 4000000 in
theorem t_X6_line_0  : ∀ (x1 : Int) (x2 : Int) (s0 : SS) (r : Int), f_X6_line x1 x2 s0 = some r → AW LC M_X6_line (some (vI r), s0) 0 [some (vR (some 0)), some (vI x1), some (vI x2)] [] s0 := by
  intro x1 x2 s0 r h
  unfold f_X6_line at h
  refine aw_iload_n dX6_line_0 rfl rfl ?_
  refine aw_if_lt (tgt := 22) dX6_line_1 (by decide) (fun hc => ?_) (fun hc => ?_)
  · replace h := ip hc h
    exact aw_less (ls' := [none, none, none]) (trivial) (t_X6_line_22   s0 _ h)
  · replace h := ic hc h
    refine aw_iload_n dX6_line_4 rfl rfl ?_
    refine aw_bipush dX6_line_5 ⟨by decide, by decide⟩ (by decide) ?_
    refine aw_icmp_gt (tgt := 22) dX6_line_7 (by decide) (fun hc => ?_) (fun hc => ?_)
    · replace h := ip hc h
      exact aw_less (ls' := [none, none, none]) (trivial) (t_X6_line_22   s0 _ h)
    · replace h := ic hc h
      refine aw_iload_n dX6_line_10 rfl rfl ?_
      refine aw_iconst dX6_line_11 ⟨by decide, by decide⟩ ?_
      refine aw_icmp_lt (tgt := 22) dX6_line_12 (by decide) (fun hc => ?_) (fun hc => ?_)
      · replace h := ip hc h
        exact aw_less (ls' := [none, none, none]) (trivial) (t_X6_line_22   s0 _ h)
      · replace h := ic hc h
        refine aw_iload_n dX6_line_15 rfl rfl ?_
        refine aw_sipush dX6_line_16 ⟨by decide, by decide⟩ (by decide) ?_
        refine aw_icmp_le (tgt := 25) dX6_line_19 (by decide) (fun hc => ?_) (fun hc => ?_)
        · replace h := ip hc h
          refine aw_iload_n dX6_line_25 rfl rfl ?_
          refine aw_iconst dX6_line_26 ⟨by decide, by decide⟩ ?_
          refine aw_icmp_ne (tgt := 41) dX6_line_27 (by decide) (fun hc => ?_) (fun hc => ?_)
          rotate_left
          · replace h := ip hc h
            refine aw_aload_n dX6_line_30 rfl rfl ?_
            refine aw_getR (t := 35) dX6_line_31 fk_X6_42 pC_0 rfl ?_
            refine aw_iload_n dX6_line_34 rfl rfl ?_
            obtain ⟨y1, hg1, h⟩ := bn_e h
            refine aw_V1i (M2 := M_X2_columnsOf) dX6_line_35 lk_X6_129 mk_X2_columnsOf mv_X2_columnsOf ⟨by decide, by decide⟩ pC_35 ⟨_, _, rfl⟩ (Nat.le_of_ble_eq_true rfl) (c_X2_columnsOf  hg1) ?_
            refine aw_goto (tgt := 50) dX6_line_38 (by decide) ?_
            exact aw_less (ls' := [none, none, none]) (trivial) (t_X6_line_50   y1 s0 _ h)
          · replace h := ic hc h
            refine aw_aload_n dX6_line_41 rfl rfl ?_
            refine aw_getR (t := 35) dX6_line_42 fk_X6_42 pC_0 rfl ?_
            refine aw_iload_n dX6_line_45 rfl rfl ?_
            refine aw_iload_n dX6_line_46 rfl rfl ?_
            obtain ⟨y2, hg2, h⟩ := bn_e h
            refine aw_V2i (M2 := M_X2_byteAt) dX6_line_47 lk_X6_132 mk_X2_byteAt mv_X2_byteAt ⟨by decide, by decide⟩ pC_35 ⟨_, _, rfl⟩ (Nat.le_of_ble_eq_true rfl) (c_X2_byteAt  hg2) ?_
            exact aw_less (ls' := [none, none, none]) (trivial) (t_X6_line_50   y2 s0 _ h)
        · replace h := ic hc h
          exact aw_less (ls' := [none, none, none]) (trivial) (t_X6_line_22   s0 _ h)
theorem c_X6_line {x1 : Int} {x2 : Int} {s0 : SS} {y : Int} (h : f_X6_line x1 x2 s0 = some y) : CT LC M_X6_line [vR (some 0), vI x1, vI x2] s0 (some (vI y), s0) :=
  ct_of (n := 0) (by decide) (Nat.le_of_ble_eq_true rfl) (t_X6_line_0 x1 x2 s0  _ h)
def g_X5_tell_43 (z0 : Int) (s0 : SS) : Option Int :=
  some z0
set_option maxHeartbeats 4000000 in
theorem t_X5_tell_43  : ∀ (z0 : Int) (s0 : SS) (r : Int), g_X5_tell_43 z0 s0 = some r → AW LC M_X5_tell (some (vI r), s0) 43 [none, none, none, none] [vI z0] s0 := by
  intro z0 s0 r h
  unfold g_X5_tell_43 at h
  obtain rfl := Option.some.inj h
  exact aw_iret dX5_tell_43 rfl
def f_X5_tell (x1 : Int) (x2 : Int) (s0 : SS) : Option Int :=
  if (s0 22 6) = 0 then (
    some (-1)
  ) else (
    sb (i_and x1 (wr ((s0 22 6) - 1))) fun y1 =>
    bn (f_X3_tell 28 y1 0 s0) fun y2 =>
    if y2 ≤ 0 then (
      g_X5_tell_43  (-1) s0
    ) else (
      bn (f_X3_tell 28 y1 x2 s0) fun y3 =>
      g_X5_tell_43  y3 s0
    )
  )
set_option maxHeartbeats 4000000 in
theorem t_X5_tell_0  : ∀ (x1 : Int) (x2 : Int) (s0 : SS) (r : Int), f_X5_tell x1 x2 s0 = some r → AW LC M_X5_tell (some (vI r), s0) 0 [some (vR (some 22)), some (vI x1), some (vI x2), none] [] s0 := by
  intro x1 x2 s0 r h
  unfold f_X5_tell at h
  refine aw_aload_n dX5_tell_0 rfl rfl ?_
  refine aw_getI dX5_tell_1 fk_X5_41 pC_22 rfl ?_
  refine aw_if_ne (tgt := 9) dX5_tell_4 (by decide) (fun hc => ?_) (fun hc => ?_)
  rotate_left
  · replace h := ip hc h
    refine aw_iconst dX5_tell_7 ⟨by decide, by decide⟩ ?_
    obtain rfl := Option.some.inj h
    exact aw_iret dX5_tell_8 rfl
  · replace h := ic hc h
    refine aw_iload_n dX5_tell_9 rfl rfl ?_
    refine aw_aload_n dX5_tell_10 rfl rfl ?_
    refine aw_getI dX5_tell_11 fk_X5_41 pC_22 rfl ?_
    refine aw_iconst dX5_tell_14 ⟨by decide, by decide⟩ ?_
    refine aw_isub dX5_tell_15 ?_
    refine aw_iand dX5_tell_16 ?_
    refine aw_istore_n dX5_tell_17 rfl (by decide) rfl (fun y1 e => ?_)
    replace h := sb_e h e
    clear e
    show AW _ _ _ 18 [some (vR (some 22)), some (vI x1), some (vI x2), some (vI y1)] _ _
    refine aw_aload_n dX5_tell_18 rfl rfl ?_
    refine aw_getR (t := 28) dX5_tell_19 fk_X5_20 pC_22 rfl ?_
    refine aw_iload_n dX5_tell_22 rfl rfl ?_
    refine aw_iconst dX5_tell_23 ⟨by decide, by decide⟩ ?_
    obtain ⟨y2, hg1, h⟩ := bn_e h
    refine aw_V2i (M2 := M_X3_tell) dX5_tell_24 lk_X5_101 mk_X3_tell mv_X3_tell ⟨by decide, by decide⟩ pC_28 ⟨_, _, rfl⟩ (Nat.le_of_ble_eq_true rfl) (c_X3_tell pC_28 hg1) ?_
    refine aw_if_le (tgt := 42) dX5_tell_27 (by decide) (fun hc => ?_) (fun hc => ?_)
    · replace h := ip hc h
      refine aw_iconst dX5_tell_42 ⟨by decide, by decide⟩ ?_
      exact aw_less (ls' := [none, none, none, none]) (trivial) (t_X5_tell_43   (-1) s0 _ h)
    · replace h := ic hc h
      refine aw_aload_n dX5_tell_30 rfl rfl ?_
      refine aw_getR (t := 28) dX5_tell_31 fk_X5_20 pC_22 rfl ?_
      refine aw_iload_n dX5_tell_34 rfl rfl ?_
      refine aw_iload_n dX5_tell_35 rfl rfl ?_
      obtain ⟨y3, hg2, h⟩ := bn_e h
      refine aw_V2i (M2 := M_X3_tell) dX5_tell_36 lk_X5_101 mk_X3_tell mv_X3_tell ⟨by decide, by decide⟩ pC_28 ⟨_, _, rfl⟩ (Nat.le_of_ble_eq_true rfl) (c_X3_tell pC_28 hg2) ?_
      refine aw_goto (tgt := 43) dX5_tell_39 (by decide) ?_
      exact aw_less (ls' := [none, none, none, none]) (trivial) (t_X5_tell_43   y3 s0 _ h)
theorem c_X5_tell {x1 : Int} {x2 : Int} {s0 : SS} {y : Int} (h : f_X5_tell x1 x2 s0 = some y) : CT LC M_X5_tell [vR (some 22), vI x1, vI x2] s0 (some (vI y), s0) :=
  ct_of (n := 1) (by decide) (Nat.le_of_ble_eq_true rfl) (t_X5_tell_0 x1 x2 s0  _ h)
def g_X6_way_19  (s0 : SS) : Option Int :=
  some (-2)
set_option maxHeartbeats 4000000 in
theorem t_X6_way_19  : ∀ (s0 : SS) (r : Int), g_X6_way_19 s0 = some r → AW LC M_X6_way (some (vI r), s0) 19 [none, none, none] [] s0 := by
  intro s0 r h
  unfold g_X6_way_19 at h
  refine aw_bipush dX6_way_19 ⟨by decide, by decide⟩ (by decide) ?_
  obtain rfl := Option.some.inj h
  exact aw_iret dX6_way_21 rfl
def f_X6_way (x1 : Int) (x2 : Int) (s0 : SS) : Option Int :=
  if x1 < 0 then (
    g_X6_way_19  s0
  ) else (
    if 64 ≤ x1 then (
      g_X6_way_19  s0
    ) else (
      if x2 < 0 then (
        g_X6_way_19  s0
      ) else (
        if x2 ≤ 2 then (
          bn (f_X5_tell x1 x2 s0) fun y1 =>
          some y1
        ) else (
          g_X6_way_19  s0
        )
      )
    )
  )
set_option maxHeartbeats 4000000 in
theorem t_X6_way_0  : ∀ (x1 : Int) (x2 : Int) (s0 : SS) (r : Int), f_X6_way x1 x2 s0 = some r → AW LC M_X6_way (some (vI r), s0) 0 [some (vR (some 0)), some (vI x1), some (vI x2)] [] s0 := by
  intro x1 x2 s0 r h
  unfold f_X6_way at h
  refine aw_iload_n dX6_way_0 rfl rfl ?_
  refine aw_if_lt (tgt := 19) dX6_way_1 (by decide) (fun hc => ?_) (fun hc => ?_)
  · replace h := ip hc h
    exact aw_less (ls' := [none, none, none]) (trivial) (t_X6_way_19   s0 _ h)
  · replace h := ic hc h
    refine aw_iload_n dX6_way_4 rfl rfl ?_
    refine aw_bipush dX6_way_5 ⟨by decide, by decide⟩ (by decide) ?_
    refine aw_icmp_ge (tgt := 19) dX6_way_7 (by decide) (fun hc => ?_) (fun hc => ?_)
    · replace h := ip hc h
      exact aw_less (ls' := [none, none, none]) (trivial) (t_X6_way_19   s0 _ h)
    · replace h := ic hc h
      refine aw_iload_n dX6_way_10 rfl rfl ?_
      refine aw_if_lt (tgt := 19) dX6_way_11 (by decide) (fun hc => ?_) (fun hc => ?_)
      · replace h := ip hc h
        exact aw_less (ls' := [none, none, none]) (trivial) (t_X6_way_19   s0 _ h)
      · replace h := ic hc h
        refine aw_iload_n dX6_way_14 rfl rfl ?_
        refine aw_iconst dX6_way_15 ⟨by decide, by decide⟩ ?_
        refine aw_icmp_le (tgt := 22) dX6_way_16 (by decide) (fun hc => ?_) (fun hc => ?_)
        · replace h := ip hc h
          refine aw_aload_n dX6_way_22 rfl rfl ?_
          refine aw_getR (t := 22) dX6_way_23 fk_X6_35 pC_0 rfl ?_
          refine aw_iload_n dX6_way_26 rfl rfl ?_
          refine aw_iload_n dX6_way_27 rfl rfl ?_
          obtain ⟨y1, hg1, h⟩ := bn_e h
          refine aw_V2i (M2 := M_X5_tell) dX6_way_28 lk_X6_135 mk_X5_tell mv_X5_tell ⟨by decide, by decide⟩ pC_22 ⟨_, _, rfl⟩ (Nat.le_of_ble_eq_true rfl) (c_X5_tell  hg1) ?_
          obtain rfl := Option.some.inj h
          exact aw_iret dX6_way_31 rfl
        · replace h := ic hc h
          exact aw_less (ls' := [none, none, none]) (trivial) (t_X6_way_19   s0 _ h)
theorem c_X6_way {x1 : Int} {x2 : Int} {s0 : SS} {y : Int} (h : f_X6_way x1 x2 s0 = some y) : CT LC M_X6_way [vR (some 0), vI x1, vI x2] s0 (some (vI y), s0) :=
  ct_of (n := 0) (by decide) (Nat.le_of_ble_eq_true rfl) (t_X6_way_0 x1 x2 s0  _ h)
def g_X5_fits_30 (z0 : Int) (s0 : SS) : Option Int :=
  gb z0 <|
  some z0
set_option maxHeartbeats 4000000 in
theorem t_X5_fits_30  : ∀ (z0 : Int) (s0 : SS) (r : Int), g_X5_fits_30 z0 s0 = some r → AW LC M_X5_fits (some (vI r), s0) 30 [none, none, none] [vI z0] s0 := by
  intro z0 s0 r h
  unfold g_X5_fits_30 at h
  obtain ⟨hg1, h⟩ := gb_e h
  obtain rfl := Option.some.inj h
  exact aw_zret dX5_fits_30 rfl hg1
def g_X5_fits_29  (s0 : SS) : Option Int :=
  g_X5_fits_30  0 s0
set_option maxHeartbeats 4000000 in
theorem t_X5_fits_29  : ∀ (s0 : SS) (r : Int), g_X5_fits_29 s0 = some r → AW LC M_X5_fits (some (vI r), s0) 29 [none, none, none] [] s0 := by
  intro s0 r h
  unfold g_X5_fits_29 at h
  refine aw_iconst dX5_fits_29 ⟨by decide, by decide⟩ ?_
  exact (t_X5_fits_30   0 s0 _ h)
def f_X5_fits (x1 : Int) (x2 : Int) (s0 : SS) : Option Int :=
  bn (f_X3_tell 28 x1 0 s0) fun y1 =>
  if y1 ≤ 0 then (
    g_X5_fits_29  s0
  ) else (
    bn (f_X3_tell 28 x1 2 s0) fun y2 =>
    if x2 < y2 then (
      g_X5_fits_29  s0
    ) else (
      g_X5_fits_30  1 s0
    )
  )
set_option maxHeartbeats 4000000 in
theorem t_X5_fits_0  : ∀ (x1 : Int) (x2 : Int) (s0 : SS) (r : Int), f_X5_fits x1 x2 s0 = some r → AW LC M_X5_fits (some (vI r), s0) 0 [some (vR (some 22)), some (vI x1), some (vI x2)] [] s0 := by
  intro x1 x2 s0 r h
  unfold f_X5_fits at h
  refine aw_aload_n dX5_fits_0 rfl rfl ?_
  refine aw_getR (t := 28) dX5_fits_1 fk_X5_20 pC_22 rfl ?_
  refine aw_iload_n dX5_fits_4 rfl rfl ?_
  refine aw_iconst dX5_fits_5 ⟨by decide, by decide⟩ ?_
  obtain ⟨y1, hg1, h⟩ := bn_e h
  refine aw_V2i (M2 := M_X3_tell) dX5_fits_6 lk_X5_101 mk_X3_tell mv_X3_tell ⟨by decide, by decide⟩ pC_28 ⟨_, _, rfl⟩ (Nat.le_of_ble_eq_true rfl) (c_X3_tell pC_28 hg1) ?_
  refine aw_if_le (tgt := 29) dX5_fits_9 (by decide) (fun hc => ?_) (fun hc => ?_)
  · replace h := ip hc h
    exact aw_less (ls' := [none, none, none]) (trivial) (t_X5_fits_29   s0 _ h)
  · replace h := ic hc h
    refine aw_aload_n dX5_fits_12 rfl rfl ?_
    refine aw_getR (t := 28) dX5_fits_13 fk_X5_20 pC_22 rfl ?_
    refine aw_iload_n dX5_fits_16 rfl rfl ?_
    refine aw_iconst dX5_fits_17 ⟨by decide, by decide⟩ ?_
    obtain ⟨y2, hg2, h⟩ := bn_e h
    refine aw_V2i (M2 := M_X3_tell) dX5_fits_18 lk_X5_101 mk_X3_tell mv_X3_tell ⟨by decide, by decide⟩ pC_28 ⟨_, _, rfl⟩ (Nat.le_of_ble_eq_true rfl) (c_X3_tell pC_28 hg2) ?_
    refine aw_iload_n dX5_fits_21 rfl rfl ?_
    refine aw_icmp_gt (tgt := 29) dX5_fits_22 (by decide) (fun hc => ?_) (fun hc => ?_)
    · replace h := ip hc h
      exact aw_less (ls' := [none, none, none]) (trivial) (t_X5_fits_29   s0 _ h)
    · replace h := ic hc h
      refine aw_iconst dX5_fits_25 ⟨by decide, by decide⟩ ?_
      refine aw_goto (tgt := 30) dX5_fits_26 (by decide) ?_
      exact aw_less (ls' := [none, none, none]) (trivial) (t_X5_fits_30   1 s0 _ h)
theorem c_X5_fits {x1 : Int} {x2 : Int} {s0 : SS} {y : Int} (h : f_X5_fits x1 x2 s0 = some y) : CT LC M_X5_fits [vR (some 22), vI x1, vI x2] s0 (some (vI y), s0) :=
  ct_of (n := 0) (by decide) (Nat.le_of_ble_eq_true rfl) (t_X5_fits_0 x1 x2 s0  _ h)
def g_X5_isAny_46  (s0 : SS) : Option Int :=
  some 0
set_option maxHeartbeats 4000000 in
theorem t_X5_isAny_46  : ∀ (s0 : SS) (r : Int), g_X5_isAny_46 s0 = some r → AW LC M_X5_isAny (some (vI r), s0) 46 [none, none, none, none, none] [] s0 := by
  intro s0 r h
  unfold g_X5_isAny_46 at h
  refine aw_iconst dX5_isAny_46 ⟨by decide, by decide⟩ ?_
  obtain rfl := Option.some.inj h
  exact aw_zret dX5_isAny_47 rfl (Or.inl rfl)
def g_X5_isAny_40 (k3 : Int → Int → Int → Int → SS → Option Int) (x1 : Int) (x2 : Int) (x3 : Int) (x4 : Int) (s0 : SS) : Option Int :=
  sb (wr (x4 + 1)) fun y1 =>
  k3 x1 x2 x3 y1 s0
set_option maxHeartbeats 4000000 in
theorem t_X5_isAny_40 (k3 : Int → Int → Int → Int → SS → Option Int) (hk3 : ∀ (x1 : Int) (x2 : Int) (x3 : Int) (x4 : Int) (s0 : SS) (r : Int), k3 x1 x2 x3 x4 s0 = some r → AW LC M_X5_isAny (some (vI r), s0) 3 [some (vR (some 22)), some (vI x1), some (vI x2), some (vI x3), some (vI x4)] [] s0) : ∀ (x1 : Int) (x2 : Int) (x3 : Int) (x4 : Int) (s0 : SS) (r : Int), g_X5_isAny_40 k3 x1 x2 x3 x4 s0 = some r → AW LC M_X5_isAny (some (vI r), s0) 40 [some (vR (some 22)), some (vI x1), some (vI x2), some (vI x3), some (vI x4)] [] s0 := by
  intro x1 x2 x3 x4 s0 r h
  unfold g_X5_isAny_40 at h
  refine aw_iinc dX5_isAny_40 rfl (by decide) rfl (fun y1 e => ?_)
  replace h := sb_e h e
  clear e
  show AW _ _ _ 43 [some (vR (some 22)), some (vI x1), some (vI x2), some (vI x3), some (vI y1)] _ _
  refine aw_goto (tgt := 3) dX5_isAny_43 (by decide) ?_
  exact (hk3 x1 x2 x3 y1 s0 _ h)
def g_X5_isAny_38  (s0 : SS) : Option Int :=
  some 1
set_option maxHeartbeats 4000000 in
theorem t_X5_isAny_38  : ∀ (s0 : SS) (r : Int), g_X5_isAny_38 s0 = some r → AW LC M_X5_isAny (some (vI r), s0) 38 [none, none, none, none, none] [] s0 := by
  intro s0 r h
  unfold g_X5_isAny_38 at h
  refine aw_iconst dX5_isAny_38 ⟨by decide, by decide⟩ ?_
  obtain rfl := Option.some.inj h
  exact aw_zret dX5_isAny_39 rfl (Or.inr rfl)
def g_X5_isAny_3 (k3 : Int → Int → Int → Int → SS → Option Int) (x1 : Int) (x2 : Int) (x3 : Int) (x4 : Int) (s0 : SS) : Option Int :=
  if (s0 22 6) ≤ x4 then (
    g_X5_isAny_46  s0
  ) else (
    bn (f_X5_fits x4 x3 s0) fun y1 =>
    if y1 = 0 then (
      g_X5_isAny_40 k3 x1 x2 x3 x4 s0
    ) else (
      bn (f_X3_tell 28 x4 3 s0) fun y2 =>
      if (i_and y2 x1) = x2 then (
        g_X5_isAny_38  s0
      ) else (
        g_X5_isAny_40 k3 x1 x2 x3 x4 s0
      )
    )
  )
set_option maxHeartbeats 4000000 in
theorem t_X5_isAny_3 (k3 : Int → Int → Int → Int → SS → Option Int) (hk3 : ∀ (x1 : Int) (x2 : Int) (x3 : Int) (x4 : Int) (s0 : SS) (r : Int), k3 x1 x2 x3 x4 s0 = some r → AW LC M_X5_isAny (some (vI r), s0) 3 [some (vR (some 22)), some (vI x1), some (vI x2), some (vI x3), some (vI x4)] [] s0) : ∀ (x1 : Int) (x2 : Int) (x3 : Int) (x4 : Int) (s0 : SS) (r : Int), g_X5_isAny_3 k3 x1 x2 x3 x4 s0 = some r → AW LC M_X5_isAny (some (vI r), s0) 3 [some (vR (some 22)), some (vI x1), some (vI x2), some (vI x3), some (vI x4)] [] s0 := by
  intro x1 x2 x3 x4 s0 r h
  unfold g_X5_isAny_3 at h
  refine aw_iload dX5_isAny_3 rfl ?_
  refine aw_aload_n dX5_isAny_5 rfl rfl ?_
  refine aw_getI dX5_isAny_6 fk_X5_41 pC_22 rfl ?_
  refine aw_icmp_ge (tgt := 46) dX5_isAny_9 (by decide) (fun hc => ?_) (fun hc => ?_)
  · replace h := ip hc h
    exact aw_less (ls' := [none, none, none, none, none]) (trivial) (t_X5_isAny_46   s0 _ h)
  · replace h := ic hc h
    refine aw_aload_n dX5_isAny_12 rfl rfl ?_
    refine aw_iload dX5_isAny_13 rfl ?_
    refine aw_iload_n dX5_isAny_15 rfl rfl ?_
    obtain ⟨y1, hg1, h⟩ := bn_e h
    refine aw_V2i (M2 := M_X5_fits) dX5_isAny_16 lk_X5_115 mk_X5_fits mv_X5_fits ⟨by decide, by decide⟩ pC_22 ⟨_, _, rfl⟩ (Nat.le_of_ble_eq_true rfl) (c_X5_fits  hg1) ?_
    refine aw_if_eq (tgt := 40) dX5_isAny_19 (by decide) (fun hc => ?_) (fun hc => ?_)
    · replace h := ip hc h
      exact (t_X5_isAny_40 k3 hk3 x1 x2 x3 x4 s0 _ h)
    · replace h := ic hc h
      refine aw_aload_n dX5_isAny_22 rfl rfl ?_
      refine aw_getR (t := 28) dX5_isAny_23 fk_X5_20 pC_22 rfl ?_
      refine aw_iload dX5_isAny_26 rfl ?_
      refine aw_iconst dX5_isAny_28 ⟨by decide, by decide⟩ ?_
      obtain ⟨y2, hg2, h⟩ := bn_e h
      refine aw_V2i (M2 := M_X3_tell) dX5_isAny_29 lk_X5_101 mk_X3_tell mv_X3_tell ⟨by decide, by decide⟩ pC_28 ⟨_, _, rfl⟩ (Nat.le_of_ble_eq_true rfl) (c_X3_tell pC_28 hg2) ?_
      refine aw_iload_n dX5_isAny_32 rfl rfl ?_
      refine aw_iand dX5_isAny_33 ?_
      refine aw_iload_n dX5_isAny_34 rfl rfl ?_
      refine aw_icmp_ne (tgt := 40) dX5_isAny_35 (by decide) (fun hc => ?_) (fun hc => ?_)
      rotate_left
      · replace h := ip hc h
        exact aw_less (ls' := [none, none, none, none, none]) (trivial) (t_X5_isAny_38   s0 _ h)
      · replace h := ic hc h
        exact (t_X5_isAny_40 k3 hk3 x1 x2 x3 x4 s0 _ h)
def f_X5_isAny_3 : Nat → Int → Int → Int → Int → SS → Option Int
  | 0 => fun _ _ _ _ _ => none
  | n + 1 => g_X5_isAny_3 (f_X5_isAny_3  n)
theorem s_X5_isAny_3  : ∀ (n : Nat), ∀ (x1 : Int) (x2 : Int) (x3 : Int) (x4 : Int) (s0 : SS) (r : Int), f_X5_isAny_3 n x1 x2 x3 x4 s0 = some r → AW LC M_X5_isAny (some (vI r), s0) 3 [some (vR (some 22)), some (vI x1), some (vI x2), some (vI x3), some (vI x4)] [] s0 := by
  intro n
  induction n with
  | zero =>
    intro x1 x2 x3 x4 s0 r h
    cases h
  | succ n ih =>
    intro x1 x2 x3 x4 s0 r h
    exact t_X5_isAny_3 (f_X5_isAny_3  n) ih x1 x2 x3 x4 s0 r h
def f_X5_isAny (x1 : Int) (x2 : Int) (x3 : Int) (s0 : SS) : Option Int :=
  f_X5_isAny_3  FU x1 x2 x3 0 s0
set_option maxHeartbeats 4000000 in
theorem t_X5_isAny_0  : ∀ (x1 : Int) (x2 : Int) (x3 : Int) (s0 : SS) (r : Int), f_X5_isAny x1 x2 x3 s0 = some r → AW LC M_X5_isAny (some (vI r), s0) 0 [some (vR (some 22)), some (vI x1), some (vI x2), some (vI x3), none] [] s0 := by
  intro x1 x2 x3 s0 r h
  unfold f_X5_isAny at h
  refine aw_iconst dX5_isAny_0 ⟨by decide, by decide⟩ ?_
  refine aw_istoreA dX5_isAny_1 (by decide) rfl ?_
  show AW _ _ _ 3 [some (vR (some 22)), some (vI x1), some (vI x2), some (vI x3), some (vI 0)] _ _
  exact (s_X5_isAny_3   FU x1 x2 x3 0 s0 _ h)
theorem c_X5_isAny {x1 : Int} {x2 : Int} {x3 : Int} {s0 : SS} {y : Int} (h : f_X5_isAny x1 x2 x3 s0 = some y) : CT LC M_X5_isAny [vR (some 22), vI x1, vI x2, vI x3] s0 (some (vI y), s0) :=
  ct_of (n := 1) (by decide) (Nat.le_of_ble_eq_true rfl) (t_X5_isAny_0 x1 x2 x3 s0  _ h)
def g_X5_hasty_62 (x3 : Int) (s0 : SS) : Option Int :=
  some x3
set_option maxHeartbeats 4000000 in
theorem t_X5_hasty_62  : ∀ (x3 : Int) (s0 : SS) (r : Int), g_X5_hasty_62 x3 s0 = some r → AW LC M_X5_hasty (some (vI r), s0) 62 [none, none, none, some (vI x3), none, none] [] s0 := by
  intro x3 s0 r h
  unfold g_X5_hasty_62 at h
  refine aw_iload_n dX5_hasty_62 rfl rfl ?_
  obtain rfl := Option.some.inj h
  exact aw_iret dX5_hasty_63 rfl
def g_X5_hasty_56 (k17 : Int → Int → Int → Int → SS → Option Int) (x1 : Int) (x2 : Int) (x3 : Int) (x4 : Int) (s0 : SS) : Option Int :=
  sb (wr (x4 + 1)) fun y1 =>
  k17 x1 x2 x3 y1 s0
set_option maxHeartbeats 4000000 in
theorem t_X5_hasty_56 (k17 : Int → Int → Int → Int → SS → Option Int) (hk17 : ∀ (x1 : Int) (x2 : Int) (x3 : Int) (x4 : Int) (s0 : SS) (r : Int), k17 x1 x2 x3 x4 s0 = some r → AW LC M_X5_hasty (some (vI r), s0) 17 [some (vR (some 22)), some (vI x1), some (vI x2), some (vI x3), some (vI x4), none] [] s0) : ∀ (x1 : Int) (x2 : Int) (x3 : Int) (x4 : Int) (s0 : SS) (r : Int), g_X5_hasty_56 k17 x1 x2 x3 x4 s0 = some r → AW LC M_X5_hasty (some (vI r), s0) 56 [some (vR (some 22)), some (vI x1), some (vI x2), some (vI x3), some (vI x4), none] [] s0 := by
  intro x1 x2 x3 x4 s0 r h
  unfold g_X5_hasty_56 at h
  refine aw_iinc dX5_hasty_56 rfl (by decide) rfl (fun y1 e => ?_)
  replace h := sb_e h e
  clear e
  show AW _ _ _ 59 [some (vR (some 22)), some (vI x1), some (vI x2), some (vI x3), some (vI y1), none] _ _
  refine aw_goto (tgt := 17) dX5_hasty_59 (by decide) ?_
  exact (hk17 x1 x2 x3 y1 s0 _ h)
def g_X5_hasty_17 (k17 : Int → Int → Int → Int → SS → Option Int) (x1 : Int) (x2 : Int) (x3 : Int) (x4 : Int) (s0 : SS) : Option Int :=
  if x1 ≤ x4 then (
    g_X5_hasty_62  x3 s0
  ) else (
    if 6 ≤ x4 then (
      g_X5_hasty_62  x3 s0
    ) else (
      sb (wr ((i_shl 2 x4) - 1)) fun y1 =>
      bn (f_X5_isAny y1 x3 x2 s0) fun y2 =>
      if y2 = 0 then (
        sb (i_or x3 (i_shl 1 x4)) fun y3 =>
        g_X5_hasty_56 k17 x1 x2 y3 x4 s0
      ) else (
        g_X5_hasty_56 k17 x1 x2 x3 x4 s0
      )
    )
  )
set_option maxHeartbeats 4000000 in
theorem t_X5_hasty_17 (k17 : Int → Int → Int → Int → SS → Option Int) (hk17 : ∀ (x1 : Int) (x2 : Int) (x3 : Int) (x4 : Int) (s0 : SS) (r : Int), k17 x1 x2 x3 x4 s0 = some r → AW LC M_X5_hasty (some (vI r), s0) 17 [some (vR (some 22)), some (vI x1), some (vI x2), some (vI x3), some (vI x4), none] [] s0) : ∀ (x1 : Int) (x2 : Int) (x3 : Int) (x4 : Int) (s0 : SS) (r : Int), g_X5_hasty_17 k17 x1 x2 x3 x4 s0 = some r → AW LC M_X5_hasty (some (vI r), s0) 17 [some (vR (some 22)), some (vI x1), some (vI x2), some (vI x3), some (vI x4), none] [] s0 := by
  intro x1 x2 x3 x4 s0 r h
  unfold g_X5_hasty_17 at h
  refine aw_iload dX5_hasty_17 rfl ?_
  refine aw_iload_n dX5_hasty_19 rfl rfl ?_
  refine aw_icmp_ge (tgt := 62) dX5_hasty_20 (by decide) (fun hc => ?_) (fun hc => ?_)
  · replace h := ip hc h
    exact aw_less (ls' := [none, none, none, some (vI x3), none, none]) (⟨rfl, trivial⟩) (t_X5_hasty_62   x3 s0 _ h)
  · replace h := ic hc h
    refine aw_iload dX5_hasty_23 rfl ?_
    refine aw_bipush dX5_hasty_25 ⟨by decide, by decide⟩ (by decide) ?_
    refine aw_icmp_ge (tgt := 62) dX5_hasty_27 (by decide) (fun hc => ?_) (fun hc => ?_)
    · replace h := ip hc h
      exact aw_less (ls' := [none, none, none, some (vI x3), none, none]) (⟨rfl, trivial⟩) (t_X5_hasty_62   x3 s0 _ h)
    · replace h := ic hc h
      refine aw_iconst dX5_hasty_30 ⟨by decide, by decide⟩ ?_
      refine aw_iload dX5_hasty_31 rfl ?_
      refine aw_ishl dX5_hasty_33 ?_
      refine aw_iconst dX5_hasty_34 ⟨by decide, by decide⟩ ?_
      refine aw_isub dX5_hasty_35 ?_
      refine aw_istore dX5_hasty_36 (by decide) rfl (fun y1 e => ?_)
      replace h := sb_e h e
      clear e
      show AW _ _ _ 38 [some (vR (some 22)), some (vI x1), some (vI x2), some (vI x3), some (vI x4), some (vI y1)] _ _
      refine aw_aload_n dX5_hasty_38 rfl rfl ?_
      refine aw_iload dX5_hasty_39 rfl ?_
      refine aw_iload_n dX5_hasty_41 rfl rfl ?_
      refine aw_iload_n dX5_hasty_42 rfl rfl ?_
      obtain ⟨y2, hg1, h⟩ := bn_e h
      refine aw_V3i (M2 := M_X5_isAny) dX5_hasty_43 lk_X5_111 mk_X5_isAny mv_X5_isAny ⟨by decide, by decide⟩ pC_22 ⟨_, _, rfl⟩ (Nat.le_of_ble_eq_true rfl) (c_X5_isAny  hg1) ?_
      refine aw_if_ne (tgt := 56) dX5_hasty_46 (by decide) (fun hc => ?_) (fun hc => ?_)
      rotate_left
      · replace h := ip hc h
        refine aw_iload_n dX5_hasty_49 rfl rfl ?_
        refine aw_iconst dX5_hasty_50 ⟨by decide, by decide⟩ ?_
        refine aw_iload dX5_hasty_51 rfl ?_
        refine aw_ishl dX5_hasty_53 ?_
        refine aw_ior dX5_hasty_54 ?_
        refine aw_istore_n dX5_hasty_55 rfl (by decide) rfl (fun y3 e => ?_)
        replace h := sb_e h e
        clear e
        show AW _ _ _ 56 [some (vR (some 22)), some (vI x1), some (vI x2), some (vI y3), some (vI x4), some (vI y1)] _ _
        exact aw_less (ls' := [some (vR (some 22)), some (vI x1), some (vI x2), some (vI y3), some (vI x4), none]) (⟨rfl, ⟨rfl, ⟨rfl, ⟨rfl, ⟨rfl, trivial⟩⟩⟩⟩⟩) (t_X5_hasty_56 k17 hk17 x1 x2 y3 x4 s0 _ h)
      · replace h := ic hc h
        exact aw_less (ls' := [some (vR (some 22)), some (vI x1), some (vI x2), some (vI x3), some (vI x4), none]) (⟨rfl, ⟨rfl, ⟨rfl, ⟨rfl, ⟨rfl, trivial⟩⟩⟩⟩⟩) (t_X5_hasty_56 k17 hk17 x1 x2 x3 x4 s0 _ h)
def f_X5_hasty_17 : Nat → Int → Int → Int → Int → SS → Option Int
  | 0 => fun _ _ _ _ _ => none
  | n + 1 => g_X5_hasty_17 (f_X5_hasty_17  n)
theorem s_X5_hasty_17  : ∀ (n : Nat), ∀ (x1 : Int) (x2 : Int) (x3 : Int) (x4 : Int) (s0 : SS) (r : Int), f_X5_hasty_17 n x1 x2 x3 x4 s0 = some r → AW LC M_X5_hasty (some (vI r), s0) 17 [some (vR (some 22)), some (vI x1), some (vI x2), some (vI x3), some (vI x4), none] [] s0 := by
  intro n
  induction n with
  | zero =>
    intro x1 x2 x3 x4 s0 r h
    cases h
  | succ n ih =>
    intro x1 x2 x3 x4 s0 r h
    exact t_X5_hasty_17 (f_X5_hasty_17  n) ih x1 x2 x3 x4 s0 r h
def f_X5_hasty (x1 : Int) (x2 : Int) (s0 : SS) : Option Int :=
  bn (f_X5_isAny 0 0 x2 s0) fun y1 =>
  if y1 = 0 then (
    some (-1)
  ) else (
    f_X5_hasty_17  FU x1 x2 0 0 s0
  )
set_option maxHeartbeats 4000000 in
theorem t_X5_hasty_0  : ∀ (x1 : Int) (x2 : Int) (s0 : SS) (r : Int), f_X5_hasty x1 x2 s0 = some r → AW LC M_X5_hasty (some (vI r), s0) 0 [some (vR (some 22)), some (vI x1), some (vI x2), none, none, none] [] s0 := by
  intro x1 x2 s0 r h
  unfold f_X5_hasty at h
  refine aw_aload_n dX5_hasty_0 rfl rfl ?_
  refine aw_iconst dX5_hasty_1 ⟨by decide, by decide⟩ ?_
  refine aw_iconst dX5_hasty_2 ⟨by decide, by decide⟩ ?_
  refine aw_iload_n dX5_hasty_3 rfl rfl ?_
  obtain ⟨y1, hg1, h⟩ := bn_e h
  refine aw_V3i (M2 := M_X5_isAny) dX5_hasty_4 lk_X5_111 mk_X5_isAny mv_X5_isAny ⟨by decide, by decide⟩ pC_22 ⟨_, _, rfl⟩ (Nat.le_of_ble_eq_true rfl) (c_X5_isAny  hg1) ?_
  refine aw_if_ne (tgt := 12) dX5_hasty_7 (by decide) (fun hc => ?_) (fun hc => ?_)
  rotate_left
  · replace h := ip hc h
    refine aw_iconst dX5_hasty_10 ⟨by decide, by decide⟩ ?_
    obtain rfl := Option.some.inj h
    exact aw_iret dX5_hasty_11 rfl
  · replace h := ic hc h
    refine aw_iconst dX5_hasty_12 ⟨by decide, by decide⟩ ?_
    refine aw_istore_nA dX5_hasty_13 rfl (by decide) rfl ?_
    show AW _ _ _ 14 [some (vR (some 22)), some (vI x1), some (vI x2), some (vI 0), none, none] _ _
    refine aw_iconst dX5_hasty_14 ⟨by decide, by decide⟩ ?_
    refine aw_istoreA dX5_hasty_15 (by decide) rfl ?_
    show AW _ _ _ 17 [some (vR (some 22)), some (vI x1), some (vI x2), some (vI 0), some (vI 0), none] _ _
    exact (s_X5_hasty_17   FU x1 x2 0 0 s0 _ h)
theorem c_X5_hasty {x1 : Int} {x2 : Int} {s0 : SS} {y : Int} (h : f_X5_hasty x1 x2 s0 = some y) : CT LC M_X5_hasty [vR (some 22), vI x1, vI x2] s0 (some (vI y), s0) :=
  ct_of (n := 3) (by decide) (Nat.le_of_ble_eq_true rfl) (t_X5_hasty_0 x1 x2 s0  _ h)
def g_X6_haste_9  (s0 : SS) : Option Int :=
  some (-2)
set_option maxHeartbeats 4000000 in
theorem t_X6_haste_9  : ∀ (s0 : SS) (r : Int), g_X6_haste_9 s0 = some r → AW LC M_X6_haste (some (vI r), s0) 9 [none, none, none] [] s0 := by
  intro s0 r h
  unfold g_X6_haste_9 at h
  refine aw_bipush dX6_haste_9 ⟨by decide, by decide⟩ (by decide) ?_
  obtain rfl := Option.some.inj h
  exact aw_iret dX6_haste_11 rfl
def g_X6_haste_40 (x2 : Int) (s0 : SS) : Option Int :=
  some x2
set_option maxHeartbeats 4000000 in
theorem t_X6_haste_40  : ∀ (x2 : Int) (s0 : SS) (r : Int), g_X6_haste_40 x2 s0 = some r → AW LC M_X6_haste (some (vI r), s0) 40 [none, none, some (vI x2)] [] s0 := by
  intro x2 s0 r h
  unfold g_X6_haste_40 at h
  refine aw_iload_n dX6_haste_40 rfl rfl ?_
  obtain rfl := Option.some.inj h
  exact aw_iret dX6_haste_41 rfl
def g_X6_haste_57 (z0 : Int) (z1 : Int) (s0 : SS) : Option Int :=
  bn (f_X5_tell z1 z0 s0) fun y1 =>
  some y1
set_option maxHeartbeats 4000000 in
theorem t_X6_haste_57  : ∀ (z0 : Int) (z1 : Int) (s0 : SS) (r : Int), g_X6_haste_57 z0 z1 s0 = some r → AW LC M_X6_haste (some (vI r), s0) 57 [none, none, none] [vI z0, vI z1, vR (some 22)] s0 := by
  intro z0 z1 s0 r h
  unfold g_X6_haste_57 at h
  obtain ⟨y1, hg1, h⟩ := bn_e h
  refine aw_V2i (M2 := M_X5_tell) dX6_haste_57 lk_X6_135 mk_X5_tell mv_X5_tell ⟨by decide, by decide⟩ pC_22 ⟨_, _, rfl⟩ (Nat.le_of_ble_eq_true rfl) (c_X5_tell  hg1) ?_
  obtain rfl := Option.some.inj h
  exact aw_iret dX6_haste_60 rfl
def f_X6_haste (x1 : Int) (s0 : SS) : Option Int :=
  if x1 < 0 then (
    g_X6_haste_9  s0
  ) else (
    if x1 ≤ 2 then (
      bn (f_X5_hasty (s0 1 10) (s0 0 6) s0) fun y1 =>
      if y1 = (-1) then (
        g_X6_haste_40  y1 s0
      ) else (
        if x1 = 0 then (
          g_X6_haste_40  y1 s0
        ) else (
          if x1 = 1 then (
            g_X6_haste_57  0 y1 s0
          ) else (
            g_X6_haste_57  2 y1 s0
          )
        )
      )
    ) else (
      g_X6_haste_9  s0
    )
  )
set_option maxHeartbeats 4000000 in
theorem t_X6_haste_0  : ∀ (x1 : Int) (s0 : SS) (r : Int), f_X6_haste x1 s0 = some r → AW LC M_X6_haste (some (vI r), s0) 0 [some (vR (some 0)), some (vI x1), none] [] s0 := by
  intro x1 s0 r h
  unfold f_X6_haste at h
  refine aw_iload_n dX6_haste_0 rfl rfl ?_
  refine aw_if_lt (tgt := 9) dX6_haste_1 (by decide) (fun hc => ?_) (fun hc => ?_)
  · replace h := ip hc h
    exact aw_less (ls' := [none, none, none]) (trivial) (t_X6_haste_9   s0 _ h)
  · replace h := ic hc h
    refine aw_iload_n dX6_haste_4 rfl rfl ?_
    refine aw_iconst dX6_haste_5 ⟨by decide, by decide⟩ ?_
    refine aw_icmp_le (tgt := 12) dX6_haste_6 (by decide) (fun hc => ?_) (fun hc => ?_)
    · replace h := ip hc h
      refine aw_aload_n dX6_haste_12 rfl rfl ?_
      refine aw_getR (t := 22) dX6_haste_13 fk_X6_35 pC_0 rfl ?_
      refine aw_aload_n dX6_haste_16 rfl rfl ?_
      refine aw_getR (t := 1) dX6_haste_17 fk_X6_10 pC_0 rfl ?_
      refine aw_getI dX6_haste_20 fk_X6_136 pC_1 rfl ?_
      refine aw_aload_n dX6_haste_23 rfl rfl ?_
      refine aw_getI dX6_haste_24 fk_X6_53 pC_0 rfl ?_
      obtain ⟨y1, hg1, h⟩ := bn_e h
      refine aw_V2i (M2 := M_X5_hasty) dX6_haste_27 lk_X6_139 mk_X5_hasty mv_X5_hasty ⟨by decide, by decide⟩ pC_22 ⟨_, _, rfl⟩ (Nat.le_of_ble_eq_true rfl) (c_X5_hasty  hg1) ?_
      refine aw_istore_nA dX6_haste_30 rfl (by decide) rfl ?_
      show AW _ _ _ 31 [some (vR (some 0)), some (vI x1), some (vI y1)] _ _
      refine aw_iload_n dX6_haste_31 rfl rfl ?_
      refine aw_iconst dX6_haste_32 ⟨by decide, by decide⟩ ?_
      refine aw_icmp_eq (tgt := 40) dX6_haste_33 (by decide) (fun hc => ?_) (fun hc => ?_)
      · replace h := ip hc h
        exact aw_less (ls' := [none, none, some (vI y1)]) (⟨rfl, trivial⟩) (t_X6_haste_40   y1 s0 _ h)
      · replace h := ic hc h
        refine aw_iload_n dX6_haste_36 rfl rfl ?_
        refine aw_if_ne (tgt := 42) dX6_haste_37 (by decide) (fun hc => ?_) (fun hc => ?_)
        rotate_left
        · replace h := ip hc h
          exact aw_less (ls' := [none, none, some (vI y1)]) (⟨rfl, trivial⟩) (t_X6_haste_40   y1 s0 _ h)
        · replace h := ic hc h
          refine aw_aload_n dX6_haste_42 rfl rfl ?_
          refine aw_getR (t := 22) dX6_haste_43 fk_X6_35 pC_0 rfl ?_
          refine aw_iload_n dX6_haste_46 rfl rfl ?_
          refine aw_iload_n dX6_haste_47 rfl rfl ?_
          refine aw_iconst dX6_haste_48 ⟨by decide, by decide⟩ ?_
          refine aw_icmp_ne (tgt := 56) dX6_haste_49 (by decide) (fun hc => ?_) (fun hc => ?_)
          rotate_left
          · replace h := ip hc h
            refine aw_iconst dX6_haste_52 ⟨by decide, by decide⟩ ?_
            refine aw_goto (tgt := 57) dX6_haste_53 (by decide) ?_
            exact aw_less (ls' := [none, none, none]) (trivial) (t_X6_haste_57   0 y1 s0 _ h)
          · replace h := ic hc h
            refine aw_iconst dX6_haste_56 ⟨by decide, by decide⟩ ?_
            exact aw_less (ls' := [none, none, none]) (trivial) (t_X6_haste_57   2 y1 s0 _ h)
    · replace h := ic hc h
      exact aw_less (ls' := [none, none, none]) (trivial) (t_X6_haste_9   s0 _ h)
theorem c_X6_haste {x1 : Int} {s0 : SS} {y : Int} (h : f_X6_haste x1 s0 = some y) : CT LC M_X6_haste [vR (some 0), vI x1] s0 (some (vI y), s0) :=
  ct_of (n := 1) (by decide) (Nat.le_of_ble_eq_true rfl) (t_X6_haste_0 x1 s0  _ h)
def f_X6_enough  (s0 : SS) : Option Int :=
  some (s0 22 5)
set_option maxHeartbeats 4000000 in
theorem t_X6_enough_0  : ∀ (s0 : SS) (r : Int), f_X6_enough s0 = some r → AW LC M_X6_enough (some (vI r), s0) 0 [some (vR (some 0))] [] s0 := by
  intro s0 r h
  unfold f_X6_enough at h
  refine aw_aload_n dX6_enough_0 rfl rfl ?_
  refine aw_getR (t := 22) dX6_enough_1 fk_X6_35 pC_0 rfl ?_
  refine aw_getI dX6_enough_4 fk_X6_142 pC_22 rfl ?_
  obtain rfl := Option.some.inj h
  exact aw_iret dX6_enough_7 rfl
theorem c_X6_enough {s0 : SS} {y : Int} (h : f_X6_enough s0 = some y) : CT LC M_X6_enough [vR (some 0)] s0 (some (vI y), s0) :=
  ct_of (n := 0) (by decide) (Nat.le_of_ble_eq_true rfl) (t_X6_enough_0  s0  _ h)
def g_X5_shrinkAt_31 (z0 : Int) (s0 : SS) : Option Int :=
  some z0
set_option maxHeartbeats 4000000 in
theorem t_X5_shrinkAt_31  : ∀ (z0 : Int) (s0 : SS) (r : Int), g_X5_shrinkAt_31 z0 s0 = some r → AW LC M_X5_shrinkAt (some (vI r), s0) 31 [none, none] [vI z0] s0 := by
  intro z0 s0 r h
  unfold g_X5_shrinkAt_31 at h
  obtain rfl := Option.some.inj h
  exact aw_iret dX5_shrinkAt_31 rfl
def g_X5_shrinkAt_30  (s0 : SS) : Option Int :=
  g_X5_shrinkAt_31  (-1) s0
set_option maxHeartbeats 4000000 in
theorem t_X5_shrinkAt_30  : ∀ (s0 : SS) (r : Int), g_X5_shrinkAt_30 s0 = some r → AW LC M_X5_shrinkAt (some (vI r), s0) 30 [none, none] [] s0 := by
  intro s0 r h
  unfold g_X5_shrinkAt_30 at h
  refine aw_iconst dX5_shrinkAt_30 ⟨by decide, by decide⟩ ?_
  exact (t_X5_shrinkAt_31   (-1) s0 _ h)
def f_X5_shrinkAt (x1 : Int) (s0 : SS) : Option Int :=
  if x1 < 0 then (
    g_X5_shrinkAt_30  s0
  ) else (
    if (s0 22 4) ≤ x1 then (
      g_X5_shrinkAt_30  s0
    ) else (
      if 40 ≤ x1 then (
        g_X5_shrinkAt_30  s0
      ) else (
        gx x1 40 <|
        g_X5_shrinkAt_31  (s0 34 x1.toNat) s0
      )
    )
  )
set_option maxHeartbeats 4000000 in
theorem t_X5_shrinkAt_0  : ∀ (x1 : Int) (s0 : SS) (r : Int), f_X5_shrinkAt x1 s0 = some r → AW LC M_X5_shrinkAt (some (vI r), s0) 0 [some (vR (some 22)), some (vI x1)] [] s0 := by
  intro x1 s0 r h
  unfold f_X5_shrinkAt at h
  refine aw_iload_n dX5_shrinkAt_0 rfl rfl ?_
  refine aw_if_lt (tgt := 30) dX5_shrinkAt_1 (by decide) (fun hc => ?_) (fun hc => ?_)
  · replace h := ip hc h
    exact aw_less (ls' := [none, none]) (trivial) (t_X5_shrinkAt_30   s0 _ h)
  · replace h := ic hc h
    refine aw_iload_n dX5_shrinkAt_4 rfl rfl ?_
    refine aw_aload_n dX5_shrinkAt_5 rfl rfl ?_
    refine aw_getI dX5_shrinkAt_6 fk_X5_108 pC_22 rfl ?_
    refine aw_icmp_ge (tgt := 30) dX5_shrinkAt_9 (by decide) (fun hc => ?_) (fun hc => ?_)
    · replace h := ip hc h
      exact aw_less (ls' := [none, none]) (trivial) (t_X5_shrinkAt_30   s0 _ h)
    · replace h := ic hc h
      refine aw_iload_n dX5_shrinkAt_12 rfl rfl ?_
      refine aw_aload_n dX5_shrinkAt_13 rfl rfl ?_
      refine aw_getR (t := 34) dX5_shrinkAt_14 fk_X5_27 pC_22 rfl ?_
      refine aw_alen dX5_shrinkAt_17 aC_34 (by decide) ⟨by decide, by decide⟩ ?_
      refine aw_icmp_ge (tgt := 30) dX5_shrinkAt_18 (by decide) (fun hc => ?_) (fun hc => ?_)
      · replace h := ip hc h
        exact aw_less (ls' := [none, none]) (trivial) (t_X5_shrinkAt_30   s0 _ h)
      · replace h := ic hc h
        refine aw_aload_n dX5_shrinkAt_21 rfl rfl ?_
        refine aw_getR (t := 34) dX5_shrinkAt_22 fk_X5_27 pC_22 rfl ?_
        refine aw_iload_n dX5_shrinkAt_25 rfl rfl ?_
        obtain ⟨hg1, h⟩ := gx_e h
        refine aw_iald dX5_shrinkAt_26 aC_34 hg1 ?_
        refine aw_goto (tgt := 31) dX5_shrinkAt_27 (by decide) ?_
        exact aw_less (ls' := [none, none]) (trivial) (t_X5_shrinkAt_31   (s0 34 x1.toNat) s0 _ h)
theorem c_X5_shrinkAt {x1 : Int} {s0 : SS} {y : Int} (h : f_X5_shrinkAt x1 s0 = some y) : CT LC M_X5_shrinkAt [vR (some 22), vI x1] s0 (some (vI y), s0) :=
  ct_of (n := 0) (by decide) (Nat.le_of_ble_eq_true rfl) (t_X5_shrinkAt_0 x1 s0  _ h)
def g_X6_shrinks_11  (s0 : SS) : Option Int :=
  some (-2)
set_option maxHeartbeats 4000000 in
theorem t_X6_shrinks_11  : ∀ (s0 : SS) (r : Int), g_X6_shrinks_11 s0 = some r → AW LC M_X6_shrinks (some (vI r), s0) 11 [none, none] [] s0 := by
  intro s0 r h
  unfold g_X6_shrinks_11 at h
  refine aw_bipush dX6_shrinks_11 ⟨by decide, by decide⟩ (by decide) ?_
  obtain rfl := Option.some.inj h
  exact aw_iret dX6_shrinks_13 rfl
def g_X6_shrinks_37 (z0 : Int) (s0 : SS) : Option Int :=
  some z0
set_option maxHeartbeats 4000000 in
theorem t_X6_shrinks_37  : ∀ (z0 : Int) (s0 : SS) (r : Int), g_X6_shrinks_37 z0 s0 = some r → AW LC M_X6_shrinks (some (vI r), s0) 37 [none, none] [vI z0] s0 := by
  intro z0 s0 r h
  unfold g_X6_shrinks_37 at h
  obtain rfl := Option.some.inj h
  exact aw_iret dX6_shrinks_37 rfl
def f_X6_shrinks (x1 : Int) (s0 : SS) : Option Int :=
  if x1 < (-1) then (
    g_X6_shrinks_11  s0
  ) else (
    if x1 ≤ 39 then (
      if x1 = (-1) then (
        g_X6_shrinks_37  (s0 22 4) s0
      ) else (
        bn (f_X5_shrinkAt x1 s0) fun y1 =>
        g_X6_shrinks_37  y1 s0
      )
    ) else (
      g_X6_shrinks_11  s0
    )
  )
set_option maxHeartbeats 4000000 in
theorem t_X6_shrinks_0  : ∀ (x1 : Int) (s0 : SS) (r : Int), f_X6_shrinks x1 s0 = some r → AW LC M_X6_shrinks (some (vI r), s0) 0 [some (vR (some 0)), some (vI x1)] [] s0 := by
  intro x1 s0 r h
  unfold f_X6_shrinks at h
  refine aw_iload_n dX6_shrinks_0 rfl rfl ?_
  refine aw_iconst dX6_shrinks_1 ⟨by decide, by decide⟩ ?_
  refine aw_icmp_lt (tgt := 11) dX6_shrinks_2 (by decide) (fun hc => ?_) (fun hc => ?_)
  · replace h := ip hc h
    exact aw_less (ls' := [none, none]) (trivial) (t_X6_shrinks_11   s0 _ h)
  · replace h := ic hc h
    refine aw_iload_n dX6_shrinks_5 rfl rfl ?_
    refine aw_bipush dX6_shrinks_6 ⟨by decide, by decide⟩ (by decide) ?_
    refine aw_icmp_le (tgt := 14) dX6_shrinks_8 (by decide) (fun hc => ?_) (fun hc => ?_)
    · replace h := ip hc h
      refine aw_iload_n dX6_shrinks_14 rfl rfl ?_
      refine aw_iconst dX6_shrinks_15 ⟨by decide, by decide⟩ ?_
      refine aw_icmp_ne (tgt := 29) dX6_shrinks_16 (by decide) (fun hc => ?_) (fun hc => ?_)
      rotate_left
      · replace h := ip hc h
        refine aw_aload_n dX6_shrinks_19 rfl rfl ?_
        refine aw_getR (t := 22) dX6_shrinks_20 fk_X6_35 pC_0 rfl ?_
        refine aw_getI dX6_shrinks_23 fk_X6_145 pC_22 rfl ?_
        refine aw_goto (tgt := 37) dX6_shrinks_26 (by decide) ?_
        exact aw_less (ls' := [none, none]) (trivial) (t_X6_shrinks_37   (s0 22 4) s0 _ h)
      · replace h := ic hc h
        refine aw_aload_n dX6_shrinks_29 rfl rfl ?_
        refine aw_getR (t := 22) dX6_shrinks_30 fk_X6_35 pC_0 rfl ?_
        refine aw_iload_n dX6_shrinks_33 rfl rfl ?_
        obtain ⟨y1, hg1, h⟩ := bn_e h
        refine aw_V1i (M2 := M_X5_shrinkAt) dX6_shrinks_34 lk_X6_148 mk_X5_shrinkAt mv_X5_shrinkAt ⟨by decide, by decide⟩ pC_22 ⟨_, _, rfl⟩ (Nat.le_of_ble_eq_true rfl) (c_X5_shrinkAt  hg1) ?_
        exact aw_less (ls' := [none, none]) (trivial) (t_X6_shrinks_37   y1 s0 _ h)
    · replace h := ic hc h
      exact aw_less (ls' := [none, none]) (trivial) (t_X6_shrinks_11   s0 _ h)
theorem c_X6_shrinks {x1 : Int} {s0 : SS} {y : Int} (h : f_X6_shrinks x1 s0 = some y) : CT LC M_X6_shrinks [vR (some 0), vI x1] s0 (some (vI y), s0) :=
  ct_of (n := 0) (by decide) (Nat.le_of_ble_eq_true rfl) (t_X6_shrinks_0 x1 s0  _ h)
def g_X5_linesOfLeastMost_74 (x2 : Int) (s0 : SS) : Option Int :=
  bn (f_X3_tell 28 x2 0 s0) fun y1 =>
  some y1
set_option maxHeartbeats 4000000 in
theorem t_X5_linesOfLeastMost_74  : ∀ (x2 : Int) (s0 : SS) (r : Int), g_X5_linesOfLeastMost_74 x2 s0 = some r → AW LC M_X5_linesOfLeastMost (some (vI r), s0) 74 [some (vR (some 22)), none, some (vI x2), none, none] [] s0 := by
  intro x2 s0 r h
  unfold g_X5_linesOfLeastMost_74 at h
  refine aw_aload_n dX5_linesOfLeastMost_74 rfl rfl ?_
  refine aw_getR (t := 28) dX5_linesOfLeastMost_75 fk_X5_20 pC_22 rfl ?_
  refine aw_iload_n dX5_linesOfLeastMost_78 rfl rfl ?_
  refine aw_iconst dX5_linesOfLeastMost_79 ⟨by decide, by decide⟩ ?_
  obtain ⟨y1, hg1, h⟩ := bn_e h
  refine aw_V2i (M2 := M_X3_tell) dX5_linesOfLeastMost_80 lk_X5_101 mk_X3_tell mv_X3_tell ⟨by decide, by decide⟩ pC_28 ⟨_, _, rfl⟩ (Nat.le_of_ble_eq_true rfl) (c_X3_tell pC_28 hg1) ?_
  obtain rfl := Option.some.inj h
  exact aw_iret dX5_linesOfLeastMost_83 rfl
def g_X5_linesOfLeastMost_68 (k4 : Int → Int → Int → SS → Option Int) (x1 : Int) (x2 : Int) (x3 : Int) (s0 : SS) : Option Int :=
  sb (wr (x3 + 1)) fun y1 =>
  k4 x1 x2 y1 s0
set_option maxHeartbeats 4000000 in
theorem t_X5_linesOfLeastMost_68 (k4 : Int → Int → Int → SS → Option Int) (hk4 : ∀ (x1 : Int) (x2 : Int) (x3 : Int) (s0 : SS) (r : Int), k4 x1 x2 x3 s0 = some r → AW LC M_X5_linesOfLeastMost (some (vI r), s0) 4 [some (vR (some 22)), some (vI x1), some (vI x2), some (vI x3), none] [] s0) : ∀ (x1 : Int) (x2 : Int) (x3 : Int) (s0 : SS) (r : Int), g_X5_linesOfLeastMost_68 k4 x1 x2 x3 s0 = some r → AW LC M_X5_linesOfLeastMost (some (vI r), s0) 68 [some (vR (some 22)), some (vI x1), some (vI x2), some (vI x3), none] [] s0 := by
  intro x1 x2 x3 s0 r h
  unfold g_X5_linesOfLeastMost_68 at h
  refine aw_iinc dX5_linesOfLeastMost_68 rfl (by decide) rfl (fun y1 e => ?_)
  replace h := sb_e h e
  clear e
  show AW _ _ _ 71 [some (vR (some 22)), some (vI x1), some (vI x2), some (vI y1), none] _ _
  refine aw_goto (tgt := 4) dX5_linesOfLeastMost_71 (by decide) ?_
  exact (hk4 x1 x2 y1 s0 _ h)
def g_X5_linesOfLeastMost_66 (k4 : Int → Int → Int → SS → Option Int) (x1 : Int) (x3 : Int) (s0 : SS) : Option Int :=
  g_X5_linesOfLeastMost_68 k4 x1 x3 x3 s0
set_option maxHeartbeats 4000000 in
theorem t_X5_linesOfLeastMost_66 (k4 : Int → Int → Int → SS → Option Int) (hk4 : ∀ (x1 : Int) (x2 : Int) (x3 : Int) (s0 : SS) (r : Int), k4 x1 x2 x3 s0 = some r → AW LC M_X5_linesOfLeastMost (some (vI r), s0) 4 [some (vR (some 22)), some (vI x1), some (vI x2), some (vI x3), none] [] s0) : ∀ (x1 : Int) (x3 : Int) (s0 : SS) (r : Int), g_X5_linesOfLeastMost_66 k4 x1 x3 s0 = some r → AW LC M_X5_linesOfLeastMost (some (vI r), s0) 66 [some (vR (some 22)), some (vI x1), none, some (vI x3), none] [] s0 := by
  intro x1 x3 s0 r h
  unfold g_X5_linesOfLeastMost_66 at h
  refine aw_iload_n dX5_linesOfLeastMost_66 rfl rfl ?_
  refine aw_istore_nA dX5_linesOfLeastMost_67 rfl (by decide) rfl ?_
  show AW _ _ _ 68 [some (vR (some 22)), some (vI x1), some (vI x3), some (vI x3), none] _ _
  exact (t_X5_linesOfLeastMost_68 k4 hk4 x1 x3 x3 s0 _ h)
def g_X5_linesOfLeastMost_42 (k4 : Int → Int → Int → SS → Option Int) (x1 : Int) (x2 : Int) (x3 : Int) (z0 : Int) (s0 : SS) : Option Int :=
  if z0 = 0 then (
    g_X5_linesOfLeastMost_68 k4 x1 x2 x3 s0
  ) else (
    if x2 = (-1) then (
      g_X5_linesOfLeastMost_66 k4 x1 x3 s0
    ) else (
      bn (f_X3_lessMost 28 x3 x2 s0) fun y1 =>
      if y1 = 0 then (
        g_X5_linesOfLeastMost_68 k4 x1 x2 x3 s0
      ) else (
        g_X5_linesOfLeastMost_66 k4 x1 x3 s0
      )
    )
  )
set_option maxHeartbeats 4000000 in
theorem t_X5_linesOfLeastMost_42 (k4 : Int → Int → Int → SS → Option Int) (hk4 : ∀ (x1 : Int) (x2 : Int) (x3 : Int) (s0 : SS) (r : Int), k4 x1 x2 x3 s0 = some r → AW LC M_X5_linesOfLeastMost (some (vI r), s0) 4 [some (vR (some 22)), some (vI x1), some (vI x2), some (vI x3), none] [] s0) : ∀ (x1 : Int) (x2 : Int) (x3 : Int) (z0 : Int) (s0 : SS) (r : Int), g_X5_linesOfLeastMost_42 k4 x1 x2 x3 z0 s0 = some r → AW LC M_X5_linesOfLeastMost (some (vI r), s0) 42 [some (vR (some 22)), some (vI x1), some (vI x2), some (vI x3), none] [vI z0] s0 := by
  intro x1 x2 x3 z0 s0 r h
  unfold g_X5_linesOfLeastMost_42 at h
  refine aw_istoreA dX5_linesOfLeastMost_42 (by decide) rfl ?_
  show AW _ _ _ 44 [some (vR (some 22)), some (vI x1), some (vI x2), some (vI x3), some (vI z0)] _ _
  refine aw_iload dX5_linesOfLeastMost_44 rfl ?_
  refine aw_if_eq (tgt := 68) dX5_linesOfLeastMost_46 (by decide) (fun hc => ?_) (fun hc => ?_)
  · replace h := ip hc h
    exact aw_less (ls' := [some (vR (some 22)), some (vI x1), some (vI x2), some (vI x3), none]) (⟨rfl, ⟨rfl, ⟨rfl, ⟨rfl, trivial⟩⟩⟩⟩) (t_X5_linesOfLeastMost_68 k4 hk4 x1 x2 x3 s0 _ h)
  · replace h := ic hc h
    refine aw_iload_n dX5_linesOfLeastMost_49 rfl rfl ?_
    refine aw_iconst dX5_linesOfLeastMost_50 ⟨by decide, by decide⟩ ?_
    refine aw_icmp_eq (tgt := 66) dX5_linesOfLeastMost_51 (by decide) (fun hc => ?_) (fun hc => ?_)
    · replace h := ip hc h
      exact aw_less (ls' := [some (vR (some 22)), some (vI x1), none, some (vI x3), none]) (⟨rfl, ⟨rfl, ⟨rfl, trivial⟩⟩⟩) (t_X5_linesOfLeastMost_66 k4 hk4 x1 x3 s0 _ h)
    · replace h := ic hc h
      refine aw_aload_n dX5_linesOfLeastMost_54 rfl rfl ?_
      refine aw_getR (t := 28) dX5_linesOfLeastMost_55 fk_X5_20 pC_22 rfl ?_
      refine aw_iload_n dX5_linesOfLeastMost_58 rfl rfl ?_
      refine aw_iload_n dX5_linesOfLeastMost_59 rfl rfl ?_
      obtain ⟨y1, hg1, h⟩ := bn_e h
      refine aw_V2i (M2 := M_X3_lessMost) dX5_linesOfLeastMost_60 lk_X5_122 mk_X3_lessMost mv_X3_lessMost ⟨by decide, by decide⟩ pC_28 ⟨_, _, rfl⟩ (Nat.le_of_ble_eq_true rfl) (c_X3_lessMost pC_28 hg1) ?_
      refine aw_if_eq (tgt := 68) dX5_linesOfLeastMost_63 (by decide) (fun hc => ?_) (fun hc => ?_)
      · replace h := ip hc h
        exact aw_less (ls' := [some (vR (some 22)), some (vI x1), some (vI x2), some (vI x3), none]) (⟨rfl, ⟨rfl, ⟨rfl, ⟨rfl, trivial⟩⟩⟩⟩) (t_X5_linesOfLeastMost_68 k4 hk4 x1 x2 x3 s0 _ h)
      · replace h := ic hc h
        exact aw_less (ls' := [some (vR (some 22)), some (vI x1), none, some (vI x3), none]) (⟨rfl, ⟨rfl, ⟨rfl, trivial⟩⟩⟩) (t_X5_linesOfLeastMost_66 k4 hk4 x1 x3 s0 _ h)
def g_X5_linesOfLeastMost_41 (k4 : Int → Int → Int → SS → Option Int) (x1 : Int) (x2 : Int) (x3 : Int) (s0 : SS) : Option Int :=
  g_X5_linesOfLeastMost_42 k4 x1 x2 x3 0 s0
set_option maxHeartbeats 4000000 in
theorem t_X5_linesOfLeastMost_41 (k4 : Int → Int → Int → SS → Option Int) (hk4 : ∀ (x1 : Int) (x2 : Int) (x3 : Int) (s0 : SS) (r : Int), k4 x1 x2 x3 s0 = some r → AW LC M_X5_linesOfLeastMost (some (vI r), s0) 4 [some (vR (some 22)), some (vI x1), some (vI x2), some (vI x3), none] [] s0) : ∀ (x1 : Int) (x2 : Int) (x3 : Int) (s0 : SS) (r : Int), g_X5_linesOfLeastMost_41 k4 x1 x2 x3 s0 = some r → AW LC M_X5_linesOfLeastMost (some (vI r), s0) 41 [some (vR (some 22)), some (vI x1), some (vI x2), some (vI x3), none] [] s0 := by
  intro x1 x2 x3 s0 r h
  unfold g_X5_linesOfLeastMost_41 at h
  refine aw_iconst dX5_linesOfLeastMost_41 ⟨by decide, by decide⟩ ?_
  exact (t_X5_linesOfLeastMost_42 k4 hk4 x1 x2 x3 0 s0 _ h)
def g_X5_linesOfLeastMost_4 (k4 : Int → Int → Int → SS → Option Int) (x1 : Int) (x2 : Int) (x3 : Int) (s0 : SS) : Option Int :=
  if (s0 22 6) ≤ x3 then (
    g_X5_linesOfLeastMost_74  x2 s0
  ) else (
    bn (f_X5_fits x3 1000 s0) fun y1 =>
    if y1 = 0 then (
      g_X5_linesOfLeastMost_41 k4 x1 x2 x3 s0
    ) else (
      bn (f_X3_tell 28 x3 3 s0) fun y2 =>
      if (i_and y2 x1) = 0 then (
        g_X5_linesOfLeastMost_42 k4 x1 x2 x3 1 s0
      ) else (
        g_X5_linesOfLeastMost_41 k4 x1 x2 x3 s0
      )
    )
  )
set_option maxHeartbeats 4000000 in
theorem t_X5_linesOfLeastMost_4 (k4 : Int → Int → Int → SS → Option Int) (hk4 : ∀ (x1 : Int) (x2 : Int) (x3 : Int) (s0 : SS) (r : Int), k4 x1 x2 x3 s0 = some r → AW LC M_X5_linesOfLeastMost (some (vI r), s0) 4 [some (vR (some 22)), some (vI x1), some (vI x2), some (vI x3), none] [] s0) : ∀ (x1 : Int) (x2 : Int) (x3 : Int) (s0 : SS) (r : Int), g_X5_linesOfLeastMost_4 k4 x1 x2 x3 s0 = some r → AW LC M_X5_linesOfLeastMost (some (vI r), s0) 4 [some (vR (some 22)), some (vI x1), some (vI x2), some (vI x3), none] [] s0 := by
  intro x1 x2 x3 s0 r h
  unfold g_X5_linesOfLeastMost_4 at h
  refine aw_iload_n dX5_linesOfLeastMost_4 rfl rfl ?_
  refine aw_aload_n dX5_linesOfLeastMost_5 rfl rfl ?_
  refine aw_getI dX5_linesOfLeastMost_6 fk_X5_41 pC_22 rfl ?_
  refine aw_icmp_ge (tgt := 74) dX5_linesOfLeastMost_9 (by decide) (fun hc => ?_) (fun hc => ?_)
  · replace h := ip hc h
    exact aw_less (ls' := [some (vR (some 22)), none, some (vI x2), none, none]) (⟨rfl, ⟨rfl, trivial⟩⟩) (t_X5_linesOfLeastMost_74   x2 s0 _ h)
  · replace h := ic hc h
    refine aw_aload_n dX5_linesOfLeastMost_12 rfl rfl ?_
    refine aw_iload_n dX5_linesOfLeastMost_13 rfl rfl ?_
    refine aw_sipush dX5_linesOfLeastMost_14 ⟨by decide, by decide⟩ (by decide) ?_
    obtain ⟨y1, hg1, h⟩ := bn_e h
    refine aw_V2i (M2 := M_X5_fits) dX5_linesOfLeastMost_17 lk_X5_115 mk_X5_fits mv_X5_fits ⟨by decide, by decide⟩ pC_22 ⟨_, _, rfl⟩ (Nat.le_of_ble_eq_true rfl) (c_X5_fits  hg1) ?_
    refine aw_if_eq (tgt := 41) dX5_linesOfLeastMost_20 (by decide) (fun hc => ?_) (fun hc => ?_)
    · replace h := ip hc h
      exact (t_X5_linesOfLeastMost_41 k4 hk4 x1 x2 x3 s0 _ h)
    · replace h := ic hc h
      refine aw_aload_n dX5_linesOfLeastMost_23 rfl rfl ?_
      refine aw_getR (t := 28) dX5_linesOfLeastMost_24 fk_X5_20 pC_22 rfl ?_
      refine aw_iload_n dX5_linesOfLeastMost_27 rfl rfl ?_
      refine aw_iconst dX5_linesOfLeastMost_28 ⟨by decide, by decide⟩ ?_
      obtain ⟨y2, hg2, h⟩ := bn_e h
      refine aw_V2i (M2 := M_X3_tell) dX5_linesOfLeastMost_29 lk_X5_101 mk_X3_tell mv_X3_tell ⟨by decide, by decide⟩ pC_28 ⟨_, _, rfl⟩ (Nat.le_of_ble_eq_true rfl) (c_X3_tell pC_28 hg2) ?_
      refine aw_iload_n dX5_linesOfLeastMost_32 rfl rfl ?_
      refine aw_iand dX5_linesOfLeastMost_33 ?_
      refine aw_if_ne (tgt := 41) dX5_linesOfLeastMost_34 (by decide) (fun hc => ?_) (fun hc => ?_)
      rotate_left
      · replace h := ip hc h
        refine aw_iconst dX5_linesOfLeastMost_37 ⟨by decide, by decide⟩ ?_
        refine aw_goto (tgt := 42) dX5_linesOfLeastMost_38 (by decide) ?_
        exact (t_X5_linesOfLeastMost_42 k4 hk4 x1 x2 x3 1 s0 _ h)
      · replace h := ic hc h
        exact (t_X5_linesOfLeastMost_41 k4 hk4 x1 x2 x3 s0 _ h)
def f_X5_linesOfLeastMost_4 : Nat → Int → Int → Int → SS → Option Int
  | 0 => fun _ _ _ _ => none
  | n + 1 => g_X5_linesOfLeastMost_4 (f_X5_linesOfLeastMost_4  n)
theorem s_X5_linesOfLeastMost_4  : ∀ (n : Nat), ∀ (x1 : Int) (x2 : Int) (x3 : Int) (s0 : SS) (r : Int), f_X5_linesOfLeastMost_4 n x1 x2 x3 s0 = some r → AW LC M_X5_linesOfLeastMost (some (vI r), s0) 4 [some (vR (some 22)), some (vI x1), some (vI x2), some (vI x3), none] [] s0 := by
  intro n
  induction n with
  | zero =>
    intro x1 x2 x3 s0 r h
    cases h
  | succ n ih =>
    intro x1 x2 x3 s0 r h
    exact t_X5_linesOfLeastMost_4 (f_X5_linesOfLeastMost_4  n) ih x1 x2 x3 s0 r h
def f_X5_linesOfLeastMost (x1 : Int) (s0 : SS) : Option Int :=
  f_X5_linesOfLeastMost_4  FU x1 (-1) 0 s0
set_option maxHeartbeats 4000000 in
theorem t_X5_linesOfLeastMost_0  : ∀ (x1 : Int) (s0 : SS) (r : Int), f_X5_linesOfLeastMost x1 s0 = some r → AW LC M_X5_linesOfLeastMost (some (vI r), s0) 0 [some (vR (some 22)), some (vI x1), none, none, none] [] s0 := by
  intro x1 s0 r h
  unfold f_X5_linesOfLeastMost at h
  refine aw_iconst dX5_linesOfLeastMost_0 ⟨by decide, by decide⟩ ?_
  refine aw_istore_nA dX5_linesOfLeastMost_1 rfl (by decide) rfl ?_
  show AW _ _ _ 2 [some (vR (some 22)), some (vI x1), some (vI (-1)), none, none] _ _
  refine aw_iconst dX5_linesOfLeastMost_2 ⟨by decide, by decide⟩ ?_
  refine aw_istore_nA dX5_linesOfLeastMost_3 rfl (by decide) rfl ?_
  show AW _ _ _ 4 [some (vR (some 22)), some (vI x1), some (vI (-1)), some (vI 0), none] _ _
  exact (s_X5_linesOfLeastMost_4   FU x1 (-1) 0 s0 _ h)
theorem c_X5_linesOfLeastMost {x1 : Int} {s0 : SS} {y : Int} (h : f_X5_linesOfLeastMost x1 s0 = some y) : CT LC M_X5_linesOfLeastMost [vR (some 22), vI x1] s0 (some (vI y), s0) :=
  ct_of (n := 3) (by decide) (Nat.le_of_ble_eq_true rfl) (t_X5_linesOfLeastMost_0 x1 s0  _ h)
