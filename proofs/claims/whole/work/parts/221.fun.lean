def f_X7_pushed (x0 : Int) (x1 : Int) : Option Int :=
  bn (f_X7_lines x0) fun y1 =>
  bn (f_X7_last x0) fun y2 =>
  bn (f_X7_most x0) fun y3 =>
  bn (f_X7_wayOf x0) fun y4 =>
  bn (f_X7_shape y1 (wr (y2 + x1)) (wr (y3 + x1)) y4) fun y5 =>
  some y5
set_option maxHeartbeats 4000000 in
theorem t_X7_pushed_0  : ∀ (x0 : Int) (x1 : Int) (s0 : SS) (r : Int), f_X7_pushed x0 x1 = some r → AW LM M_X7_pushed (some (vI r), s0) 0 [some (vI x0), some (vI x1)] [] s0 := by
  intro x0 x1 s0 r h
  unfold f_X7_pushed at h
  refine aw_iload_n dX7_pushed_0 rfl rfl ?_
  obtain ⟨y1, hg1, h⟩ := bn_e h
  refine aw_S1i (M2 := M_X7_lines) dX7_pushed_1 lk_X7_121 mk_X7_lines ms_X7_lines ⟨by decide, by decide⟩ (Nat.le_of_ble_eq_true rfl) (c_X7_lines  hg1) ?_
  refine aw_iload_n dX7_pushed_4 rfl rfl ?_
  obtain ⟨y2, hg2, h⟩ := bn_e h
  refine aw_S1i (M2 := M_X7_last) dX7_pushed_5 lk_X7_124 mk_X7_last ms_X7_last ⟨by decide, by decide⟩ (Nat.le_of_ble_eq_true rfl) (c_X7_last  hg2) ?_
  refine aw_iload_n dX7_pushed_8 rfl rfl ?_
  refine aw_iadd dX7_pushed_9 ?_
  refine aw_iload_n dX7_pushed_10 rfl rfl ?_
  obtain ⟨y3, hg3, h⟩ := bn_e h
  refine aw_S1i (M2 := M_X7_most) dX7_pushed_11 lk_X7_127 mk_X7_most ms_X7_most ⟨by decide, by decide⟩ (Nat.le_of_ble_eq_true rfl) (c_X7_most  hg3) ?_
  refine aw_iload_n dX7_pushed_14 rfl rfl ?_
  refine aw_iadd dX7_pushed_15 ?_
  refine aw_iload_n dX7_pushed_16 rfl rfl ?_
  obtain ⟨y4, hg4, h⟩ := bn_e h
  refine aw_S1i (M2 := M_X7_wayOf) dX7_pushed_17 lk_X7_118 mk_X7_wayOf ms_X7_wayOf ⟨by decide, by decide⟩ (Nat.le_of_ble_eq_true rfl) (c_X7_wayOf  hg4) ?_
  obtain ⟨y5, hg5, h⟩ := bn_e h
  refine aw_S4i (M2 := M_X7_shape) dX7_pushed_20 lk_X7_134 mk_X7_shape ms_X7_shape ⟨by decide, by decide⟩ (Nat.le_of_ble_eq_true rfl) (c_X7_shape  hg5) ?_
  obtain rfl := Option.some.inj h
  exact aw_iret dX7_pushed_23 rfl
theorem c_X7_pushed {x0 : Int} {x1 : Int} {s0 : SS} {y : Int} (h : f_X7_pushed x0 x1 = some y) : CT LM M_X7_pushed [vI x0, vI x1] s0 (some (vI y), s0) :=
  ct_of (n := 0) (by decide) (Nat.le_of_ble_eq_true rfl) (t_X7_pushed_0 x0 x1 s0  _ h)
def g_X7_isNoGreater_38 (z0 : Int) : Option Int :=
  gb z0 <|
  some z0
set_option maxHeartbeats 4000000 in
theorem t_X7_isNoGreater_38  : ∀ (z0 : Int) (s0 : SS) (r : Int), g_X7_isNoGreater_38 z0 = some r → AW LM M_X7_isNoGreater (some (vI r), s0) 38 [none, none] [vI z0] s0 := by
  intro z0 s0 r h
  unfold g_X7_isNoGreater_38 at h
  obtain ⟨hg1, h⟩ := gb_e h
  obtain rfl := Option.some.inj h
  exact aw_zret dX7_isNoGreater_38 rfl hg1
def g_X7_isNoGreater_37  : Option Int :=
  g_X7_isNoGreater_38  0
set_option maxHeartbeats 4000000 in
theorem t_X7_isNoGreater_37  : ∀ (s0 : SS) (r : Int), g_X7_isNoGreater_37 = some r → AW LM M_X7_isNoGreater (some (vI r), s0) 37 [none, none] [] s0 := by
  intro s0 r h
  unfold g_X7_isNoGreater_37 at h
  refine aw_iconst dX7_isNoGreater_37 ⟨by decide, by decide⟩ ?_
  exact (t_X7_isNoGreater_38   0 s0 _ h)
def f_X7_isNoGreater (x0 : Int) (x1 : Int) : Option Int :=
  bn (f_X7_lines x0) fun y1 =>
  bn (f_X7_lines x1) fun y2 =>
  if y2 < y1 then (
    g_X7_isNoGreater_37  
  ) else (
    bn (f_X7_last x0) fun y3 =>
    bn (f_X7_last x1) fun y4 =>
    if y4 < y3 then (
      g_X7_isNoGreater_37  
    ) else (
      bn (f_X7_most x0) fun y5 =>
      bn (f_X7_most x1) fun y6 =>
      if y6 < y5 then (
        g_X7_isNoGreater_37  
      ) else (
        g_X7_isNoGreater_38  1
      )
    )
  )
set_option maxHeartbeats 4000000 in
theorem t_X7_isNoGreater_0  : ∀ (x0 : Int) (x1 : Int) (s0 : SS) (r : Int), f_X7_isNoGreater x0 x1 = some r → AW LM M_X7_isNoGreater (some (vI r), s0) 0 [some (vI x0), some (vI x1)] [] s0 := by
  intro x0 x1 s0 r h
  unfold f_X7_isNoGreater at h
  refine aw_iload_n dX7_isNoGreater_0 rfl rfl ?_
  obtain ⟨y1, hg1, h⟩ := bn_e h
  refine aw_S1i (M2 := M_X7_lines) dX7_isNoGreater_1 lk_X7_121 mk_X7_lines ms_X7_lines ⟨by decide, by decide⟩ (Nat.le_of_ble_eq_true rfl) (c_X7_lines  hg1) ?_
  refine aw_iload_n dX7_isNoGreater_4 rfl rfl ?_
  obtain ⟨y2, hg2, h⟩ := bn_e h
  refine aw_S1i (M2 := M_X7_lines) dX7_isNoGreater_5 lk_X7_121 mk_X7_lines ms_X7_lines ⟨by decide, by decide⟩ (Nat.le_of_ble_eq_true rfl) (c_X7_lines  hg2) ?_
  refine aw_icmp_gt (tgt := 37) dX7_isNoGreater_8 (by decide) (fun hc => ?_) (fun hc => ?_)
  · replace h := ip hc h
    exact aw_less (ls' := [none, none]) (trivial) (t_X7_isNoGreater_37   s0 _ h)
  · replace h := ic hc h
    refine aw_iload_n dX7_isNoGreater_11 rfl rfl ?_
    obtain ⟨y3, hg3, h⟩ := bn_e h
    refine aw_S1i (M2 := M_X7_last) dX7_isNoGreater_12 lk_X7_124 mk_X7_last ms_X7_last ⟨by decide, by decide⟩ (Nat.le_of_ble_eq_true rfl) (c_X7_last  hg3) ?_
    refine aw_iload_n dX7_isNoGreater_15 rfl rfl ?_
    obtain ⟨y4, hg4, h⟩ := bn_e h
    refine aw_S1i (M2 := M_X7_last) dX7_isNoGreater_16 lk_X7_124 mk_X7_last ms_X7_last ⟨by decide, by decide⟩ (Nat.le_of_ble_eq_true rfl) (c_X7_last  hg4) ?_
    refine aw_icmp_gt (tgt := 37) dX7_isNoGreater_19 (by decide) (fun hc => ?_) (fun hc => ?_)
    · replace h := ip hc h
      exact aw_less (ls' := [none, none]) (trivial) (t_X7_isNoGreater_37   s0 _ h)
    · replace h := ic hc h
      refine aw_iload_n dX7_isNoGreater_22 rfl rfl ?_
      obtain ⟨y5, hg5, h⟩ := bn_e h
      refine aw_S1i (M2 := M_X7_most) dX7_isNoGreater_23 lk_X7_127 mk_X7_most ms_X7_most ⟨by decide, by decide⟩ (Nat.le_of_ble_eq_true rfl) (c_X7_most  hg5) ?_
      refine aw_iload_n dX7_isNoGreater_26 rfl rfl ?_
      obtain ⟨y6, hg6, h⟩ := bn_e h
      refine aw_S1i (M2 := M_X7_most) dX7_isNoGreater_27 lk_X7_127 mk_X7_most ms_X7_most ⟨by decide, by decide⟩ (Nat.le_of_ble_eq_true rfl) (c_X7_most  hg6) ?_
      refine aw_icmp_gt (tgt := 37) dX7_isNoGreater_30 (by decide) (fun hc => ?_) (fun hc => ?_)
      · replace h := ip hc h
        exact aw_less (ls' := [none, none]) (trivial) (t_X7_isNoGreater_37   s0 _ h)
      · replace h := ic hc h
        refine aw_iconst dX7_isNoGreater_33 ⟨by decide, by decide⟩ ?_
        refine aw_goto (tgt := 38) dX7_isNoGreater_34 (by decide) ?_
        exact aw_less (ls' := [none, none]) (trivial) (t_X7_isNoGreater_38   1 s0 _ h)
theorem c_X7_isNoGreater {x0 : Int} {x1 : Int} {s0 : SS} {y : Int} (h : f_X7_isNoGreater x0 x1 = some y) : CT LM M_X7_isNoGreater [vI x0, vI x1] s0 (some (vI y), s0) :=
  ct_of (n := 0) (by decide) (Nat.le_of_ble_eq_true rfl) (t_X7_isNoGreater_0 x0 x1 s0  _ h)
def g_X7_tries_167 (x1 : Int) (x2 : Int) (x3 : Int) (x5 : Int) (s0 : SS) : Option SS :=
  gx x1 40 <|
  sb (up s0 0 16 (wr ((s0 0 16) + (wr ((s0 10 x1.toNat) - x5))))) fun s1 =>
  gx (wr (x3 + x5)) 2560 <|
  sb (up s1 9 (wr (x3 + x5)).toNat x2) fun s2 =>
  gx x1 40 <|
  sb (up s2 10 x1.toNat (wr (x5 + 1))) fun s3 =>
  some s3
set_option maxHeartbeats 4000000 in
theorem t_X7_tries_167  : ∀ (x1 : Int) (x2 : Int) (x3 : Int) (x5 : Int) (s0 : SS) (r : SS), g_X7_tries_167 x1 x2 x3 x5 s0 = some r → AW LM M_X7_tries (none, r) 167 [some (vR (some 0)), some (vI x1), some (vI x2), some (vI x3), none, some (vI x5), none] [] s0 := by
  intro x1 x2 x3 x5 s0 r h
  unfold g_X7_tries_167 at h
  refine aw_aload_n dX7_tries_167 rfl rfl ?_
  refine aw_dup dX7_tries_168 rfl ?_
  refine aw_getI dX7_tries_169 fk_X7_148 pM_0 rfl ?_
  refine aw_aload_n dX7_tries_172 rfl rfl ?_
  refine aw_getR (t := 10) dX7_tries_173 fk_X7_41 pM_0 rfl ?_
  refine aw_iload_n dX7_tries_176 rfl rfl ?_
  obtain ⟨hg1, h⟩ := gx_e h
  refine aw_iald dX7_tries_177 aM_10 hg1 ?_
  refine aw_iload dX7_tries_178 rfl ?_
  refine aw_isub dX7_tries_180 ?_
  refine aw_iadd dX7_tries_181 ?_
  refine aw_put dX7_tries_182 fk_X7_148 pM_0 rfl ft_7_16 (nar_int _) (fun s1 e => ?_)
  replace h := sb_e h e
  clear e
  refine aw_aload_n dX7_tries_185 rfl rfl ?_
  refine aw_getR (t := 9) dX7_tries_186 fk_X7_38 pM_0 rfl ?_
  refine aw_iload_n dX7_tries_189 rfl rfl ?_
  refine aw_iload dX7_tries_190 rfl ?_
  refine aw_iadd dX7_tries_192 ?_
  refine aw_iload_n dX7_tries_193 rfl rfl ?_
  obtain ⟨hg2, h⟩ := gx_e h
  refine aw_iast dX7_tries_194 aM_9 hg2 (fun s2 e => ?_)
  replace h := sb_e h e
  clear e
  refine aw_aload_n dX7_tries_195 rfl rfl ?_
  refine aw_getR (t := 10) dX7_tries_196 fk_X7_41 pM_0 rfl ?_
  refine aw_iload_n dX7_tries_199 rfl rfl ?_
  refine aw_iload dX7_tries_200 rfl ?_
  refine aw_iconst dX7_tries_202 ⟨by decide, by decide⟩ ?_
  refine aw_iadd dX7_tries_203 ?_
  obtain ⟨hg3, h⟩ := gx_e h
  refine aw_iast dX7_tries_204 aM_10 hg3 (fun s3 e => ?_)
  replace h := sb_e h e
  clear e
  obtain rfl := Option.some.inj h
  exact aw_vret dX7_tries_205 rfl
def g_X7_tries_161 (k113 : Int → Int → Int → Int → Int → SS → Option SS) (x1 : Int) (x2 : Int) (x3 : Int) (x5 : Int) (x6 : Int) (s0 : SS) : Option SS :=
  sb (wr (x6 + 1)) fun y1 =>
  k113 x1 x2 x3 x5 y1 s0
set_option maxHeartbeats 4000000 in
theorem t_X7_tries_161 (k113 : Int → Int → Int → Int → Int → SS → Option SS) (hk113 : ∀ (x1 : Int) (x2 : Int) (x3 : Int) (x5 : Int) (x6 : Int) (s0 : SS) (r : SS), k113 x1 x2 x3 x5 x6 s0 = some r → AW LM M_X7_tries (none, r) 113 [some (vR (some 0)), some (vI x1), some (vI x2), some (vI x3), none, some (vI x5), some (vI x6)] [] s0) : ∀ (x1 : Int) (x2 : Int) (x3 : Int) (x5 : Int) (x6 : Int) (s0 : SS) (r : SS), g_X7_tries_161 k113 x1 x2 x3 x5 x6 s0 = some r → AW LM M_X7_tries (none, r) 161 [some (vR (some 0)), some (vI x1), some (vI x2), some (vI x3), none, some (vI x5), some (vI x6)] [] s0 := by
  intro x1 x2 x3 x5 x6 s0 r h
  unfold g_X7_tries_161 at h
  refine aw_iinc dX7_tries_161 rfl (by decide) rfl (fun y1 e => ?_)
  replace h := sb_e h e
  clear e
  show AW _ _ _ 164 [some (vR (some 0)), some (vI x1), some (vI x2), some (vI x3), none, some (vI x5), some (vI y1)] _ _
  refine aw_goto (tgt := 113) dX7_tries_164 (by decide) ?_
  exact (hk113 x1 x2 x3 x5 y1 s0 _ h)
def g_X7_tries_113 (k113 : Int → Int → Int → Int → Int → SS → Option SS) (x1 : Int) (x2 : Int) (x3 : Int) (x5 : Int) (x6 : Int) (s0 : SS) : Option SS :=
  gx x1 40 <|
  if (s0 10 x1.toNat) ≤ x6 then (
    g_X7_tries_167  x1 x2 x3 x5 s0
  ) else (
    gx (wr (x3 + x6)) 2560 <|
    bn (f_X7_isNoGreater x2 (s0 9 (wr (x3 + x6)).toNat)) fun y1 =>
    if y1 = 0 then (
      gx (wr (x3 + x6)) 2560 <|
      gx (wr (x3 + x5)) 2560 <|
      sb (up s0 9 (wr (x3 + x5)).toNat (s0 9 (wr (x3 + x6)).toNat)) fun s1 =>
      sb (wr (x5 + 1)) fun y2 =>
      g_X7_tries_161 k113 x1 x2 x3 y2 x6 s1
    ) else (
      g_X7_tries_161 k113 x1 x2 x3 x5 x6 s0
    )
  )
set_option maxHeartbeats 4000000 in
theorem t_X7_tries_113 (k113 : Int → Int → Int → Int → Int → SS → Option SS) (hk113 : ∀ (x1 : Int) (x2 : Int) (x3 : Int) (x5 : Int) (x6 : Int) (s0 : SS) (r : SS), k113 x1 x2 x3 x5 x6 s0 = some r → AW LM M_X7_tries (none, r) 113 [some (vR (some 0)), some (vI x1), some (vI x2), some (vI x3), none, some (vI x5), some (vI x6)] [] s0) : ∀ (x1 : Int) (x2 : Int) (x3 : Int) (x5 : Int) (x6 : Int) (s0 : SS) (r : SS), g_X7_tries_113 k113 x1 x2 x3 x5 x6 s0 = some r → AW LM M_X7_tries (none, r) 113 [some (vR (some 0)), some (vI x1), some (vI x2), some (vI x3), none, some (vI x5), some (vI x6)] [] s0 := by
  intro x1 x2 x3 x5 x6 s0 r h
  unfold g_X7_tries_113 at h
  refine aw_iload dX7_tries_113 rfl ?_
  refine aw_aload_n dX7_tries_115 rfl rfl ?_
  refine aw_getR (t := 10) dX7_tries_116 fk_X7_41 pM_0 rfl ?_
  refine aw_iload_n dX7_tries_119 rfl rfl ?_
  obtain ⟨hg1, h⟩ := gx_e h
  refine aw_iald dX7_tries_120 aM_10 hg1 ?_
  refine aw_icmp_ge (tgt := 167) dX7_tries_121 (by decide) (fun hc => ?_) (fun hc => ?_)
  · replace h := ip hc h
    exact aw_less (ls' := [some (vR (some 0)), some (vI x1), some (vI x2), some (vI x3), none, some (vI x5), none]) (⟨rfl, ⟨rfl, ⟨rfl, ⟨rfl, ⟨rfl, trivial⟩⟩⟩⟩⟩) (t_X7_tries_167   x1 x2 x3 x5 s0 _ h)
  · replace h := ic hc h
    refine aw_iload_n dX7_tries_124 rfl rfl ?_
    refine aw_aload_n dX7_tries_125 rfl rfl ?_
    refine aw_getR (t := 9) dX7_tries_126 fk_X7_38 pM_0 rfl ?_
    refine aw_iload_n dX7_tries_129 rfl rfl ?_
    refine aw_iload dX7_tries_130 rfl ?_
    refine aw_iadd dX7_tries_132 ?_
    obtain ⟨hg2, h⟩ := gx_e h
    refine aw_iald dX7_tries_133 aM_9 hg2 ?_
    obtain ⟨y1, hg3, h⟩ := bn_e h
    refine aw_S2i (M2 := M_X7_isNoGreater) dX7_tries_134 lk_X7_144 mk_X7_isNoGreater ms_X7_isNoGreater ⟨by decide, by decide⟩ (Nat.le_of_ble_eq_true rfl) (c_X7_isNoGreater  hg3) ?_
    refine aw_if_ne (tgt := 161) dX7_tries_137 (by decide) (fun hc => ?_) (fun hc => ?_)
    rotate_left
    · replace h := ip hc h
      refine aw_aload_n dX7_tries_140 rfl rfl ?_
      refine aw_getR (t := 9) dX7_tries_141 fk_X7_38 pM_0 rfl ?_
      refine aw_iload_n dX7_tries_144 rfl rfl ?_
      refine aw_iload dX7_tries_145 rfl ?_
      refine aw_iadd dX7_tries_147 ?_
      refine aw_aload_n dX7_tries_148 rfl rfl ?_
      refine aw_getR (t := 9) dX7_tries_149 fk_X7_38 pM_0 rfl ?_
      refine aw_iload_n dX7_tries_152 rfl rfl ?_
      refine aw_iload dX7_tries_153 rfl ?_
      refine aw_iadd dX7_tries_155 ?_
      obtain ⟨hg4, h⟩ := gx_e h
      refine aw_iald dX7_tries_156 aM_9 hg4 ?_
      obtain ⟨hg5, h⟩ := gx_e h
      refine aw_iast dX7_tries_157 aM_9 hg5 (fun s1 e => ?_)
      replace h := sb_e h e
      clear e
      refine aw_iinc dX7_tries_158 rfl (by decide) rfl (fun y2 e => ?_)
      replace h := sb_e h e
      clear e
      show AW _ _ _ 161 [some (vR (some 0)), some (vI x1), some (vI x2), some (vI x3), none, some (vI y2), some (vI x6)] _ _
      exact (t_X7_tries_161 k113 hk113 x1 x2 x3 y2 x6 s1 _ h)
    · replace h := ic hc h
      exact (t_X7_tries_161 k113 hk113 x1 x2 x3 x5 x6 s0 _ h)
def f_X7_tries_113 : Nat → Int → Int → Int → Int → Int → SS → Option SS
  | 0 => fun _ _ _ _ _ _ => none
  | n + 1 => g_X7_tries_113 (f_X7_tries_113  n)
theorem s_X7_tries_113  : ∀ (n : Nat), ∀ (x1 : Int) (x2 : Int) (x3 : Int) (x5 : Int) (x6 : Int) (s0 : SS) (r : SS), f_X7_tries_113 n x1 x2 x3 x5 x6 s0 = some r → AW LM M_X7_tries (none, r) 113 [some (vR (some 0)), some (vI x1), some (vI x2), some (vI x3), none, some (vI x5), some (vI x6)] [] s0 := by
  intro n
  induction n with
  | zero =>
    intro x1 x2 x3 x5 x6 s0 r h
    cases h
  | succ n ih =>
    intro x1 x2 x3 x5 x6 s0 r h
    exact t_X7_tries_113 (f_X7_tries_113  n) ih x1 x2 x3 x5 x6 s0 r h
def g_X7_tries_91 (x1 : Int) (x2 : Int) (x3 : Int) (x4 : Int) (s0 : SS) : Option SS :=
  if x4 = 0 then (
    f_X7_tries_113  FU x1 x2 x3 0 0 s0
  ) else (
    sb (up s0 0 16 (wr ((s0 0 16) + 1))) fun s1 =>
    some s1
  )
set_option maxHeartbeats 4000000 in
theorem t_X7_tries_91  : ∀ (x1 : Int) (x2 : Int) (x3 : Int) (x4 : Int) (s0 : SS) (r : SS), g_X7_tries_91 x1 x2 x3 x4 s0 = some r → AW LM M_X7_tries (none, r) 91 [some (vR (some 0)), some (vI x1), some (vI x2), some (vI x3), some (vI x4), none, none] [] s0 := by
  intro x1 x2 x3 x4 s0 r h
  unfold g_X7_tries_91 at h
  refine aw_iload dX7_tries_91 rfl ?_
  refine aw_if_eq (tgt := 107) dX7_tries_93 (by decide) (fun hc => ?_) (fun hc => ?_)
  · replace h := ip hc h
    refine aw_iconst dX7_tries_107 ⟨by decide, by decide⟩ ?_
    refine aw_istoreA dX7_tries_108 (by decide) rfl ?_
    show AW _ _ _ 110 [some (vR (some 0)), some (vI x1), some (vI x2), some (vI x3), some (vI x4), some (vI 0), none] _ _
    refine aw_iconst dX7_tries_110 ⟨by decide, by decide⟩ ?_
    refine aw_istoreA dX7_tries_111 (by decide) rfl ?_
    show AW _ _ _ 113 [some (vR (some 0)), some (vI x1), some (vI x2), some (vI x3), some (vI x4), some (vI 0), some (vI 0)] _ _
    exact aw_less (ls' := [some (vR (some 0)), some (vI x1), some (vI x2), some (vI x3), none, some (vI 0), some (vI 0)]) (⟨rfl, ⟨rfl, ⟨rfl, ⟨rfl, ⟨rfl, ⟨rfl, trivial⟩⟩⟩⟩⟩⟩) (s_X7_tries_113   FU x1 x2 x3 0 0 s0 _ h)
  · replace h := ic hc h
    refine aw_aload_n dX7_tries_96 rfl rfl ?_
    refine aw_dup dX7_tries_97 rfl ?_
    refine aw_getI dX7_tries_98 fk_X7_148 pM_0 rfl ?_
    refine aw_iconst dX7_tries_101 ⟨by decide, by decide⟩ ?_
    refine aw_iadd dX7_tries_102 ?_
    refine aw_put dX7_tries_103 fk_X7_148 pM_0 rfl ft_7_16 (nar_int _) (fun s1 e => ?_)
    replace h := sb_e h e
    clear e
    obtain rfl := Option.some.inj h
    exact aw_vret dX7_tries_106 rfl
def g_X7_tries_54 (k54 : Int → Int → Int → Int → Int → SS → Option SS) (x1 : Int) (x2 : Int) (x3 : Int) (x4 : Int) (x5 : Int) (s0 : SS) : Option SS :=
  gx x1 40 <|
  if (s0 10 x1.toNat) ≤ x5 then (
    g_X7_tries_91  x1 x2 x3 x4 s0
  ) else (
    if x4 = 0 then (
      gx (wr (x3 + x5)) 2560 <|
      bn (f_X7_isNoGreater (s0 9 (wr (x3 + x5)).toNat) x2) fun y1 =>
      sb (wr (x5 + 1)) fun y2 =>
      k54 x1 x2 x3 y1 y2 s0
    ) else (
      g_X7_tries_91  x1 x2 x3 x4 s0
    )
  )
set_option maxHeartbeats 4000000 in
theorem t_X7_tries_54 (k54 : Int → Int → Int → Int → Int → SS → Option SS) (hk54 : ∀ (x1 : Int) (x2 : Int) (x3 : Int) (x4 : Int) (x5 : Int) (s0 : SS) (r : SS), k54 x1 x2 x3 x4 x5 s0 = some r → AW LM M_X7_tries (none, r) 54 [some (vR (some 0)), some (vI x1), some (vI x2), some (vI x3), some (vI x4), some (vI x5), none] [] s0) : ∀ (x1 : Int) (x2 : Int) (x3 : Int) (x4 : Int) (x5 : Int) (s0 : SS) (r : SS), g_X7_tries_54 k54 x1 x2 x3 x4 x5 s0 = some r → AW LM M_X7_tries (none, r) 54 [some (vR (some 0)), some (vI x1), some (vI x2), some (vI x3), some (vI x4), some (vI x5), none] [] s0 := by
  intro x1 x2 x3 x4 x5 s0 r h
  unfold g_X7_tries_54 at h
  refine aw_iload dX7_tries_54 rfl ?_
  refine aw_aload_n dX7_tries_56 rfl rfl ?_
  refine aw_getR (t := 10) dX7_tries_57 fk_X7_41 pM_0 rfl ?_
  refine aw_iload_n dX7_tries_60 rfl rfl ?_
  obtain ⟨hg1, h⟩ := gx_e h
  refine aw_iald dX7_tries_61 aM_10 hg1 ?_
  refine aw_icmp_ge (tgt := 91) dX7_tries_62 (by decide) (fun hc => ?_) (fun hc => ?_)
  · replace h := ip hc h
    exact aw_less (ls' := [some (vR (some 0)), some (vI x1), some (vI x2), some (vI x3), some (vI x4), none, none]) (⟨rfl, ⟨rfl, ⟨rfl, ⟨rfl, ⟨rfl, trivial⟩⟩⟩⟩⟩) (t_X7_tries_91   x1 x2 x3 x4 s0 _ h)
  · replace h := ic hc h
    refine aw_iload dX7_tries_65 rfl ?_
    refine aw_if_ne (tgt := 91) dX7_tries_67 (by decide) (fun hc => ?_) (fun hc => ?_)
    rotate_left
    · replace h := ip hc h
      refine aw_aload_n dX7_tries_70 rfl rfl ?_
      refine aw_getR (t := 9) dX7_tries_71 fk_X7_38 pM_0 rfl ?_
      refine aw_iload_n dX7_tries_74 rfl rfl ?_
      refine aw_iload dX7_tries_75 rfl ?_
      refine aw_iadd dX7_tries_77 ?_
      obtain ⟨hg2, h⟩ := gx_e h
      refine aw_iald dX7_tries_78 aM_9 hg2 ?_
      refine aw_iload_n dX7_tries_79 rfl rfl ?_
      obtain ⟨y1, hg3, h⟩ := bn_e h
      refine aw_S2i (M2 := M_X7_isNoGreater) dX7_tries_80 lk_X7_144 mk_X7_isNoGreater ms_X7_isNoGreater ⟨by decide, by decide⟩ (Nat.le_of_ble_eq_true rfl) (c_X7_isNoGreater  hg3) ?_
      refine aw_istoreA dX7_tries_83 (by decide) rfl ?_
      show AW _ _ _ 85 [some (vR (some 0)), some (vI x1), some (vI x2), some (vI x3), some (vI y1), some (vI x5), none] _ _
      refine aw_iinc dX7_tries_85 rfl (by decide) rfl (fun y2 e => ?_)
      replace h := sb_e h e
      clear e
      show AW _ _ _ 88 [some (vR (some 0)), some (vI x1), some (vI x2), some (vI x3), some (vI y1), some (vI y2), none] _ _
      refine aw_goto (tgt := 54) dX7_tries_88 (by decide) ?_
      exact (hk54 x1 x2 x3 y1 y2 s0 _ h)
    · replace h := ic hc h
      exact aw_less (ls' := [some (vR (some 0)), some (vI x1), some (vI x2), some (vI x3), some (vI x4), none, none]) (⟨rfl, ⟨rfl, ⟨rfl, ⟨rfl, ⟨rfl, trivial⟩⟩⟩⟩⟩) (t_X7_tries_91   x1 x2 x3 x4 s0 _ h)
def f_X7_tries_54 : Nat → Int → Int → Int → Int → Int → SS → Option SS
  | 0 => fun _ _ _ _ _ _ => none
  | n + 1 => g_X7_tries_54 (f_X7_tries_54  n)
theorem s_X7_tries_54  : ∀ (n : Nat), ∀ (x1 : Int) (x2 : Int) (x3 : Int) (x4 : Int) (x5 : Int) (s0 : SS) (r : SS), f_X7_tries_54 n x1 x2 x3 x4 x5 s0 = some r → AW LM M_X7_tries (none, r) 54 [some (vR (some 0)), some (vI x1), some (vI x2), some (vI x3), some (vI x4), some (vI x5), none] [] s0 := by
  intro n
  induction n with
  | zero =>
    intro x1 x2 x3 x4 x5 s0 r h
    cases h
  | succ n ih =>
    intro x1 x2 x3 x4 x5 s0 r h
    exact t_X7_tries_54 (f_X7_tries_54  n) ih x1 x2 x3 x4 x5 s0 r h
def g_X7_tries_49 (x1 : Int) (x2 : Int) (x3 : Int) (z0 : Int) (s0 : SS) : Option SS :=
  f_X7_tries_54  FU x1 x2 x3 z0 0 s0
set_option maxHeartbeats 4000000 in
theorem t_X7_tries_49  : ∀ (x1 : Int) (x2 : Int) (x3 : Int) (z0 : Int) (s0 : SS) (r : SS), g_X7_tries_49 x1 x2 x3 z0 s0 = some r → AW LM M_X7_tries (none, r) 49 [some (vR (some 0)), some (vI x1), some (vI x2), some (vI x3), none, none, none] [vI z0] s0 := by
  intro x1 x2 x3 z0 s0 r h
  unfold g_X7_tries_49 at h
  refine aw_istoreA dX7_tries_49 (by decide) rfl ?_
  show AW _ _ _ 51 [some (vR (some 0)), some (vI x1), some (vI x2), some (vI x3), some (vI z0), none, none] _ _
  refine aw_iconst dX7_tries_51 ⟨by decide, by decide⟩ ?_
  refine aw_istoreA dX7_tries_52 (by decide) rfl ?_
  show AW _ _ _ 54 [some (vR (some 0)), some (vI x1), some (vI x2), some (vI x3), some (vI z0), some (vI 0), none] _ _
  exact (s_X7_tries_54   FU x1 x2 x3 z0 0 s0 _ h)
def g_X7_tries_44 (x1 : Int) (x2 : Int) (x3 : Int) (s0 : SS) : Option SS :=
  g_X7_tries_49  x1 x2 x3 1 s0
set_option maxHeartbeats 4000000 in
theorem t_X7_tries_44  : ∀ (x1 : Int) (x2 : Int) (x3 : Int) (s0 : SS) (r : SS), g_X7_tries_44 x1 x2 x3 s0 = some r → AW LM M_X7_tries (none, r) 44 [some (vR (some 0)), some (vI x1), some (vI x2), some (vI x3), none, none, none] [] s0 := by
  intro x1 x2 x3 s0 r h
  unfold g_X7_tries_44 at h
  refine aw_iconst dX7_tries_44 ⟨by decide, by decide⟩ ?_
  refine aw_goto (tgt := 49) dX7_tries_45 (by decide) ?_
  exact (t_X7_tries_49   x1 x2 x3 1 s0 _ h)
def g_X7_tries_48 (x1 : Int) (x2 : Int) (x3 : Int) (s0 : SS) : Option SS :=
  g_X7_tries_49  x1 x2 x3 0 s0
set_option maxHeartbeats 4000000 in
theorem t_X7_tries_48  : ∀ (x1 : Int) (x2 : Int) (x3 : Int) (s0 : SS) (r : SS), g_X7_tries_48 x1 x2 x3 s0 = some r → AW LM M_X7_tries (none, r) 48 [some (vR (some 0)), some (vI x1), some (vI x2), some (vI x3), none, none, none] [] s0 := by
  intro x1 x2 x3 s0 r h
  unfold g_X7_tries_48 at h
  refine aw_iconst dX7_tries_48 ⟨by decide, by decide⟩ ?_
  exact (t_X7_tries_49   x1 x2 x3 0 s0 _ h)
def f_X7_tries (x1 : Int) (x2 : Int) (s0 : SS) : Option SS :=
  sb (wr (64 * x1)) fun y1 =>
  sb (up s0 0 15 (wr ((s0 0 15) + 1))) fun s1 =>
  bn (f_X7_most x2) fun y2 =>
  if (s1 0 17) < y2 then (
    g_X7_tries_44  x1 x2 y1 s1
  ) else (
    gx x1 40 <|
    if (s1 2 x1.toNat) = 5 then (
      bn (f_X7_lines x2) fun y3 =>
      if y3 ≤ 1 then (
        g_X7_tries_48  x1 x2 y1 s1
      ) else (
        g_X7_tries_44  x1 x2 y1 s1
      )
    ) else (
      g_X7_tries_48  x1 x2 y1 s1
    )
  )
set_option maxHeartbeats 4000000 in
theorem t_X7_tries_0  : ∀ (x1 : Int) (x2 : Int) (s0 : SS) (r : SS), f_X7_tries x1 x2 s0 = some r → AW LM M_X7_tries (none, r) 0 [some (vR (some 0)), some (vI x1), some (vI x2), none, none, none, none] [] s0 := by
  intro x1 x2 s0 r h
  unfold f_X7_tries at h
  refine aw_bipush dX7_tries_0 ⟨by decide, by decide⟩ (by decide) ?_
  refine aw_iload_n dX7_tries_2 rfl rfl ?_
  refine aw_imul dX7_tries_3 ?_
  refine aw_istore_n dX7_tries_4 rfl (by decide) rfl (fun y1 e => ?_)
  replace h := sb_e h e
  clear e
  show AW _ _ _ 5 [some (vR (some 0)), some (vI x1), some (vI x2), some (vI y1), none, none, none] _ _
  refine aw_aload_n dX7_tries_5 rfl rfl ?_
  refine aw_dup dX7_tries_6 rfl ?_
  refine aw_getI dX7_tries_7 fk_X7_138 pM_0 rfl ?_
  refine aw_iconst dX7_tries_10 ⟨by decide, by decide⟩ ?_
  refine aw_iadd dX7_tries_11 ?_
  refine aw_put dX7_tries_12 fk_X7_138 pM_0 rfl ft_7_15 (nar_int _) (fun s1 e => ?_)
  replace h := sb_e h e
  clear e
  refine aw_iload_n dX7_tries_15 rfl rfl ?_
  obtain ⟨y2, hg1, h⟩ := bn_e h
  refine aw_S1i (M2 := M_X7_most) dX7_tries_16 lk_X7_127 mk_X7_most ms_X7_most ⟨by decide, by decide⟩ (Nat.le_of_ble_eq_true rfl) (c_X7_most  hg1) ?_
  refine aw_aload_n dX7_tries_19 rfl rfl ?_
  refine aw_getI dX7_tries_20 fk_X7_141 pM_0 rfl ?_
  refine aw_icmp_gt (tgt := 44) dX7_tries_23 (by decide) (fun hc => ?_) (fun hc => ?_)
  · replace h := ip hc h
    exact (t_X7_tries_44   x1 x2 y1 s1 _ h)
  · replace h := ic hc h
    refine aw_aload_n dX7_tries_26 rfl rfl ?_
    refine aw_getR (t := 2) dX7_tries_27 fk_X7_17 pM_0 rfl ?_
    refine aw_iload_n dX7_tries_30 rfl rfl ?_
    obtain ⟨hg2, h⟩ := gx_e h
    refine aw_iald dX7_tries_31 aM_2 hg2 ?_
    refine aw_iconst dX7_tries_32 ⟨by decide, by decide⟩ ?_
    refine aw_icmp_ne (tgt := 48) dX7_tries_33 (by decide) (fun hc => ?_) (fun hc => ?_)
    rotate_left
    · replace h := ip hc h
      refine aw_iload_n dX7_tries_36 rfl rfl ?_
      obtain ⟨y3, hg3, h⟩ := bn_e h
      refine aw_S1i (M2 := M_X7_lines) dX7_tries_37 lk_X7_121 mk_X7_lines ms_X7_lines ⟨by decide, by decide⟩ (Nat.le_of_ble_eq_true rfl) (c_X7_lines  hg3) ?_
      refine aw_iconst dX7_tries_40 ⟨by decide, by decide⟩ ?_
      refine aw_icmp_le (tgt := 48) dX7_tries_41 (by decide) (fun hc => ?_) (fun hc => ?_)
      · replace h := ip hc h
        exact (t_X7_tries_48   x1 x2 y1 s1 _ h)
      · replace h := ic hc h
        exact (t_X7_tries_44   x1 x2 y1 s1 _ h)
    · replace h := ic hc h
      exact (t_X7_tries_48   x1 x2 y1 s1 _ h)
theorem c_X7_tries {x1 : Int} {x2 : Int} {s0 : SS} {s1 : SS} (h : f_X7_tries x1 x2 s0 = some s1) : CT LM M_X7_tries [vR (some 0), vI x1, vI x2] s0 (none, s1) :=
  ct_of (n := 4) (by decide) (Nat.le_of_ble_eq_true rfl) (t_X7_tries_0 x1 x2 s0  _ h)
def g_X7_triesBoth_89  (s0 : SS) : Option SS :=
  some s0
set_option maxHeartbeats 4000000 in
theorem t_X7_triesBoth_89  : ∀ (s0 : SS) (r : SS), g_X7_triesBoth_89 s0 = some r → AW LM M_X7_triesBoth (none, r) 89 [none, none, none, none, none, none] [] s0 := by
  intro s0 r h
  unfold g_X7_triesBoth_89 at h
  obtain rfl := Option.some.inj h
  exact aw_vret dX7_triesBoth_89 rfl
def g_X7_triesBoth_83 (k14 : Int → Int → Int → Int → SS → Option SS) (x1 : Int) (x2 : Int) (x3 : Int) (x4 : Int) (s0 : SS) : Option SS :=
  sb (wr (x4 + 1)) fun y1 =>
  k14 x1 x2 x3 y1 s0
set_option maxHeartbeats 4000000 in
theorem t_X7_triesBoth_83 (k14 : Int → Int → Int → Int → SS → Option SS) (hk14 : ∀ (x1 : Int) (x2 : Int) (x3 : Int) (x4 : Int) (s0 : SS) (r : SS), k14 x1 x2 x3 x4 s0 = some r → AW LM M_X7_triesBoth (none, r) 14 [some (vR (some 0)), some (vI x1), some (vI x2), some (vI x3), some (vI x4), none] [] s0) : ∀ (x1 : Int) (x2 : Int) (x3 : Int) (x4 : Int) (s0 : SS) (r : SS), g_X7_triesBoth_83 k14 x1 x2 x3 x4 s0 = some r → AW LM M_X7_triesBoth (none, r) 83 [some (vR (some 0)), some (vI x1), some (vI x2), some (vI x3), some (vI x4), none] [] s0 := by
  intro x1 x2 x3 x4 s0 r h
  unfold g_X7_triesBoth_83 at h
  refine aw_iinc dX7_triesBoth_83 rfl (by decide) rfl (fun y1 e => ?_)
  replace h := sb_e h e
  clear e
  show AW _ _ _ 86 [some (vR (some 0)), some (vI x1), some (vI x2), some (vI x3), some (vI y1), none] _ _
  refine aw_goto (tgt := 14) dX7_triesBoth_86 (by decide) ?_
  exact (hk14 x1 x2 x3 y1 s0 _ h)
def g_X7_triesBoth_28 (k14 : Int → Int → Int → Int → SS → Option SS) (k28 : Int → Int → Int → Int → Int → SS → Option SS) (x1 : Int) (x2 : Int) (x3 : Int) (x4 : Int) (x5 : Int) (s0 : SS) : Option SS :=
  gx x3 40 <|
  if (s0 10 x3.toNat) ≤ x5 then (
    g_X7_triesBoth_83 k14 x1 x2 x3 x4 s0
  ) else (
    gx x1 40 <|
    gx (wr ((wr (64 * x2)) + x4)) 2560 <|
    gx (wr ((wr (64 * x3)) + x5)) 2560 <|
    bn (f_X7_both (s0 2 x1.toNat) (s0 9 (wr ((wr (64 * x2)) + x4)).toNat) (s0 9 (wr ((wr (64 * x3)) + x5)).toNat)) fun y1 =>
    bn (f_X7_tries x1 y1 s0) fun s1 =>
    sb (wr (x5 + 1)) fun y2 =>
    k28 x1 x2 x3 x4 y2 s1
  )
set_option maxHeartbeats 4000000 in
theorem t_X7_triesBoth_28 (k14 : Int → Int → Int → Int → SS → Option SS) (k28 : Int → Int → Int → Int → Int → SS → Option SS) (hk14 : ∀ (x1 : Int) (x2 : Int) (x3 : Int) (x4 : Int) (s0 : SS) (r : SS), k14 x1 x2 x3 x4 s0 = some r → AW LM M_X7_triesBoth (none, r) 14 [some (vR (some 0)), some (vI x1), some (vI x2), some (vI x3), some (vI x4), none] [] s0) (hk28 : ∀ (x1 : Int) (x2 : Int) (x3 : Int) (x4 : Int) (x5 : Int) (s0 : SS) (r : SS), k28 x1 x2 x3 x4 x5 s0 = some r → AW LM M_X7_triesBoth (none, r) 28 [some (vR (some 0)), some (vI x1), some (vI x2), some (vI x3), some (vI x4), some (vI x5)] [] s0) : ∀ (x1 : Int) (x2 : Int) (x3 : Int) (x4 : Int) (x5 : Int) (s0 : SS) (r : SS), g_X7_triesBoth_28 k14 k28 x1 x2 x3 x4 x5 s0 = some r → AW LM M_X7_triesBoth (none, r) 28 [some (vR (some 0)), some (vI x1), some (vI x2), some (vI x3), some (vI x4), some (vI x5)] [] s0 := by
  intro x1 x2 x3 x4 x5 s0 r h
  unfold g_X7_triesBoth_28 at h
  refine aw_iload dX7_triesBoth_28 rfl ?_
  refine aw_aload_n dX7_triesBoth_30 rfl rfl ?_
  refine aw_getR (t := 10) dX7_triesBoth_31 fk_X7_41 pM_0 rfl ?_
  refine aw_iload_n dX7_triesBoth_34 rfl rfl ?_
  obtain ⟨hg1, h⟩ := gx_e h
  refine aw_iald dX7_triesBoth_35 aM_10 hg1 ?_
  refine aw_icmp_ge (tgt := 83) dX7_triesBoth_36 (by decide) (fun hc => ?_) (fun hc => ?_)
  · replace h := ip hc h
    exact aw_less (ls' := [some (vR (some 0)), some (vI x1), some (vI x2), some (vI x3), some (vI x4), none]) (⟨rfl, ⟨rfl, ⟨rfl, ⟨rfl, ⟨rfl, trivial⟩⟩⟩⟩⟩) (t_X7_triesBoth_83 k14 hk14 x1 x2 x3 x4 s0 _ h)
  · replace h := ic hc h
    refine aw_aload_n dX7_triesBoth_39 rfl rfl ?_
    refine aw_iload_n dX7_triesBoth_40 rfl rfl ?_
    refine aw_aload_n dX7_triesBoth_41 rfl rfl ?_
    refine aw_getR (t := 2) dX7_triesBoth_42 fk_X7_17 pM_0 rfl ?_
    refine aw_iload_n dX7_triesBoth_45 rfl rfl ?_
    obtain ⟨hg2, h⟩ := gx_e h
    refine aw_iald dX7_triesBoth_46 aM_2 hg2 ?_
    refine aw_aload_n dX7_triesBoth_47 rfl rfl ?_
    refine aw_getR (t := 9) dX7_triesBoth_48 fk_X7_38 pM_0 rfl ?_
    refine aw_bipush dX7_triesBoth_51 ⟨by decide, by decide⟩ (by decide) ?_
    refine aw_iload_n dX7_triesBoth_53 rfl rfl ?_
    refine aw_imul dX7_triesBoth_54 ?_
    refine aw_iload dX7_triesBoth_55 rfl ?_
    refine aw_iadd dX7_triesBoth_57 ?_
    obtain ⟨hg3, h⟩ := gx_e h
    refine aw_iald dX7_triesBoth_58 aM_9 hg3 ?_
    refine aw_aload_n dX7_triesBoth_59 rfl rfl ?_
    refine aw_getR (t := 9) dX7_triesBoth_60 fk_X7_38 pM_0 rfl ?_
    refine aw_bipush dX7_triesBoth_63 ⟨by decide, by decide⟩ (by decide) ?_
    refine aw_iload_n dX7_triesBoth_65 rfl rfl ?_
    refine aw_imul dX7_triesBoth_66 ?_
    refine aw_iload dX7_triesBoth_67 rfl ?_
    refine aw_iadd dX7_triesBoth_69 ?_
    obtain ⟨hg4, h⟩ := gx_e h
    refine aw_iald dX7_triesBoth_70 aM_9 hg4 ?_
    obtain ⟨y1, hg5, h⟩ := bn_e h
    refine aw_S3i (M2 := M_X7_both) dX7_triesBoth_71 lk_X7_151 mk_X7_both ms_X7_both ⟨by decide, by decide⟩ (Nat.le_of_ble_eq_true rfl) (c_X7_both  hg5) ?_
    obtain ⟨s1, hg6, h⟩ := bn_e h
    refine aw_V2v (M2 := M_X7_tries) dX7_triesBoth_74 lk_X7_155 mk_X7_tries mv_X7_tries ⟨by decide, by decide⟩ pM_0 ⟨_, _, rfl⟩ (Nat.le_of_ble_eq_true rfl) (c_X7_tries  hg6) ?_
    refine aw_iinc dX7_triesBoth_77 rfl (by decide) rfl (fun y2 e => ?_)
    replace h := sb_e h e
    clear e
    show AW _ _ _ 80 [some (vR (some 0)), some (vI x1), some (vI x2), some (vI x3), some (vI x4), some (vI y2)] _ _
    refine aw_goto (tgt := 28) dX7_triesBoth_80 (by decide) ?_
    exact (hk28 x1 x2 x3 x4 y2 s1 _ h)
def f_X7_triesBoth_28 (k14 : Int → Int → Int → Int → SS → Option SS) : Nat → Int → Int → Int → Int → Int → SS → Option SS
  | 0 => fun _ _ _ _ _ _ => none
  | n + 1 => g_X7_triesBoth_28 k14 (f_X7_triesBoth_28 k14 n)
theorem s_X7_triesBoth_28 (k14 : Int → Int → Int → Int → SS → Option SS) (hk14 : ∀ (x1 : Int) (x2 : Int) (x3 : Int) (x4 : Int) (s0 : SS) (r : SS), k14 x1 x2 x3 x4 s0 = some r → AW LM M_X7_triesBoth (none, r) 14 [some (vR (some 0)), some (vI x1), some (vI x2), some (vI x3), some (vI x4), none] [] s0) : ∀ (n : Nat), ∀ (x1 : Int) (x2 : Int) (x3 : Int) (x4 : Int) (x5 : Int) (s0 : SS) (r : SS), f_X7_triesBoth_28 k14 n x1 x2 x3 x4 x5 s0 = some r → AW LM M_X7_triesBoth (none, r) 28 [some (vR (some 0)), some (vI x1), some (vI x2), some (vI x3), some (vI x4), some (vI x5)] [] s0 := by
  intro n
  induction n with
  | zero =>
    intro x1 x2 x3 x4 x5 s0 r h
    cases h
  | succ n ih =>
    intro x1 x2 x3 x4 x5 s0 r h
    exact t_X7_triesBoth_28 k14 (f_X7_triesBoth_28 k14 n) hk14 ih x1 x2 x3 x4 x5 s0 r h
def g_X7_triesBoth_14 (k14 : Int → Int → Int → Int → SS → Option SS) (x1 : Int) (x2 : Int) (x3 : Int) (x4 : Int) (s0 : SS) : Option SS :=
  gx x2 40 <|
  if (s0 10 x2.toNat) ≤ x4 then (
    g_X7_triesBoth_89  s0
  ) else (
    f_X7_triesBoth_28 k14 FU x1 x2 x3 x4 0 s0
  )
set_option maxHeartbeats 4000000 in
theorem t_X7_triesBoth_14 (k14 : Int → Int → Int → Int → SS → Option SS) (hk14 : ∀ (x1 : Int) (x2 : Int) (x3 : Int) (x4 : Int) (s0 : SS) (r : SS), k14 x1 x2 x3 x4 s0 = some r → AW LM M_X7_triesBoth (none, r) 14 [some (vR (some 0)), some (vI x1), some (vI x2), some (vI x3), some (vI x4), none] [] s0) : ∀ (x1 : Int) (x2 : Int) (x3 : Int) (x4 : Int) (s0 : SS) (r : SS), g_X7_triesBoth_14 k14 x1 x2 x3 x4 s0 = some r → AW LM M_X7_triesBoth (none, r) 14 [some (vR (some 0)), some (vI x1), some (vI x2), some (vI x3), some (vI x4), none] [] s0 := by
  intro x1 x2 x3 x4 s0 r h
  unfold g_X7_triesBoth_14 at h
  refine aw_iload dX7_triesBoth_14 rfl ?_
  refine aw_aload_n dX7_triesBoth_16 rfl rfl ?_
  refine aw_getR (t := 10) dX7_triesBoth_17 fk_X7_41 pM_0 rfl ?_
  refine aw_iload_n dX7_triesBoth_20 rfl rfl ?_
  obtain ⟨hg1, h⟩ := gx_e h
  refine aw_iald dX7_triesBoth_21 aM_10 hg1 ?_
  refine aw_icmp_ge (tgt := 89) dX7_triesBoth_22 (by decide) (fun hc => ?_) (fun hc => ?_)
  · replace h := ip hc h
    exact aw_less (ls' := [none, none, none, none, none, none]) (trivial) (t_X7_triesBoth_89   s0 _ h)
  · replace h := ic hc h
    refine aw_iconst dX7_triesBoth_25 ⟨by decide, by decide⟩ ?_
    refine aw_istoreA dX7_triesBoth_26 (by decide) rfl ?_
    show AW _ _ _ 28 [some (vR (some 0)), some (vI x1), some (vI x2), some (vI x3), some (vI x4), some (vI 0)] _ _
    exact (s_X7_triesBoth_28 k14 hk14 FU x1 x2 x3 x4 0 s0 _ h)
def f_X7_triesBoth_14 : Nat → Int → Int → Int → Int → SS → Option SS
  | 0 => fun _ _ _ _ _ => none
  | n + 1 => g_X7_triesBoth_14 (f_X7_triesBoth_14  n)
theorem s_X7_triesBoth_14  : ∀ (n : Nat), ∀ (x1 : Int) (x2 : Int) (x3 : Int) (x4 : Int) (s0 : SS) (r : SS), f_X7_triesBoth_14 n x1 x2 x3 x4 s0 = some r → AW LM M_X7_triesBoth (none, r) 14 [some (vR (some 0)), some (vI x1), some (vI x2), some (vI x3), some (vI x4), none] [] s0 := by
  intro n
  induction n with
  | zero =>
    intro x1 x2 x3 x4 s0 r h
    cases h
  | succ n ih =>
    intro x1 x2 x3 x4 s0 r h
    exact t_X7_triesBoth_14 (f_X7_triesBoth_14  n) ih x1 x2 x3 x4 s0 r h
def f_X7_triesBoth (x1 : Int) (s0 : SS) : Option SS :=
  sb (wr (x1 + 1)) fun y1 =>
  gx x1 40 <|
  sb (s0 7 x1.toNat) fun y2 =>
  f_X7_triesBoth_14  FU x1 y1 y2 0 s0
set_option maxHeartbeats 4000000 in
theorem t_X7_triesBoth_0  : ∀ (x1 : Int) (s0 : SS) (r : SS), f_X7_triesBoth x1 s0 = some r → AW LM M_X7_triesBoth (none, r) 0 [some (vR (some 0)), some (vI x1), none, none, none, none] [] s0 := by
  intro x1 s0 r h
  unfold f_X7_triesBoth at h
  refine aw_iload_n dX7_triesBoth_0 rfl rfl ?_
  refine aw_iconst dX7_triesBoth_1 ⟨by decide, by decide⟩ ?_
  refine aw_iadd dX7_triesBoth_2 ?_
  refine aw_istore_n dX7_triesBoth_3 rfl (by decide) rfl (fun y1 e => ?_)
  replace h := sb_e h e
  clear e
  show AW _ _ _ 4 [some (vR (some 0)), some (vI x1), some (vI y1), none, none, none] _ _
  refine aw_aload_n dX7_triesBoth_4 rfl rfl ?_
  refine aw_getR (t := 7) dX7_triesBoth_5 fk_X7_32 pM_0 rfl ?_
  refine aw_iload_n dX7_triesBoth_8 rfl rfl ?_
  obtain ⟨hg1, h⟩ := gx_e h
  refine aw_iald dX7_triesBoth_9 aM_7 hg1 ?_
  refine aw_istore_n dX7_triesBoth_10 rfl (by decide) rfl (fun y2 e => ?_)
  replace h := sb_e h e
  clear e
  show AW _ _ _ 11 [some (vR (some 0)), some (vI x1), some (vI y1), some (vI y2), none, none] _ _
  refine aw_iconst dX7_triesBoth_11 ⟨by decide, by decide⟩ ?_
  refine aw_istoreA dX7_triesBoth_12 (by decide) rfl ?_
  show AW _ _ _ 14 [some (vR (some 0)), some (vI x1), some (vI y1), some (vI y2), some (vI 0), none] _ _
  exact (s_X7_triesBoth_14   FU x1 y1 y2 0 s0 _ h)
theorem c_X7_triesBoth {x1 : Int} {s0 : SS} {s1 : SS} (h : f_X7_triesBoth x1 s0 = some s1) : CT LM M_X7_triesBoth [vR (some 0), vI x1] s0 (none, s1) :=
  ct_of (n := 4) (by decide) (Nat.le_of_ble_eq_true rfl) (t_X7_triesBoth_0 x1 s0  _ h)
def g_X7_triesChoice_96  (s0 : SS) : Option SS :=
  some s0
set_option maxHeartbeats 4000000 in
theorem t_X7_triesChoice_96  : ∀ (s0 : SS) (r : SS), g_X7_triesChoice_96 s0 = some r → AW LM M_X7_triesChoice (none, r) 96 [none, none, none, none] [] s0 := by
  intro s0 r h
  unfold g_X7_triesChoice_96 at h
  obtain rfl := Option.some.inj h
  exact aw_vret dX7_triesChoice_96 rfl
def g_X7_triesChoice_49 (k49 : Int → Int → Int → SS → Option SS) (x1 : Int) (x2 : Int) (x3 : Int) (s0 : SS) : Option SS :=
  gx x1 40 <|
  gx (s0 7 x1.toNat) 40 <|
  if (s0 10 (s0 7 x1.toNat).toNat) ≤ x3 then (
    g_X7_triesChoice_96  s0
  ) else (
    gx x1 40 <|
    gx (wr ((wr (64 * (s0 7 x1.toNat))) + x3)) 2560 <|
    bn (f_X7_tries x1 (i_or (s0 9 (wr ((wr (64 * (s0 7 x1.toNat))) + x3)).toNat) (i_shl x2 24)) s0) fun s1 =>
    sb (wr (x3 + 1)) fun y1 =>
    k49 x1 x2 y1 s1
  )
set_option maxHeartbeats 4000000 in
theorem t_X7_triesChoice_49 (k49 : Int → Int → Int → SS → Option SS) (hk49 : ∀ (x1 : Int) (x2 : Int) (x3 : Int) (s0 : SS) (r : SS), k49 x1 x2 x3 s0 = some r → AW LM M_X7_triesChoice (none, r) 49 [some (vR (some 0)), some (vI x1), some (vI x2), some (vI x3)] [] s0) : ∀ (x1 : Int) (x2 : Int) (x3 : Int) (s0 : SS) (r : SS), g_X7_triesChoice_49 k49 x1 x2 x3 s0 = some r → AW LM M_X7_triesChoice (none, r) 49 [some (vR (some 0)), some (vI x1), some (vI x2), some (vI x3)] [] s0 := by
  intro x1 x2 x3 s0 r h
  unfold g_X7_triesChoice_49 at h
  refine aw_iload_n dX7_triesChoice_49 rfl rfl ?_
  refine aw_aload_n dX7_triesChoice_50 rfl rfl ?_
  refine aw_getR (t := 10) dX7_triesChoice_51 fk_X7_41 pM_0 rfl ?_
  refine aw_aload_n dX7_triesChoice_54 rfl rfl ?_
  refine aw_getR (t := 7) dX7_triesChoice_55 fk_X7_32 pM_0 rfl ?_
  refine aw_iload_n dX7_triesChoice_58 rfl rfl ?_
  obtain ⟨hg1, h⟩ := gx_e h
  refine aw_iald dX7_triesChoice_59 aM_7 hg1 ?_
  obtain ⟨hg2, h⟩ := gx_e h
  refine aw_iald dX7_triesChoice_60 aM_10 hg2 ?_
  refine aw_icmp_ge (tgt := 96) dX7_triesChoice_61 (by decide) (fun hc => ?_) (fun hc => ?_)
  · replace h := ip hc h
    exact aw_less (ls' := [none, none, none, none]) (trivial) (t_X7_triesChoice_96   s0 _ h)
  · replace h := ic hc h
    refine aw_aload_n dX7_triesChoice_64 rfl rfl ?_
    refine aw_iload_n dX7_triesChoice_65 rfl rfl ?_
    refine aw_aload_n dX7_triesChoice_66 rfl rfl ?_
    refine aw_getR (t := 9) dX7_triesChoice_67 fk_X7_38 pM_0 rfl ?_
    refine aw_bipush dX7_triesChoice_70 ⟨by decide, by decide⟩ (by decide) ?_
    refine aw_aload_n dX7_triesChoice_72 rfl rfl ?_
    refine aw_getR (t := 7) dX7_triesChoice_73 fk_X7_32 pM_0 rfl ?_
    refine aw_iload_n dX7_triesChoice_76 rfl rfl ?_
    obtain ⟨hg3, h⟩ := gx_e h
    refine aw_iald dX7_triesChoice_77 aM_7 hg3 ?_
    refine aw_imul dX7_triesChoice_78 ?_
    refine aw_iload_n dX7_triesChoice_79 rfl rfl ?_
    refine aw_iadd dX7_triesChoice_80 ?_
    obtain ⟨hg4, h⟩ := gx_e h
    refine aw_iald dX7_triesChoice_81 aM_9 hg4 ?_
    refine aw_iload_n dX7_triesChoice_82 rfl rfl ?_
    refine aw_bipush dX7_triesChoice_83 ⟨by decide, by decide⟩ (by decide) ?_
    refine aw_ishl dX7_triesChoice_85 ?_
    refine aw_ior dX7_triesChoice_86 ?_
    obtain ⟨s1, hg5, h⟩ := bn_e h
    refine aw_V2v (M2 := M_X7_tries) dX7_triesChoice_87 lk_X7_155 mk_X7_tries mv_X7_tries ⟨by decide, by decide⟩ pM_0 ⟨_, _, rfl⟩ (Nat.le_of_ble_eq_true rfl) (c_X7_tries  hg5) ?_
    refine aw_iinc dX7_triesChoice_90 rfl (by decide) rfl (fun y1 e => ?_)
    replace h := sb_e h e
    clear e
    show AW _ _ _ 93 [some (vR (some 0)), some (vI x1), some (vI x2), some (vI y1)] _ _
    refine aw_goto (tgt := 49) dX7_triesChoice_93 (by decide) ?_
    exact (hk49 x1 x2 y1 s1 _ h)
def f_X7_triesChoice_49 : Nat → Int → Int → Int → SS → Option SS
  | 0 => fun _ _ _ _ => none
  | n + 1 => g_X7_triesChoice_49 (f_X7_triesChoice_49  n)
theorem s_X7_triesChoice_49  : ∀ (n : Nat), ∀ (x1 : Int) (x2 : Int) (x3 : Int) (s0 : SS) (r : SS), f_X7_triesChoice_49 n x1 x2 x3 s0 = some r → AW LM M_X7_triesChoice (none, r) 49 [some (vR (some 0)), some (vI x1), some (vI x2), some (vI x3)] [] s0 := by
  intro n
  induction n with
  | zero =>
    intro x1 x2 x3 s0 r h
    cases h
  | succ n ih =>
    intro x1 x2 x3 s0 r h
    exact t_X7_triesChoice_49 (f_X7_triesChoice_49  n) ih x1 x2 x3 s0 r h
def g_X7_triesChoice_47 (x1 : Int) (x2 : Int) (s0 : SS) : Option SS :=
  f_X7_triesChoice_49  FU x1 x2 0 s0
set_option maxHeartbeats 4000000 in
theorem t_X7_triesChoice_47  : ∀ (x1 : Int) (x2 : Int) (s0 : SS) (r : SS), g_X7_triesChoice_47 x1 x2 s0 = some r → AW LM M_X7_triesChoice (none, r) 47 [some (vR (some 0)), some (vI x1), some (vI x2), none] [] s0 := by
  intro x1 x2 s0 r h
  unfold g_X7_triesChoice_47 at h
  refine aw_iconst dX7_triesChoice_47 ⟨by decide, by decide⟩ ?_
  refine aw_istore_nA dX7_triesChoice_48 rfl (by decide) rfl ?_
  show AW _ _ _ 49 [some (vR (some 0)), some (vI x1), some (vI x2), some (vI 0)] _ _
  exact (s_X7_triesChoice_49   FU x1 x2 0 s0 _ h)
def g_X7_triesChoice_11 (k11 : Int → Int → Int → SS → Option SS) (x1 : Int) (x2 : Int) (x3 : Int) (s0 : SS) : Option SS :=
  gx (wr (x1 + 1)) 40 <|
  if (s0 10 (wr (x1 + 1)).toNat) ≤ x3 then (
    g_X7_triesChoice_47  x1 x2 s0
  ) else (
    gx (wr ((wr (64 * (wr (x1 + 1)))) + x3)) 2560 <|
    bn (f_X7_tries x1 (s0 9 (wr ((wr (64 * (wr (x1 + 1)))) + x3)).toNat) s0) fun s1 =>
    sb (wr (x3 + 1)) fun y1 =>
    k11 x1 x2 y1 s1
  )
set_option maxHeartbeats 4000000 in
theorem t_X7_triesChoice_11 (k11 : Int → Int → Int → SS → Option SS) (hk11 : ∀ (x1 : Int) (x2 : Int) (x3 : Int) (s0 : SS) (r : SS), k11 x1 x2 x3 s0 = some r → AW LM M_X7_triesChoice (none, r) 11 [some (vR (some 0)), some (vI x1), some (vI x2), some (vI x3)] [] s0) : ∀ (x1 : Int) (x2 : Int) (x3 : Int) (s0 : SS) (r : SS), g_X7_triesChoice_11 k11 x1 x2 x3 s0 = some r → AW LM M_X7_triesChoice (none, r) 11 [some (vR (some 0)), some (vI x1), some (vI x2), some (vI x3)] [] s0 := by
  intro x1 x2 x3 s0 r h
  unfold g_X7_triesChoice_11 at h
  refine aw_iload_n dX7_triesChoice_11 rfl rfl ?_
  refine aw_aload_n dX7_triesChoice_12 rfl rfl ?_
  refine aw_getR (t := 10) dX7_triesChoice_13 fk_X7_41 pM_0 rfl ?_
  refine aw_iload_n dX7_triesChoice_16 rfl rfl ?_
  refine aw_iconst dX7_triesChoice_17 ⟨by decide, by decide⟩ ?_
  refine aw_iadd dX7_triesChoice_18 ?_
  obtain ⟨hg1, h⟩ := gx_e h
  refine aw_iald dX7_triesChoice_19 aM_10 hg1 ?_
  refine aw_icmp_ge (tgt := 47) dX7_triesChoice_20 (by decide) (fun hc => ?_) (fun hc => ?_)
  · replace h := ip hc h
    exact aw_less (ls' := [some (vR (some 0)), some (vI x1), some (vI x2), none]) (⟨rfl, ⟨rfl, ⟨rfl, trivial⟩⟩⟩) (t_X7_triesChoice_47   x1 x2 s0 _ h)
  · replace h := ic hc h
    refine aw_aload_n dX7_triesChoice_23 rfl rfl ?_
    refine aw_iload_n dX7_triesChoice_24 rfl rfl ?_
    refine aw_aload_n dX7_triesChoice_25 rfl rfl ?_
    refine aw_getR (t := 9) dX7_triesChoice_26 fk_X7_38 pM_0 rfl ?_
    refine aw_bipush dX7_triesChoice_29 ⟨by decide, by decide⟩ (by decide) ?_
    refine aw_iload_n dX7_triesChoice_31 rfl rfl ?_
    refine aw_iconst dX7_triesChoice_32 ⟨by decide, by decide⟩ ?_
    refine aw_iadd dX7_triesChoice_33 ?_
    refine aw_imul dX7_triesChoice_34 ?_
    refine aw_iload_n dX7_triesChoice_35 rfl rfl ?_
    refine aw_iadd dX7_triesChoice_36 ?_
    obtain ⟨hg2, h⟩ := gx_e h
    refine aw_iald dX7_triesChoice_37 aM_9 hg2 ?_
    obtain ⟨s1, hg3, h⟩ := bn_e h
    refine aw_V2v (M2 := M_X7_tries) dX7_triesChoice_38 lk_X7_155 mk_X7_tries mv_X7_tries ⟨by decide, by decide⟩ pM_0 ⟨_, _, rfl⟩ (Nat.le_of_ble_eq_true rfl) (c_X7_tries  hg3) ?_
    refine aw_iinc dX7_triesChoice_41 rfl (by decide) rfl (fun y1 e => ?_)
    replace h := sb_e h e
    clear e
    show AW _ _ _ 44 [some (vR (some 0)), some (vI x1), some (vI x2), some (vI y1)] _ _
    refine aw_goto (tgt := 11) dX7_triesChoice_44 (by decide) ?_
    exact (hk11 x1 x2 y1 s1 _ h)
def f_X7_triesChoice_11 : Nat → Int → Int → Int → SS → Option SS
  | 0 => fun _ _ _ _ => none
  | n + 1 => g_X7_triesChoice_11 (f_X7_triesChoice_11  n)
theorem s_X7_triesChoice_11  : ∀ (n : Nat), ∀ (x1 : Int) (x2 : Int) (x3 : Int) (s0 : SS) (r : SS), f_X7_triesChoice_11 n x1 x2 x3 s0 = some r → AW LM M_X7_triesChoice (none, r) 11 [some (vR (some 0)), some (vI x1), some (vI x2), some (vI x3)] [] s0 := by
  intro n
  induction n with
  | zero =>
    intro x1 x2 x3 s0 r h
    cases h
  | succ n ih =>
    intro x1 x2 x3 s0 r h
    exact t_X7_triesChoice_11 (f_X7_triesChoice_11  n) ih x1 x2 x3 s0 r h
def f_X7_triesChoice (x1 : Int) (s0 : SS) : Option SS :=
  gx x1 40 <|
  sb (i_shl 1 (s0 3 x1.toNat)) fun y1 =>
  f_X7_triesChoice_11  FU x1 y1 0 s0
set_option maxHeartbeats 4000000 in
theorem t_X7_triesChoice_0  : ∀ (x1 : Int) (s0 : SS) (r : SS), f_X7_triesChoice x1 s0 = some r → AW LM M_X7_triesChoice (none, r) 0 [some (vR (some 0)), some (vI x1), none, none] [] s0 := by
  intro x1 s0 r h
  unfold f_X7_triesChoice at h
  refine aw_iconst dX7_triesChoice_0 ⟨by decide, by decide⟩ ?_
  refine aw_aload_n dX7_triesChoice_1 rfl rfl ?_
  refine aw_getR (t := 3) dX7_triesChoice_2 fk_X7_20 pM_0 rfl ?_
  refine aw_iload_n dX7_triesChoice_5 rfl rfl ?_
  obtain ⟨hg1, h⟩ := gx_e h
  refine aw_iald dX7_triesChoice_6 aM_3 hg1 ?_
  refine aw_ishl dX7_triesChoice_7 ?_
  refine aw_istore_n dX7_triesChoice_8 rfl (by decide) rfl (fun y1 e => ?_)
  replace h := sb_e h e
  clear e
  show AW _ _ _ 9 [some (vR (some 0)), some (vI x1), some (vI y1), none] _ _
  refine aw_iconst dX7_triesChoice_9 ⟨by decide, by decide⟩ ?_
  refine aw_istore_nA dX7_triesChoice_10 rfl (by decide) rfl ?_
  show AW _ _ _ 11 [some (vR (some 0)), some (vI x1), some (vI y1), some (vI 0)] _ _
  exact (s_X7_triesChoice_11   FU x1 y1 0 s0 _ h)
theorem c_X7_triesChoice {x1 : Int} {s0 : SS} {s1 : SS} (h : f_X7_triesChoice x1 s0 = some s1) : CT LM M_X7_triesChoice [vR (some 0), vI x1] s0 (none, s1) :=
  ct_of (n := 2) (by decide) (Nat.le_of_ble_eq_true rfl) (t_X7_triesChoice_0 x1 s0  _ h)
def g_X7_findsFronts_172  (s0 : SS) : Option SS :=
  some s0
set_option maxHeartbeats 4000000 in
theorem t_X7_findsFronts_172  : ∀ (s0 : SS) (r : SS), g_X7_findsFronts_172 s0 = some r → AW LM M_X7_findsFronts (none, r) 172 [none, none, none, none] [] s0 := by
  intro s0 r h
  unfold g_X7_findsFronts_172 at h
  obtain rfl := Option.some.inj h
  exact aw_vret dX7_findsFronts_172 rfl
def g_X7_findsFronts_166 (k22 : Int → SS → Option SS) (x2 : Int) (s0 : SS) : Option SS :=
  sb (wr (x2 + (-1))) fun y1 =>
  k22 y1 s0
set_option maxHeartbeats 4000000 in
theorem t_X7_findsFronts_166 (k22 : Int → SS → Option SS) (hk22 : ∀ (x2 : Int) (s0 : SS) (r : SS), k22 x2 s0 = some r → AW LM M_X7_findsFronts (none, r) 22 [some (vR (some 0)), none, some (vI x2), none] [] s0) : ∀ (x2 : Int) (s0 : SS) (r : SS), g_X7_findsFronts_166 k22 x2 s0 = some r → AW LM M_X7_findsFronts (none, r) 166 [some (vR (some 0)), none, some (vI x2), none] [] s0 := by
  intro x2 s0 r h
  unfold g_X7_findsFronts_166 at h
  refine aw_iinc dX7_findsFronts_166 rfl (by decide) rfl (fun y1 e => ?_)
  replace h := sb_e h e
  clear e
  show AW _ _ _ 169 [some (vR (some 0)), none, some (vI y1), none] _ _
  refine aw_goto (tgt := 22) dX7_findsFronts_169 (by decide) ?_
  exact (hk22 y1 s0 _ h)
def g_X7_findsFronts_154 (k107 : Int → Int → SS → Option SS) (x2 : Int) (x3 : Int) (z0 : Int) (z1 : Int) (z2 : Int) (s0 : SS) : Option SS :=
  bn (f_X7_pushed z1 z0) fun y1 =>
  bn (f_X7_tries z2 y1 s0) fun s1 =>
  sb (wr (x3 + 1)) fun y2 =>
  k107 x2 y2 s1
set_option maxHeartbeats 4000000 in
theorem t_X7_findsFronts_154 (k107 : Int → Int → SS → Option SS) (hk107 : ∀ (x2 : Int) (x3 : Int) (s0 : SS) (r : SS), k107 x2 x3 s0 = some r → AW LM M_X7_findsFronts (none, r) 107 [some (vR (some 0)), none, some (vI x2), some (vI x3)] [] s0) : ∀ (x2 : Int) (x3 : Int) (z0 : Int) (z1 : Int) (z2 : Int) (s0 : SS) (r : SS), g_X7_findsFronts_154 k107 x2 x3 z0 z1 z2 s0 = some r → AW LM M_X7_findsFronts (none, r) 154 [some (vR (some 0)), none, some (vI x2), some (vI x3)] [vI z0, vI z1, vI z2, vR (some 0)] s0 := by
  intro x2 x3 z0 z1 z2 s0 r h
  unfold g_X7_findsFronts_154 at h
  obtain ⟨y1, hg1, h⟩ := bn_e h
  refine aw_S2i (M2 := M_X7_pushed) dX7_findsFronts_154 lk_X7_166 mk_X7_pushed ms_X7_pushed ⟨by decide, by decide⟩ (Nat.le_of_ble_eq_true rfl) (c_X7_pushed  hg1) ?_
  obtain ⟨s1, hg2, h⟩ := bn_e h
  refine aw_V2v (M2 := M_X7_tries) dX7_findsFronts_157 lk_X7_155 mk_X7_tries mv_X7_tries ⟨by decide, by decide⟩ pM_0 ⟨_, _, rfl⟩ (Nat.le_of_ble_eq_true rfl) (c_X7_tries  hg2) ?_
  refine aw_iinc dX7_findsFronts_160 rfl (by decide) rfl (fun y2 e => ?_)
  replace h := sb_e h e
  clear e
  show AW _ _ _ 163 [some (vR (some 0)), none, some (vI x2), some (vI y2)] _ _
  refine aw_goto (tgt := 107) dX7_findsFronts_163 (by decide) ?_
  exact (hk107 x2 y2 s1 _ h)
def g_X7_findsFronts_107 (k22 : Int → SS → Option SS) (k107 : Int → Int → SS → Option SS) (x2 : Int) (x3 : Int) (s0 : SS) : Option SS :=
  gx (wr (x2 + 1)) 40 <|
  if (s0 10 (wr (x2 + 1)).toNat) ≤ x3 then (
    g_X7_findsFronts_166 k22 x2 s0
  ) else (
    gx (wr ((wr (64 * (wr (x2 + 1)))) + x3)) 2560 <|
    gx x2 40 <|
    if (s0 2 x2.toNat) = 4 then (
      gx x2 40 <|
      g_X7_findsFronts_154 k107 x2 x3 (s0 3 x2.toNat) (s0 9 (wr ((wr (64 * (wr (x2 + 1)))) + x3)).toNat) x2 s0
    ) else (
      g_X7_findsFronts_154 k107 x2 x3 0 (s0 9 (wr ((wr (64 * (wr (x2 + 1)))) + x3)).toNat) x2 s0
    )
  )
set_option maxHeartbeats 4000000 in
theorem t_X7_findsFronts_107 (k22 : Int → SS → Option SS) (k107 : Int → Int → SS → Option SS) (hk22 : ∀ (x2 : Int) (s0 : SS) (r : SS), k22 x2 s0 = some r → AW LM M_X7_findsFronts (none, r) 22 [some (vR (some 0)), none, some (vI x2), none] [] s0) (hk107 : ∀ (x2 : Int) (x3 : Int) (s0 : SS) (r : SS), k107 x2 x3 s0 = some r → AW LM M_X7_findsFronts (none, r) 107 [some (vR (some 0)), none, some (vI x2), some (vI x3)] [] s0) : ∀ (x2 : Int) (x3 : Int) (s0 : SS) (r : SS), g_X7_findsFronts_107 k22 k107 x2 x3 s0 = some r → AW LM M_X7_findsFronts (none, r) 107 [some (vR (some 0)), none, some (vI x2), some (vI x3)] [] s0 := by
  intro x2 x3 s0 r h
  unfold g_X7_findsFronts_107 at h
  refine aw_iload_n dX7_findsFronts_107 rfl rfl ?_
  refine aw_aload_n dX7_findsFronts_108 rfl rfl ?_
  refine aw_getR (t := 10) dX7_findsFronts_109 fk_X7_41 pM_0 rfl ?_
  refine aw_iload_n dX7_findsFronts_112 rfl rfl ?_
  refine aw_iconst dX7_findsFronts_113 ⟨by decide, by decide⟩ ?_
  refine aw_iadd dX7_findsFronts_114 ?_
  obtain ⟨hg1, h⟩ := gx_e h
  refine aw_iald dX7_findsFronts_115 aM_10 hg1 ?_
  refine aw_icmp_ge (tgt := 166) dX7_findsFronts_116 (by decide) (fun hc => ?_) (fun hc => ?_)
  · replace h := ip hc h
    exact aw_less (ls' := [some (vR (some 0)), none, some (vI x2), none]) (⟨rfl, ⟨rfl, trivial⟩⟩) (t_X7_findsFronts_166 k22 hk22 x2 s0 _ h)
  · replace h := ic hc h
    refine aw_aload_n dX7_findsFronts_119 rfl rfl ?_
    refine aw_iload_n dX7_findsFronts_120 rfl rfl ?_
    refine aw_aload_n dX7_findsFronts_121 rfl rfl ?_
    refine aw_getR (t := 9) dX7_findsFronts_122 fk_X7_38 pM_0 rfl ?_
    refine aw_bipush dX7_findsFronts_125 ⟨by decide, by decide⟩ (by decide) ?_
    refine aw_iload_n dX7_findsFronts_127 rfl rfl ?_
    refine aw_iconst dX7_findsFronts_128 ⟨by decide, by decide⟩ ?_
    refine aw_iadd dX7_findsFronts_129 ?_
    refine aw_imul dX7_findsFronts_130 ?_
    refine aw_iload_n dX7_findsFronts_131 rfl rfl ?_
    refine aw_iadd dX7_findsFronts_132 ?_
    obtain ⟨hg2, h⟩ := gx_e h
    refine aw_iald dX7_findsFronts_133 aM_9 hg2 ?_
    refine aw_aload_n dX7_findsFronts_134 rfl rfl ?_
    refine aw_getR (t := 2) dX7_findsFronts_135 fk_X7_17 pM_0 rfl ?_
    refine aw_iload_n dX7_findsFronts_138 rfl rfl ?_
    obtain ⟨hg3, h⟩ := gx_e h
    refine aw_iald dX7_findsFronts_139 aM_2 hg3 ?_
    refine aw_iconst dX7_findsFronts_140 ⟨by decide, by decide⟩ ?_
    refine aw_icmp_ne (tgt := 153) dX7_findsFronts_141 (by decide) (fun hc => ?_) (fun hc => ?_)
    rotate_left
    · replace h := ip hc h
      refine aw_aload_n dX7_findsFronts_144 rfl rfl ?_
      refine aw_getR (t := 3) dX7_findsFronts_145 fk_X7_20 pM_0 rfl ?_
      refine aw_iload_n dX7_findsFronts_148 rfl rfl ?_
      obtain ⟨hg4, h⟩ := gx_e h
      refine aw_iald dX7_findsFronts_149 aM_3 hg4 ?_
      refine aw_goto (tgt := 154) dX7_findsFronts_150 (by decide) ?_
      exact (t_X7_findsFronts_154 k107 hk107 x2 x3 (s0 3 x2.toNat) (s0 9 (wr ((wr (64 * (wr (x2 + 1)))) + x3)).toNat) x2 s0 _ h)
    · replace h := ic hc h
      refine aw_iconst dX7_findsFronts_153 ⟨by decide, by decide⟩ ?_
      exact (t_X7_findsFronts_154 k107 hk107 x2 x3 0 (s0 9 (wr ((wr (64 * (wr (x2 + 1)))) + x3)).toNat) x2 s0 _ h)
def f_X7_findsFronts_107 (k22 : Int → SS → Option SS) : Nat → Int → Int → SS → Option SS
  | 0 => fun _ _ _ => none
  | n + 1 => g_X7_findsFronts_107 k22 (f_X7_findsFronts_107 k22 n)
theorem s_X7_findsFronts_107 (k22 : Int → SS → Option SS) (hk22 : ∀ (x2 : Int) (s0 : SS) (r : SS), k22 x2 s0 = some r → AW LM M_X7_findsFronts (none, r) 22 [some (vR (some 0)), none, some (vI x2), none] [] s0) : ∀ (n : Nat), ∀ (x2 : Int) (x3 : Int) (s0 : SS) (r : SS), f_X7_findsFronts_107 k22 n x2 x3 s0 = some r → AW LM M_X7_findsFronts (none, r) 107 [some (vR (some 0)), none, some (vI x2), some (vI x3)] [] s0 := by
  intro n
  induction n with
  | zero =>
    intro x2 x3 s0 r h
    cases h
  | succ n ih =>
    intro x2 x3 s0 r h
    exact t_X7_findsFronts_107 k22 (f_X7_findsFronts_107 k22 n) hk22 ih x2 x3 s0 r h
def g_X7_findsFronts_22 (k22 : Int → SS → Option SS) (x2 : Int) (s0 : SS) : Option SS :=
  if x2 < 0 then (
    g_X7_findsFronts_172  s0
  ) else (
    gx x2 40 <|
    sb (up s0 10 x2.toNat 0) fun s1 =>
    gx x2 40 <|
    if (s1 2 x2.toNat) = 0 then (
      gx x2 40 <|
      gx x2 40 <|
      bn (f_X7_shape 1 (s1 3 x2.toNat) (s1 3 x2.toNat) 0) fun y1 =>
      bn (f_X7_tries x2 y1 s1) fun s2 =>
      g_X7_findsFronts_166 k22 x2 s2
    ) else (
      gx x2 40 <|
      if (s1 2 x2.toNat) = 3 then (
        bn (f_X7_triesChoice x2 s1) fun s3 =>
        g_X7_findsFronts_166 k22 x2 s3
      ) else (
        gx x2 40 <|
        bn (f_X7_isTwofold (s1 2 x2.toNat)) fun y2 =>
        if y2 = 0 then (
          f_X7_findsFronts_107 k22 FU x2 0 s1
        ) else (
          bn (f_X7_triesBoth x2 s1) fun s4 =>
          g_X7_findsFronts_166 k22 x2 s4
        )
      )
    )
  )
set_option maxHeartbeats 4000000 in
theorem t_X7_findsFronts_22 (k22 : Int → SS → Option SS) (hk22 : ∀ (x2 : Int) (s0 : SS) (r : SS), k22 x2 s0 = some r → AW LM M_X7_findsFronts (none, r) 22 [some (vR (some 0)), none, some (vI x2), none] [] s0) : ∀ (x2 : Int) (s0 : SS) (r : SS), g_X7_findsFronts_22 k22 x2 s0 = some r → AW LM M_X7_findsFronts (none, r) 22 [some (vR (some 0)), none, some (vI x2), none] [] s0 := by
  intro x2 s0 r h
  unfold g_X7_findsFronts_22 at h
  refine aw_iload_n dX7_findsFronts_22 rfl rfl ?_
  refine aw_if_lt (tgt := 172) dX7_findsFronts_23 (by decide) (fun hc => ?_) (fun hc => ?_)
  · replace h := ip hc h
    exact aw_less (ls' := [none, none, none, none]) (trivial) (t_X7_findsFronts_172   s0 _ h)
  · replace h := ic hc h
    refine aw_aload_n dX7_findsFronts_26 rfl rfl ?_
    refine aw_getR (t := 10) dX7_findsFronts_27 fk_X7_41 pM_0 rfl ?_
    refine aw_iload_n dX7_findsFronts_30 rfl rfl ?_
    refine aw_iconst dX7_findsFronts_31 ⟨by decide, by decide⟩ ?_
    obtain ⟨hg1, h⟩ := gx_e h
    refine aw_iast dX7_findsFronts_32 aM_10 hg1 (fun s1 e => ?_)
    replace h := sb_e h e
    clear e
    refine aw_aload_n dX7_findsFronts_33 rfl rfl ?_
    refine aw_getR (t := 2) dX7_findsFronts_34 fk_X7_17 pM_0 rfl ?_
    refine aw_iload_n dX7_findsFronts_37 rfl rfl ?_
    obtain ⟨hg2, h⟩ := gx_e h
    refine aw_iald dX7_findsFronts_38 aM_2 hg2 ?_
    refine aw_if_ne (tgt := 67) dX7_findsFronts_39 (by decide) (fun hc => ?_) (fun hc => ?_)
    rotate_left
    · replace h := ip hc h
      refine aw_aload_n dX7_findsFronts_42 rfl rfl ?_
      refine aw_iload_n dX7_findsFronts_43 rfl rfl ?_
      refine aw_iconst dX7_findsFronts_44 ⟨by decide, by decide⟩ ?_
      refine aw_aload_n dX7_findsFronts_45 rfl rfl ?_
      refine aw_getR (t := 3) dX7_findsFronts_46 fk_X7_20 pM_0 rfl ?_
      refine aw_iload_n dX7_findsFronts_49 rfl rfl ?_
      obtain ⟨hg3, h⟩ := gx_e h
      refine aw_iald dX7_findsFronts_50 aM_3 hg3 ?_
      refine aw_aload_n dX7_findsFronts_51 rfl rfl ?_
      refine aw_getR (t := 3) dX7_findsFronts_52 fk_X7_20 pM_0 rfl ?_
      refine aw_iload_n dX7_findsFronts_55 rfl rfl ?_
      obtain ⟨hg4, h⟩ := gx_e h
      refine aw_iald dX7_findsFronts_56 aM_3 hg4 ?_
      refine aw_iconst dX7_findsFronts_57 ⟨by decide, by decide⟩ ?_
      obtain ⟨y1, hg5, h⟩ := bn_e h
      refine aw_S4i (M2 := M_X7_shape) dX7_findsFronts_58 lk_X7_134 mk_X7_shape ms_X7_shape ⟨by decide, by decide⟩ (Nat.le_of_ble_eq_true rfl) (c_X7_shape  hg5) ?_
      obtain ⟨s2, hg6, h⟩ := bn_e h
      refine aw_V2v (M2 := M_X7_tries) dX7_findsFronts_61 lk_X7_155 mk_X7_tries mv_X7_tries ⟨by decide, by decide⟩ pM_0 ⟨_, _, rfl⟩ (Nat.le_of_ble_eq_true rfl) (c_X7_tries  hg6) ?_
      refine aw_goto (tgt := 166) dX7_findsFronts_64 (by decide) ?_
      exact (t_X7_findsFronts_166 k22 hk22 x2 s2 _ h)
    · replace h := ic hc h
      refine aw_aload_n dX7_findsFronts_67 rfl rfl ?_
      refine aw_getR (t := 2) dX7_findsFronts_68 fk_X7_17 pM_0 rfl ?_
      refine aw_iload_n dX7_findsFronts_71 rfl rfl ?_
      obtain ⟨hg7, h⟩ := gx_e h
      refine aw_iald dX7_findsFronts_72 aM_2 hg7 ?_
      refine aw_iconst dX7_findsFronts_73 ⟨by decide, by decide⟩ ?_
      refine aw_icmp_ne (tgt := 85) dX7_findsFronts_74 (by decide) (fun hc => ?_) (fun hc => ?_)
      rotate_left
      · replace h := ip hc h
        refine aw_aload_n dX7_findsFronts_77 rfl rfl ?_
        refine aw_iload_n dX7_findsFronts_78 rfl rfl ?_
        obtain ⟨s3, hg8, h⟩ := bn_e h
        refine aw_V1v (M2 := M_X7_triesChoice) dX7_findsFronts_79 lk_X7_159 mk_X7_triesChoice mv_X7_triesChoice ⟨by decide, by decide⟩ pM_0 ⟨_, _, rfl⟩ (Nat.le_of_ble_eq_true rfl) (c_X7_triesChoice  hg8) ?_
        refine aw_goto (tgt := 166) dX7_findsFronts_82 (by decide) ?_
        exact (t_X7_findsFronts_166 k22 hk22 x2 s3 _ h)
      · replace h := ic hc h
        refine aw_aload_n dX7_findsFronts_85 rfl rfl ?_
        refine aw_getR (t := 2) dX7_findsFronts_86 fk_X7_17 pM_0 rfl ?_
        refine aw_iload_n dX7_findsFronts_89 rfl rfl ?_
        obtain ⟨hg9, h⟩ := gx_e h
        refine aw_iald dX7_findsFronts_90 aM_2 hg9 ?_
        obtain ⟨y2, hg10, h⟩ := bn_e h
        refine aw_S1i (M2 := M_X7_isTwofold) dX7_findsFronts_91 lk_X7_102 mk_X7_isTwofold ms_X7_isTwofold ⟨by decide, by decide⟩ (Nat.le_of_ble_eq_true rfl) (c_X7_isTwofold  hg10) ?_
        refine aw_if_eq (tgt := 105) dX7_findsFronts_94 (by decide) (fun hc => ?_) (fun hc => ?_)
        · replace h := ip hc h
          refine aw_iconst dX7_findsFronts_105 ⟨by decide, by decide⟩ ?_
          refine aw_istore_nA dX7_findsFronts_106 rfl (by decide) rfl ?_
          show AW _ _ _ 107 [some (vR (some 0)), none, some (vI x2), some (vI 0)] _ _
          exact (s_X7_findsFronts_107 k22 hk22 FU x2 0 s1 _ h)
        · replace h := ic hc h
          refine aw_aload_n dX7_findsFronts_97 rfl rfl ?_
          refine aw_iload_n dX7_findsFronts_98 rfl rfl ?_
          obtain ⟨s4, hg11, h⟩ := bn_e h
          refine aw_V1v (M2 := M_X7_triesBoth) dX7_findsFronts_99 lk_X7_163 mk_X7_triesBoth mv_X7_triesBoth ⟨by decide, by decide⟩ pM_0 ⟨_, _, rfl⟩ (Nat.le_of_ble_eq_true rfl) (c_X7_triesBoth  hg11) ?_
          refine aw_goto (tgt := 166) dX7_findsFronts_102 (by decide) ?_
          exact (t_X7_findsFronts_166 k22 hk22 x2 s4 _ h)
def f_X7_findsFronts_22 : Nat → Int → SS → Option SS
  | 0 => fun _ _ => none
  | n + 1 => g_X7_findsFronts_22 (f_X7_findsFronts_22  n)
theorem s_X7_findsFronts_22  : ∀ (n : Nat), ∀ (x2 : Int) (s0 : SS) (r : SS), f_X7_findsFronts_22 n x2 s0 = some r → AW LM M_X7_findsFronts (none, r) 22 [some (vR (some 0)), none, some (vI x2), none] [] s0 := by
  intro n
  induction n with
  | zero =>
    intro x2 s0 r h
    cases h
  | succ n ih =>
    intro x2 s0 r h
    exact t_X7_findsFronts_22 (f_X7_findsFronts_22  n) ih x2 s0 r h
def f_X7_findsFronts (x1 : Int) (s0 : SS) : Option SS :=
  sb (up s0 0 17 x1) fun s1 =>
  sb (up s1 0 15 0) fun s2 =>
  sb (up s2 0 16 0) fun s3 =>
  sb (wr ((s3 0 4) - 1)) fun y1 =>
  f_X7_findsFronts_22  FU y1 s3
set_option maxHeartbeats 4000000 in
theorem t_X7_findsFronts_0  : ∀ (x1 : Int) (s0 : SS) (r : SS), f_X7_findsFronts x1 s0 = some r → AW LM M_X7_findsFronts (none, r) 0 [some (vR (some 0)), some (vI x1), none, none] [] s0 := by
  intro x1 s0 r h
  unfold f_X7_findsFronts at h
  refine aw_aload_n dX7_findsFronts_0 rfl rfl ?_
  refine aw_iload_n dX7_findsFronts_1 rfl rfl ?_
  refine aw_put dX7_findsFronts_2 fk_X7_141 pM_0 rfl ft_7_17 (nar_int _) (fun s1 e => ?_)
  replace h := sb_e h e
  clear e
  refine aw_aload_n dX7_findsFronts_5 rfl rfl ?_
  refine aw_iconst dX7_findsFronts_6 ⟨by decide, by decide⟩ ?_
  refine aw_put dX7_findsFronts_7 fk_X7_138 pM_0 rfl ft_7_15 (nar_int _) (fun s2 e => ?_)
  replace h := sb_e h e
  clear e
  refine aw_aload_n dX7_findsFronts_10 rfl rfl ?_
  refine aw_iconst dX7_findsFronts_11 ⟨by decide, by decide⟩ ?_
  refine aw_put dX7_findsFronts_12 fk_X7_148 pM_0 rfl ft_7_16 (nar_int _) (fun s3 e => ?_)
  replace h := sb_e h e
  clear e
  refine aw_aload_n dX7_findsFronts_15 rfl rfl ?_
  refine aw_getI dX7_findsFronts_16 fk_X7_93 pM_0 rfl ?_
  refine aw_iconst dX7_findsFronts_19 ⟨by decide, by decide⟩ ?_
  refine aw_isub dX7_findsFronts_20 ?_
  refine aw_istore_n dX7_findsFronts_21 rfl (by decide) rfl (fun y1 e => ?_)
  replace h := sb_e h e
  clear e
  show AW _ _ _ 22 [some (vR (some 0)), some (vI x1), some (vI y1), none] _ _
  exact aw_less (ls' := [some (vR (some 0)), none, some (vI y1), none]) (⟨rfl, ⟨rfl, trivial⟩⟩) (s_X7_findsFronts_22   FU y1 s3 _ h)
theorem c_X7_findsFronts {x1 : Int} {s0 : SS} {s1 : SS} (h : f_X7_findsFronts x1 s0 = some s1) : CT LM M_X7_findsFronts [vR (some 0), vI x1] s0 (none, s1) :=
  ct_of (n := 2) (by decide) (Nat.le_of_ble_eq_true rfl) (t_X7_findsFronts_0 x1 s0  _ h)
def f_X7_frontsTold  (s0 : SS) : Option SS :=
  bn (f_X7_reads s0) fun s1 =>
  bn (f_X7_findsFronts (s1 0 2) s1) fun s2 =>
  some s2
set_option maxHeartbeats 4000000 in
theorem t_X7_frontsTold_0  : ∀ (s0 : SS) (r : SS), f_X7_frontsTold s0 = some r → AW LM M_X7_frontsTold (none, r) 0 [some (vR (some 0))] [] s0 := by
  intro s0 r h
  unfold f_X7_frontsTold at h
  refine aw_aload_n dX7_frontsTold_0 rfl rfl ?_
  obtain ⟨s1, hg1, h⟩ := bn_e h
  refine aw_V0v (M2 := M_X7_reads) dX7_frontsTold_1 lk_X7_112 mk_X7_reads mv_X7_reads ⟨by decide, by decide⟩ pM_0 ⟨_, _, rfl⟩ (Nat.le_of_ble_eq_true rfl) (c_X7_reads  hg1) ?_
  refine aw_aload_n dX7_frontsTold_4 rfl rfl ?_
  refine aw_aload_n dX7_frontsTold_5 rfl rfl ?_
  refine aw_getI dX7_frontsTold_6 fk_X7_13 pM_0 rfl ?_
  obtain ⟨s2, hg2, h⟩ := bn_e h
  refine aw_V1v (M2 := M_X7_findsFronts) dX7_frontsTold_9 lk_X7_169 mk_X7_findsFronts mv_X7_findsFronts ⟨by decide, by decide⟩ pM_0 ⟨_, _, rfl⟩ (Nat.le_of_ble_eq_true rfl) (c_X7_findsFronts  hg2) ?_
  obtain rfl := Option.some.inj h
  exact aw_vret dX7_frontsTold_12 rfl
theorem c_X7_frontsTold {s0 : SS} {s1 : SS} (h : f_X7_frontsTold s0 = some s1) : CT LM M_X7_frontsTold [vR (some 0)] s0 (none, s1) :=
  ct_of (n := 0) (by decide) (Nat.le_of_ble_eq_true rfl) (t_X7_frontsTold_0  s0  _ h)
def f_X7_isPart (x1 : Int) (s0 : SS) : Option (Int × SS) :=
  bn (f_X7_reads s0) fun s1 =>
  bn (f_X7_in x1 0 (wr ((s1 0 4) - 1))) fun y1 =>
  gb y1 <|
  some (y1, s1)
set_option maxHeartbeats 4000000 in
theorem t_X7_isPart_0  : ∀ (x1 : Int) (s0 : SS) (r : (Int × SS)), f_X7_isPart x1 s0 = some r → AW LM M_X7_isPart (some (vI r.1), r.2) 0 [some (vR (some 0)), some (vI x1)] [] s0 := by
  intro x1 s0 r h
  unfold f_X7_isPart at h
  refine aw_aload_n dX7_isPart_0 rfl rfl ?_
  obtain ⟨s1, hg1, h⟩ := bn_e h
  refine aw_V0v (M2 := M_X7_reads) dX7_isPart_1 lk_X7_112 mk_X7_reads mv_X7_reads ⟨by decide, by decide⟩ pM_0 ⟨_, _, rfl⟩ (Nat.le_of_ble_eq_true rfl) (c_X7_reads  hg1) ?_
  refine aw_iload_n dX7_isPart_4 rfl rfl ?_
  refine aw_iconst dX7_isPart_5 ⟨by decide, by decide⟩ ?_
  refine aw_aload_n dX7_isPart_6 rfl rfl ?_
  refine aw_getI dX7_isPart_7 fk_X7_93 pM_0 rfl ?_
  refine aw_iconst dX7_isPart_10 ⟨by decide, by decide⟩ ?_
  refine aw_isub dX7_isPart_11 ?_
  obtain ⟨y1, hg2, h⟩ := bn_e h
  refine aw_S3i (M2 := M_X7_in) dX7_isPart_12 lk_X7_75 mk_X7_in ms_X7_in ⟨by decide, by decide⟩ (Nat.le_of_ble_eq_true rfl) (c_X7_in  hg2) ?_
  obtain ⟨hg3, h⟩ := gb_e h
  obtain rfl := Option.some.inj h
  exact aw_zret dX7_isPart_15 rfl hg3
theorem c_X7_isPart {x1 : Int} {s0 : SS} {y : Int} {s1 : SS} (h : f_X7_isPart x1 s0 = some (y, s1)) : CT LM M_X7_isPart [vR (some 0), vI x1] s0 (some (vI y), s1) :=
  ct_of (n := 0) (by decide) (Nat.le_of_ble_eq_true rfl) (t_X7_isPart_0 x1 s0  _ h)
def f_X7_manyOf (x1 : Int) (s0 : SS) : Option (Int × SS) :=
  bn (f_X7_frontsTold s0) fun s1 =>
  gx x1 40 <|
  some (s1 10 x1.toNat, s1)
set_option maxHeartbeats 4000000 in
theorem t_X7_manyOf_0  : ∀ (x1 : Int) (s0 : SS) (r : (Int × SS)), f_X7_manyOf x1 s0 = some r → AW LM M_X7_manyOf (some (vI r.1), r.2) 0 [some (vR (some 0)), some (vI x1)] [] s0 := by
  intro x1 s0 r h
  unfold f_X7_manyOf at h
  refine aw_aload_n dX7_manyOf_0 rfl rfl ?_
  obtain ⟨s1, hg1, h⟩ := bn_e h
  refine aw_V0v (M2 := M_X7_frontsTold) dX7_manyOf_1 lk_X7_172 mk_X7_frontsTold mv_X7_frontsTold ⟨by decide, by decide⟩ pM_0 ⟨_, _, rfl⟩ (Nat.le_of_ble_eq_true rfl) (c_X7_frontsTold  hg1) ?_
  refine aw_aload_n dX7_manyOf_4 rfl rfl ?_
  refine aw_getR (t := 10) dX7_manyOf_5 fk_X7_41 pM_0 rfl ?_
  refine aw_iload_n dX7_manyOf_8 rfl rfl ?_
  obtain ⟨hg2, h⟩ := gx_e h
  refine aw_iald dX7_manyOf_9 aM_10 hg2 ?_
  obtain rfl := Option.some.inj h
  exact aw_iret dX7_manyOf_10 rfl
theorem c_X7_manyOf {x1 : Int} {s0 : SS} {y : Int} {s1 : SS} (h : f_X7_manyOf x1 s0 = some (y, s1)) : CT LM M_X7_manyOf [vR (some 0), vI x1] s0 (some (vI y), s1) :=
  ct_of (n := 0) (by decide) (Nat.le_of_ble_eq_true rfl) (t_X7_manyOf_0 x1 s0  _ h)
def g_X7_partOf_46 (z0 : Int) (s0 : SS) : Option (Int × SS) :=
  some (z0, s0)
set_option maxHeartbeats 4000000 in
theorem t_X7_partOf_46  : ∀ (z0 : Int) (s0 : SS) (r : (Int × SS)), g_X7_partOf_46 z0 s0 = some r → AW LM M_X7_partOf (some (vI r.1), r.2) 46 [none, none, none] [vI z0] s0 := by
  intro z0 s0 r h
  unfold g_X7_partOf_46 at h
  obtain rfl := Option.some.inj h
  exact aw_iret dX7_partOf_46 rfl
def f_X7_partOf (x1 : Int) (x2 : Int) (s0 : SS) : Option (Int × SS) :=
  if x2 = 0 then (
    gx x1 40 <|
    g_X7_partOf_46  (s0 4 x1.toNat) s0
  ) else (
    if x2 = 1 then (
      gx x1 40 <|
      g_X7_partOf_46  (s0 5 x1.toNat) s0
    ) else (
      if x2 = 2 then (
        cb (f_X7_manyOf x1 s0) fun y1 s1 =>
        g_X7_partOf_46  y1 s1
      ) else (
        gx x1 40 <|
        g_X7_partOf_46  (s0 8 x1.toNat) s0
      )
    )
  )
set_option maxHeartbeats 4000000 in
theorem t_X7_partOf_0  : ∀ (x1 : Int) (x2 : Int) (s0 : SS) (r : (Int × SS)), f_X7_partOf x1 x2 s0 = some r → AW LM M_X7_partOf (some (vI r.1), r.2) 0 [some (vR (some 0)), some (vI x1), some (vI x2)] [] s0 := by
  intro x1 x2 s0 r h
  unfold f_X7_partOf at h
  refine aw_iload_n dX7_partOf_0 rfl rfl ?_
  refine aw_if_ne (tgt := 13) dX7_partOf_1 (by decide) (fun hc => ?_) (fun hc => ?_)
  rotate_left
  · replace h := ip hc h
    refine aw_aload_n dX7_partOf_4 rfl rfl ?_
    refine aw_getR (t := 4) dX7_partOf_5 fk_X7_23 pM_0 rfl ?_
    refine aw_iload_n dX7_partOf_8 rfl rfl ?_
    obtain ⟨hg1, h⟩ := gx_e h
    refine aw_iald dX7_partOf_9 aM_4 hg1 ?_
    refine aw_goto (tgt := 46) dX7_partOf_10 (by decide) ?_
    exact aw_less (ls' := [none, none, none]) (trivial) (t_X7_partOf_46   (s0 4 x1.toNat) s0 _ h)
  · replace h := ic hc h
    refine aw_iload_n dX7_partOf_13 rfl rfl ?_
    refine aw_iconst dX7_partOf_14 ⟨by decide, by decide⟩ ?_
    refine aw_icmp_ne (tgt := 27) dX7_partOf_15 (by decide) (fun hc => ?_) (fun hc => ?_)
    rotate_left
    · replace h := ip hc h
      refine aw_aload_n dX7_partOf_18 rfl rfl ?_
      refine aw_getR (t := 5) dX7_partOf_19 fk_X7_26 pM_0 rfl ?_
      refine aw_iload_n dX7_partOf_22 rfl rfl ?_
      obtain ⟨hg2, h⟩ := gx_e h
      refine aw_iald dX7_partOf_23 aM_5 hg2 ?_
      refine aw_goto (tgt := 46) dX7_partOf_24 (by decide) ?_
      exact aw_less (ls' := [none, none, none]) (trivial) (t_X7_partOf_46   (s0 5 x1.toNat) s0 _ h)
    · replace h := ic hc h
      refine aw_iload_n dX7_partOf_27 rfl rfl ?_
      refine aw_iconst dX7_partOf_28 ⟨by decide, by decide⟩ ?_
      refine aw_icmp_ne (tgt := 40) dX7_partOf_29 (by decide) (fun hc => ?_) (fun hc => ?_)
      rotate_left
      · replace h := ip hc h
        refine aw_aload_n dX7_partOf_32 rfl rfl ?_
        refine aw_iload_n dX7_partOf_33 rfl rfl ?_
        obtain ⟨y1, s1, hg3, h⟩ := cb_e h
        refine aw_V1i (M2 := M_X7_manyOf) dX7_partOf_34 lk_X7_175 mk_X7_manyOf mv_X7_manyOf ⟨by decide, by decide⟩ pM_0 ⟨_, _, rfl⟩ (Nat.le_of_ble_eq_true rfl) (c_X7_manyOf  hg3) ?_
        refine aw_goto (tgt := 46) dX7_partOf_37 (by decide) ?_
        exact aw_less (ls' := [none, none, none]) (trivial) (t_X7_partOf_46   y1 s1 _ h)
      · replace h := ic hc h
        refine aw_aload_n dX7_partOf_40 rfl rfl ?_
        refine aw_getR (t := 8) dX7_partOf_41 fk_X7_35 pM_0 rfl ?_
        refine aw_iload_n dX7_partOf_44 rfl rfl ?_
        obtain ⟨hg4, h⟩ := gx_e h
        refine aw_iald dX7_partOf_45 aM_8 hg4 ?_
        exact aw_less (ls' := [none, none, none]) (trivial) (t_X7_partOf_46   (s0 8 x1.toNat) s0 _ h)
theorem c_X7_partOf {x1 : Int} {x2 : Int} {s0 : SS} {y : Int} {s1 : SS} (h : f_X7_partOf x1 x2 s0 = some (y, s1)) : CT LM M_X7_partOf [vR (some 0), vI x1, vI x2] s0 (some (vI y), s1) :=
  ct_of (n := 0) (by decide) (Nat.le_of_ble_eq_true rfl) (t_X7_partOf_0 x1 x2 s0  _ h)
def g_X7_part_28 (z0 : Int) (s0 : SS) : Option (Int × SS) :=
  some (z0, s0)
set_option maxHeartbeats 4000000 in
theorem t_X7_part_28  : ∀ (z0 : Int) (s0 : SS) (r : (Int × SS)), g_X7_part_28 z0 s0 = some r → AW LM M_X7_part (some (vI r.1), r.2) 28 [none, none, none] [vI z0] s0 := by
  intro z0 s0 r h
  unfold g_X7_part_28 at h
  obtain rfl := Option.some.inj h
  exact aw_iret dX7_part_28 rfl
def g_X7_part_26  (s0 : SS) : Option (Int × SS) :=
  g_X7_part_28  (-2) s0
set_option maxHeartbeats 4000000 in
theorem t_X7_part_26  : ∀ (s0 : SS) (r : (Int × SS)), g_X7_part_26 s0 = some r → AW LM M_X7_part (some (vI r.1), r.2) 26 [none, none, none] [] s0 := by
  intro s0 r h
  unfold g_X7_part_26 at h
  refine aw_bipush dX7_part_26 ⟨by decide, by decide⟩ (by decide) ?_
  exact (t_X7_part_28   (-2) s0 _ h)
def f_X7_part (x1 : Int) (x2 : Int) (s0 : SS) : Option (Int × SS) :=
  cb (f_X7_isPart x1 s0) fun y1 s1 =>
  if y1 = 0 then (
    g_X7_part_26  s1
  ) else (
    bn (f_X7_in x2 0 3) fun y2 =>
    if y2 = 0 then (
      g_X7_part_26  s1
    ) else (
      cb (f_X7_partOf x1 x2 s1) fun y3 s2 =>
      g_X7_part_28  y3 s2
    )
  )
set_option maxHeartbeats 4000000 in
theorem t_X7_part_0  : ∀ (x1 : Int) (x2 : Int) (s0 : SS) (r : (Int × SS)), f_X7_part x1 x2 s0 = some r → AW LM M_X7_part (some (vI r.1), r.2) 0 [some (vR (some 0)), some (vI x1), some (vI x2)] [] s0 := by
  intro x1 x2 s0 r h
  unfold f_X7_part at h
  refine aw_aload_n dX7_part_0 rfl rfl ?_
  refine aw_iload_n dX7_part_1 rfl rfl ?_
  obtain ⟨y1, s1, hg1, h⟩ := cb_e h
  refine aw_V1i (M2 := M_X7_isPart) dX7_part_2 lk_X7_178 mk_X7_isPart mv_X7_isPart ⟨by decide, by decide⟩ pM_0 ⟨_, _, rfl⟩ (Nat.le_of_ble_eq_true rfl) (c_X7_isPart  hg1) ?_
  refine aw_if_eq (tgt := 26) dX7_part_5 (by decide) (fun hc => ?_) (fun hc => ?_)
  · replace h := ip hc h
    exact aw_less (ls' := [none, none, none]) (trivial) (t_X7_part_26   s1 _ h)
  · replace h := ic hc h
    refine aw_iload_n dX7_part_8 rfl rfl ?_
    refine aw_iconst dX7_part_9 ⟨by decide, by decide⟩ ?_
    refine aw_iconst dX7_part_10 ⟨by decide, by decide⟩ ?_
    obtain ⟨y2, hg2, h⟩ := bn_e h
    refine aw_S3i (M2 := M_X7_in) dX7_part_11 lk_X7_75 mk_X7_in ms_X7_in ⟨by decide, by decide⟩ (Nat.le_of_ble_eq_true rfl) (c_X7_in  hg2) ?_
    refine aw_if_eq (tgt := 26) dX7_part_14 (by decide) (fun hc => ?_) (fun hc => ?_)
    · replace h := ip hc h
      exact aw_less (ls' := [none, none, none]) (trivial) (t_X7_part_26   s1 _ h)
    · replace h := ic hc h
      refine aw_aload_n dX7_part_17 rfl rfl ?_
      refine aw_iload_n dX7_part_18 rfl rfl ?_
      refine aw_iload_n dX7_part_19 rfl rfl ?_
      obtain ⟨y3, s2, hg3, h⟩ := cb_e h
      refine aw_V2i (M2 := M_X7_partOf) dX7_part_20 lk_X7_181 mk_X7_partOf mv_X7_partOf ⟨by decide, by decide⟩ pM_0 ⟨_, _, rfl⟩ (Nat.le_of_ble_eq_true rfl) (c_X7_partOf  hg3) ?_
      refine aw_goto (tgt := 28) dX7_part_23 (by decide) ?_
      exact aw_less (ls' := [none, none, none]) (trivial) (t_X7_part_28   y3 s2 _ h)
theorem c_X7_part {x1 : Int} {x2 : Int} {s0 : SS} {y : Int} {s1 : SS} (h : f_X7_part x1 x2 s0 = some (y, s1)) : CT LM M_X7_part [vR (some 0), vI x1, vI x2] s0 (some (vI y), s1) :=
  ct_of (n := 0) (by decide) (Nat.le_of_ble_eq_true rfl) (t_X7_part_0 x1 x2 s0  _ h)
def g_X7_tellOf_39 (z0 : Int) : Option Int :=
  some z0
set_option maxHeartbeats 4000000 in
theorem t_X7_tellOf_39  : ∀ (z0 : Int) (s0 : SS) (r : Int), g_X7_tellOf_39 z0 = some r → AW LM M_X7_tellOf (some (vI r), s0) 39 [none, none] [vI z0] s0 := by
  intro z0 s0 r h
  unfold g_X7_tellOf_39 at h
  obtain rfl := Option.some.inj h
  exact aw_iret dX7_tellOf_39 rfl
def f_X7_tellOf (x0 : Int) (x1 : Int) : Option Int :=
  if x1 = 0 then (
    bn (f_X7_lines x0) fun y1 =>
    g_X7_tellOf_39  y1
  ) else (
    if x1 = 1 then (
      bn (f_X7_last x0) fun y2 =>
      g_X7_tellOf_39  y2
    ) else (
      if x1 = 2 then (
        bn (f_X7_most x0) fun y3 =>
        g_X7_tellOf_39  y3
      ) else (
        bn (f_X7_wayOf x0) fun y4 =>
        g_X7_tellOf_39  y4
      )
    )
  )
set_option maxHeartbeats 4000000 in
theorem t_X7_tellOf_0  : ∀ (x0 : Int) (x1 : Int) (s0 : SS) (r : Int), f_X7_tellOf x0 x1 = some r → AW LM M_X7_tellOf (some (vI r), s0) 0 [some (vI x0), some (vI x1)] [] s0 := by
  intro x0 x1 s0 r h
  unfold f_X7_tellOf at h
  refine aw_iload_n dX7_tellOf_0 rfl rfl ?_
  refine aw_if_ne (tgt := 11) dX7_tellOf_1 (by decide) (fun hc => ?_) (fun hc => ?_)
  rotate_left
  · replace h := ip hc h
    refine aw_iload_n dX7_tellOf_4 rfl rfl ?_
    obtain ⟨y1, hg1, h⟩ := bn_e h
    refine aw_S1i (M2 := M_X7_lines) dX7_tellOf_5 lk_X7_121 mk_X7_lines ms_X7_lines ⟨by decide, by decide⟩ (Nat.le_of_ble_eq_true rfl) (c_X7_lines  hg1) ?_
    refine aw_goto (tgt := 39) dX7_tellOf_8 (by decide) ?_
    exact aw_less (ls' := [none, none]) (trivial) (t_X7_tellOf_39   y1 s0 _ h)
  · replace h := ic hc h
    refine aw_iload_n dX7_tellOf_11 rfl rfl ?_
    refine aw_iconst dX7_tellOf_12 ⟨by decide, by decide⟩ ?_
    refine aw_icmp_ne (tgt := 23) dX7_tellOf_13 (by decide) (fun hc => ?_) (fun hc => ?_)
    rotate_left
    · replace h := ip hc h
      refine aw_iload_n dX7_tellOf_16 rfl rfl ?_
      obtain ⟨y2, hg2, h⟩ := bn_e h
      refine aw_S1i (M2 := M_X7_last) dX7_tellOf_17 lk_X7_124 mk_X7_last ms_X7_last ⟨by decide, by decide⟩ (Nat.le_of_ble_eq_true rfl) (c_X7_last  hg2) ?_
      refine aw_goto (tgt := 39) dX7_tellOf_20 (by decide) ?_
      exact aw_less (ls' := [none, none]) (trivial) (t_X7_tellOf_39   y2 s0 _ h)
    · replace h := ic hc h
      refine aw_iload_n dX7_tellOf_23 rfl rfl ?_
      refine aw_iconst dX7_tellOf_24 ⟨by decide, by decide⟩ ?_
      refine aw_icmp_ne (tgt := 35) dX7_tellOf_25 (by decide) (fun hc => ?_) (fun hc => ?_)
      rotate_left
      · replace h := ip hc h
        refine aw_iload_n dX7_tellOf_28 rfl rfl ?_
        obtain ⟨y3, hg3, h⟩ := bn_e h
        refine aw_S1i (M2 := M_X7_most) dX7_tellOf_29 lk_X7_127 mk_X7_most ms_X7_most ⟨by decide, by decide⟩ (Nat.le_of_ble_eq_true rfl) (c_X7_most  hg3) ?_
        refine aw_goto (tgt := 39) dX7_tellOf_32 (by decide) ?_
        exact aw_less (ls' := [none, none]) (trivial) (t_X7_tellOf_39   y3 s0 _ h)
      · replace h := ic hc h
        refine aw_iload_n dX7_tellOf_35 rfl rfl ?_
        obtain ⟨y4, hg4, h⟩ := bn_e h
        refine aw_S1i (M2 := M_X7_wayOf) dX7_tellOf_36 lk_X7_118 mk_X7_wayOf ms_X7_wayOf ⟨by decide, by decide⟩ (Nat.le_of_ble_eq_true rfl) (c_X7_wayOf  hg4) ?_
        exact aw_less (ls' := [none, none]) (trivial) (t_X7_tellOf_39   y4 s0 _ h)
theorem c_X7_tellOf {x0 : Int} {x1 : Int} {s0 : SS} {y : Int} (h : f_X7_tellOf x0 x1 = some y) : CT LM M_X7_tellOf [vI x0, vI x1] s0 (some (vI y), s0) :=
  ct_of (n := 0) (by decide) (Nat.le_of_ble_eq_true rfl) (t_X7_tellOf_0 x0 x1 s0  _ h)
def g_X7_frontierOf_33 (z0 : Int) (s0 : SS) : Option (Int × SS) :=
  some (z0, s0)
set_option maxHeartbeats 4000000 in
theorem t_X7_frontierOf_33  : ∀ (z0 : Int) (s0 : SS) (r : (Int × SS)), g_X7_frontierOf_33 z0 s0 = some r → AW LM M_X7_frontierOf (some (vI r.1), r.2) 33 [none, none, none, none] [vI z0] s0 := by
  intro z0 s0 r h
  unfold g_X7_frontierOf_33 at h
  obtain rfl := Option.some.inj h
  exact aw_iret dX7_frontierOf_33 rfl
def f_X7_frontierOf (x1 : Int) (x2 : Int) (x3 : Int) (s0 : SS) : Option (Int × SS) :=
  bn (f_X7_frontsTold s0) fun s1 =>
  gx x1 40 <|
  if (s1 10 x1.toNat) ≤ x2 then (
    g_X7_frontierOf_33  (-1) s1
  ) else (
    gx (wr ((wr (64 * x1)) + x2)) 2560 <|
    bn (f_X7_tellOf (s1 9 (wr ((wr (64 * x1)) + x2)).toNat) x3) fun y1 =>
    g_X7_frontierOf_33  y1 s1
  )
set_option maxHeartbeats 4000000 in
theorem t_X7_frontierOf_0  : ∀ (x1 : Int) (x2 : Int) (x3 : Int) (s0 : SS) (r : (Int × SS)), f_X7_frontierOf x1 x2 x3 s0 = some r → AW LM M_X7_frontierOf (some (vI r.1), r.2) 0 [some (vR (some 0)), some (vI x1), some (vI x2), some (vI x3)] [] s0 := by
  intro x1 x2 x3 s0 r h
  unfold f_X7_frontierOf at h
  refine aw_aload_n dX7_frontierOf_0 rfl rfl ?_
  obtain ⟨s1, hg1, h⟩ := bn_e h
  refine aw_V0v (M2 := M_X7_frontsTold) dX7_frontierOf_1 lk_X7_172 mk_X7_frontsTold mv_X7_frontsTold ⟨by decide, by decide⟩ pM_0 ⟨_, _, rfl⟩ (Nat.le_of_ble_eq_true rfl) (c_X7_frontsTold  hg1) ?_
  refine aw_iload_n dX7_frontierOf_4 rfl rfl ?_
  refine aw_aload_n dX7_frontierOf_5 rfl rfl ?_
  refine aw_getR (t := 10) dX7_frontierOf_6 fk_X7_41 pM_0 rfl ?_
  refine aw_iload_n dX7_frontierOf_9 rfl rfl ?_
  obtain ⟨hg2, h⟩ := gx_e h
  refine aw_iald dX7_frontierOf_10 aM_10 hg2 ?_
  refine aw_icmp_ge (tgt := 32) dX7_frontierOf_11 (by decide) (fun hc => ?_) (fun hc => ?_)
  · replace h := ip hc h
    refine aw_iconst dX7_frontierOf_32 ⟨by decide, by decide⟩ ?_
    exact aw_less (ls' := [none, none, none, none]) (trivial) (t_X7_frontierOf_33   (-1) s1 _ h)
  · replace h := ic hc h
    refine aw_aload_n dX7_frontierOf_14 rfl rfl ?_
    refine aw_getR (t := 9) dX7_frontierOf_15 fk_X7_38 pM_0 rfl ?_
    refine aw_bipush dX7_frontierOf_18 ⟨by decide, by decide⟩ (by decide) ?_
    refine aw_iload_n dX7_frontierOf_20 rfl rfl ?_
    refine aw_imul dX7_frontierOf_21 ?_
    refine aw_iload_n dX7_frontierOf_22 rfl rfl ?_
    refine aw_iadd dX7_frontierOf_23 ?_
    obtain ⟨hg3, h⟩ := gx_e h
    refine aw_iald dX7_frontierOf_24 aM_9 hg3 ?_
    refine aw_iload_n dX7_frontierOf_25 rfl rfl ?_
    obtain ⟨y1, hg4, h⟩ := bn_e h
    refine aw_S2i (M2 := M_X7_tellOf) dX7_frontierOf_26 lk_X7_184 mk_X7_tellOf ms_X7_tellOf ⟨by decide, by decide⟩ (Nat.le_of_ble_eq_true rfl) (c_X7_tellOf  hg4) ?_
    refine aw_goto (tgt := 33) dX7_frontierOf_29 (by decide) ?_
    exact aw_less (ls' := [none, none, none, none]) (trivial) (t_X7_frontierOf_33   y1 s1 _ h)
theorem c_X7_frontierOf {x1 : Int} {x2 : Int} {x3 : Int} {s0 : SS} {y : Int} {s1 : SS} (h : f_X7_frontierOf x1 x2 x3 s0 = some (y, s1)) : CT LM M_X7_frontierOf [vR (some 0), vI x1, vI x2, vI x3] s0 (some (vI y), s1) :=
  ct_of (n := 0) (by decide) (Nat.le_of_ble_eq_true rfl) (t_X7_frontierOf_0 x1 x2 x3 s0  _ h)
def g_X7_frontier_39 (z0 : Int) (s0 : SS) : Option (Int × SS) :=
  some (z0, s0)
set_option maxHeartbeats 4000000 in
theorem t_X7_frontier_39  : ∀ (z0 : Int) (s0 : SS) (r : (Int × SS)), g_X7_frontier_39 z0 s0 = some r → AW LM M_X7_frontier (some (vI r.1), r.2) 39 [none, none, none, none] [vI z0] s0 := by
  intro z0 s0 r h
  unfold g_X7_frontier_39 at h
  obtain rfl := Option.some.inj h
  exact aw_iret dX7_frontier_39 rfl
def g_X7_frontier_37  (s0 : SS) : Option (Int × SS) :=
  g_X7_frontier_39  (-2) s0
set_option maxHeartbeats 4000000 in
theorem t_X7_frontier_37  : ∀ (s0 : SS) (r : (Int × SS)), g_X7_frontier_37 s0 = some r → AW LM M_X7_frontier (some (vI r.1), r.2) 37 [none, none, none, none] [] s0 := by
  intro s0 r h
  unfold g_X7_frontier_37 at h
  refine aw_bipush dX7_frontier_37 ⟨by decide, by decide⟩ (by decide) ?_
  exact (t_X7_frontier_39   (-2) s0 _ h)
def f_X7_frontier (x1 : Int) (x2 : Int) (x3 : Int) (s0 : SS) : Option (Int × SS) :=
  cb (f_X7_isPart x1 s0) fun y1 s1 =>
  if y1 = 0 then (
    g_X7_frontier_37  s1
  ) else (
    bn (f_X7_in x2 0 63) fun y2 =>
    if y2 = 0 then (
      g_X7_frontier_37  s1
    ) else (
      bn (f_X7_in x3 0 3) fun y3 =>
      if y3 = 0 then (
        g_X7_frontier_37  s1
      ) else (
        cb (f_X7_frontierOf x1 x2 x3 s1) fun y4 s2 =>
        g_X7_frontier_39  y4 s2
      )
    )
  )
set_option maxHeartbeats 4000000 in
theorem t_X7_frontier_0  : ∀ (x1 : Int) (x2 : Int) (x3 : Int) (s0 : SS) (r : (Int × SS)), f_X7_frontier x1 x2 x3 s0 = some r → AW LM M_X7_frontier (some (vI r.1), r.2) 0 [some (vR (some 0)), some (vI x1), some (vI x2), some (vI x3)] [] s0 := by
  intro x1 x2 x3 s0 r h
  unfold f_X7_frontier at h
  refine aw_aload_n dX7_frontier_0 rfl rfl ?_
  refine aw_iload_n dX7_frontier_1 rfl rfl ?_
  obtain ⟨y1, s1, hg1, h⟩ := cb_e h
  refine aw_V1i (M2 := M_X7_isPart) dX7_frontier_2 lk_X7_178 mk_X7_isPart mv_X7_isPart ⟨by decide, by decide⟩ pM_0 ⟨_, _, rfl⟩ (Nat.le_of_ble_eq_true rfl) (c_X7_isPart  hg1) ?_
  refine aw_if_eq (tgt := 37) dX7_frontier_5 (by decide) (fun hc => ?_) (fun hc => ?_)
  · replace h := ip hc h
    exact aw_less (ls' := [none, none, none, none]) (trivial) (t_X7_frontier_37   s1 _ h)
  · replace h := ic hc h
    refine aw_iload_n dX7_frontier_8 rfl rfl ?_
    refine aw_iconst dX7_frontier_9 ⟨by decide, by decide⟩ ?_
    refine aw_bipush dX7_frontier_10 ⟨by decide, by decide⟩ (by decide) ?_
    obtain ⟨y2, hg2, h⟩ := bn_e h
    refine aw_S3i (M2 := M_X7_in) dX7_frontier_12 lk_X7_75 mk_X7_in ms_X7_in ⟨by decide, by decide⟩ (Nat.le_of_ble_eq_true rfl) (c_X7_in  hg2) ?_
    refine aw_if_eq (tgt := 37) dX7_frontier_15 (by decide) (fun hc => ?_) (fun hc => ?_)
    · replace h := ip hc h
      exact aw_less (ls' := [none, none, none, none]) (trivial) (t_X7_frontier_37   s1 _ h)
    · replace h := ic hc h
      refine aw_iload_n dX7_frontier_18 rfl rfl ?_
      refine aw_iconst dX7_frontier_19 ⟨by decide, by decide⟩ ?_
      refine aw_iconst dX7_frontier_20 ⟨by decide, by decide⟩ ?_
      obtain ⟨y3, hg3, h⟩ := bn_e h
      refine aw_S3i (M2 := M_X7_in) dX7_frontier_21 lk_X7_75 mk_X7_in ms_X7_in ⟨by decide, by decide⟩ (Nat.le_of_ble_eq_true rfl) (c_X7_in  hg3) ?_
      refine aw_if_eq (tgt := 37) dX7_frontier_24 (by decide) (fun hc => ?_) (fun hc => ?_)
      · replace h := ip hc h
        exact aw_less (ls' := [none, none, none, none]) (trivial) (t_X7_frontier_37   s1 _ h)
      · replace h := ic hc h
        refine aw_aload_n dX7_frontier_27 rfl rfl ?_
        refine aw_iload_n dX7_frontier_28 rfl rfl ?_
        refine aw_iload_n dX7_frontier_29 rfl rfl ?_
        refine aw_iload_n dX7_frontier_30 rfl rfl ?_
        obtain ⟨y4, s2, hg4, h⟩ := cb_e h
        refine aw_V3i (M2 := M_X7_frontierOf) dX7_frontier_31 lk_X7_187 mk_X7_frontierOf mv_X7_frontierOf ⟨by decide, by decide⟩ pM_0 ⟨_, _, rfl⟩ (Nat.le_of_ble_eq_true rfl) (c_X7_frontierOf  hg4) ?_
        refine aw_goto (tgt := 39) dX7_frontier_34 (by decide) ?_
        exact aw_less (ls' := [none, none, none, none]) (trivial) (t_X7_frontier_39   y4 s2 _ h)
theorem c_X7_frontier {x1 : Int} {x2 : Int} {x3 : Int} {s0 : SS} {y : Int} {s1 : SS} (h : f_X7_frontier x1 x2 x3 s0 = some (y, s1)) : CT LM M_X7_frontier [vR (some 0), vI x1, vI x2, vI x3] s0 (some (vI y), s1) :=
  ct_of (n := 0) (by decide) (Nat.le_of_ble_eq_true rfl) (t_X7_frontier_0 x1 x2 x3 s0  _ h)
def g_X7_triedOf_19 (z0 : Int) (s0 : SS) : Option (Int × SS) :=
  some (z0, s0)
set_option maxHeartbeats 4000000 in
theorem t_X7_triedOf_19  : ∀ (z0 : Int) (s0 : SS) (r : (Int × SS)), g_X7_triedOf_19 z0 s0 = some r → AW LM M_X7_triedOf (some (vI r.1), r.2) 19 [none, none] [vI z0] s0 := by
  intro z0 s0 r h
  unfold g_X7_triedOf_19 at h
  obtain rfl := Option.some.inj h
  exact aw_iret dX7_triedOf_19 rfl
def f_X7_triedOf (x1 : Int) (s0 : SS) : Option (Int × SS) :=
  bn (f_X7_frontsTold s0) fun s1 =>
  if x1 = 0 then (
    g_X7_triedOf_19  (s1 0 15) s1
  ) else (
    g_X7_triedOf_19  (s1 0 16) s1
  )
set_option maxHeartbeats 4000000 in
theorem t_X7_triedOf_0  : ∀ (x1 : Int) (s0 : SS) (r : (Int × SS)), f_X7_triedOf x1 s0 = some r → AW LM M_X7_triedOf (some (vI r.1), r.2) 0 [some (vR (some 0)), some (vI x1)] [] s0 := by
  intro x1 s0 r h
  unfold f_X7_triedOf at h
  refine aw_aload_n dX7_triedOf_0 rfl rfl ?_
  obtain ⟨s1, hg1, h⟩ := bn_e h
  refine aw_V0v (M2 := M_X7_frontsTold) dX7_triedOf_1 lk_X7_172 mk_X7_frontsTold mv_X7_frontsTold ⟨by decide, by decide⟩ pM_0 ⟨_, _, rfl⟩ (Nat.le_of_ble_eq_true rfl) (c_X7_frontsTold  hg1) ?_
  refine aw_iload_n dX7_triedOf_4 rfl rfl ?_
  refine aw_if_ne (tgt := 15) dX7_triedOf_5 (by decide) (fun hc => ?_) (fun hc => ?_)
  rotate_left
  · replace h := ip hc h
    refine aw_aload_n dX7_triedOf_8 rfl rfl ?_
    refine aw_getI dX7_triedOf_9 fk_X7_138 pM_0 rfl ?_
    refine aw_goto (tgt := 19) dX7_triedOf_12 (by decide) ?_
    exact aw_less (ls' := [none, none]) (trivial) (t_X7_triedOf_19   (s1 0 15) s1 _ h)
  · replace h := ic hc h
    refine aw_aload_n dX7_triedOf_15 rfl rfl ?_
    refine aw_getI dX7_triedOf_16 fk_X7_148 pM_0 rfl ?_
    exact aw_less (ls' := [none, none]) (trivial) (t_X7_triedOf_19   (s1 0 16) s1 _ h)
theorem c_X7_triedOf {x1 : Int} {s0 : SS} {y : Int} {s1 : SS} (h : f_X7_triedOf x1 s0 = some (y, s1)) : CT LM M_X7_triedOf [vR (some 0), vI x1] s0 (some (vI y), s1) :=
  ct_of (n := 0) (by decide) (Nat.le_of_ble_eq_true rfl) (t_X7_triedOf_0 x1 s0  _ h)
def g_X7_tried_19 (z0 : Int) (s0 : SS) : Option (Int × SS) :=
  some (z0, s0)
set_option maxHeartbeats 4000000 in
theorem t_X7_tried_19  : ∀ (z0 : Int) (s0 : SS) (r : (Int × SS)), g_X7_tried_19 z0 s0 = some r → AW LM M_X7_tried (some (vI r.1), r.2) 19 [none, none] [vI z0] s0 := by
  intro z0 s0 r h
  unfold g_X7_tried_19 at h
  obtain rfl := Option.some.inj h
  exact aw_iret dX7_tried_19 rfl
def f_X7_tried (x1 : Int) (s0 : SS) : Option (Int × SS) :=
  bn (f_X7_in x1 0 1) fun y1 =>
  if y1 = 0 then (
    g_X7_tried_19  (-2) s0
  ) else (
    cb (f_X7_triedOf x1 s0) fun y2 s1 =>
    g_X7_tried_19  y2 s1
  )
set_option maxHeartbeats 4000000 in
theorem t_X7_tried_0  : ∀ (x1 : Int) (s0 : SS) (r : (Int × SS)), f_X7_tried x1 s0 = some r → AW LM M_X7_tried (some (vI r.1), r.2) 0 [some (vR (some 0)), some (vI x1)] [] s0 := by
  intro x1 s0 r h
  unfold f_X7_tried at h
  refine aw_iload_n dX7_tried_0 rfl rfl ?_
  refine aw_iconst dX7_tried_1 ⟨by decide, by decide⟩ ?_
  refine aw_iconst dX7_tried_2 ⟨by decide, by decide⟩ ?_
  obtain ⟨y1, hg1, h⟩ := bn_e h
  refine aw_S3i (M2 := M_X7_in) dX7_tried_3 lk_X7_75 mk_X7_in ms_X7_in ⟨by decide, by decide⟩ (Nat.le_of_ble_eq_true rfl) (c_X7_in  hg1) ?_
  refine aw_if_eq (tgt := 17) dX7_tried_6 (by decide) (fun hc => ?_) (fun hc => ?_)
  · replace h := ip hc h
    refine aw_bipush dX7_tried_17 ⟨by decide, by decide⟩ (by decide) ?_
    exact aw_less (ls' := [none, none]) (trivial) (t_X7_tried_19   (-2) s0 _ h)
  · replace h := ic hc h
    refine aw_aload_n dX7_tried_9 rfl rfl ?_
    refine aw_iload_n dX7_tried_10 rfl rfl ?_
    obtain ⟨y2, s1, hg2, h⟩ := cb_e h
    refine aw_V1i (M2 := M_X7_triedOf) dX7_tried_11 lk_X7_190 mk_X7_triedOf mv_X7_triedOf ⟨by decide, by decide⟩ pM_0 ⟨_, _, rfl⟩ (Nat.le_of_ble_eq_true rfl) (c_X7_triedOf  hg2) ?_
    refine aw_goto (tgt := 19) dX7_tried_14 (by decide) ?_
    exact aw_less (ls' := [none, none]) (trivial) (t_X7_tried_19   y2 s1 _ h)
theorem c_X7_tried {x1 : Int} {s0 : SS} {y : Int} {s1 : SS} (h : f_X7_tried x1 s0 = some (y, s1)) : CT LM M_X7_tried [vR (some 0), vI x1] s0 (some (vI y), s1) :=
  ct_of (n := 0) (by decide) (Nat.le_of_ble_eq_true rfl) (t_X7_tried_0 x1 s0  _ h)
