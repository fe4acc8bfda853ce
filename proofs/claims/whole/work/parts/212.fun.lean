def g_X3_noneGreater_26  (s0 : SS) : Option Int :=
  some 0
set_option maxHeartbeats 4000000 in
theorem t_X3_noneGreater_26  : ∀ (s0 : SS) (r : Int), g_X3_noneGreater_26 s0 = some r → AW LC M_X3_noneGreater (some (vI r), s0) 26 [none, none, none] [] s0 := by
  intro s0 r h
  unfold g_X3_noneGreater_26 at h
  refine aw_iconst dX3_noneGreater_26 ⟨by decide, by decide⟩ ?_
  obtain rfl := Option.some.inj h
  exact aw_zret dX3_noneGreater_27 rfl (Or.inl rfl)
def g_X3_noneGreater_78 (z0 : Int) (s0 : SS) : Option Int :=
  gb z0 <|
  some z0
set_option maxHeartbeats 4000000 in
theorem t_X3_noneGreater_78  : ∀ (z0 : Int) (s0 : SS) (r : Int), g_X3_noneGreater_78 z0 s0 = some r → AW LC M_X3_noneGreater (some (vI r), s0) 78 [none, none, none] [vI z0] s0 := by
  intro z0 s0 r h
  unfold g_X3_noneGreater_78 at h
  obtain ⟨hg1, h⟩ := gb_e h
  obtain rfl := Option.some.inj h
  exact aw_zret dX3_noneGreater_78 rfl hg1
def g_X3_noneGreater_77  (s0 : SS) : Option Int :=
  g_X3_noneGreater_78  0 s0
set_option maxHeartbeats 4000000 in
theorem t_X3_noneGreater_77  : ∀ (s0 : SS) (r : Int), g_X3_noneGreater_77 s0 = some r → AW LC M_X3_noneGreater (some (vI r), s0) 77 [none, none, none] [] s0 := by
  intro s0 r h
  unfold g_X3_noneGreater_77 at h
  refine aw_iconst dX3_noneGreater_77 ⟨by decide, by decide⟩ ?_
  exact (t_X3_noneGreater_78   0 s0 _ h)
def f_X3_noneGreater (q : Nat) (x1 : Int) (x2 : Int) (s0 : SS) : Option Int :=
  if x1 < 0 then (
    g_X3_noneGreater_26  s0
  ) else (
    if ((shl q : Int)) ≤ x1 then (
      g_X3_noneGreater_26  s0
    ) else (
      if x2 < 0 then (
        g_X3_noneGreater_26  s0
      ) else (
        if x2 < ((shl q : Int)) then (
          gx x1 (shl q) <|
          gx x2 (shl q) <|
          if (s0 (q + 1 + 0) x2.toNat) < (s0 (q + 1 + 0) x1.toNat) then (
            g_X3_noneGreater_77  s0
          ) else (
            gx x1 (shl q) <|
            gx x2 (shl q) <|
            if (s0 (q + 1 + 1) x2.toNat) < (s0 (q + 1 + 1) x1.toNat) then (
              g_X3_noneGreater_77  s0
            ) else (
              gx x1 (shl q) <|
              gx x2 (shl q) <|
              if (s0 (q + 1 + 2) x2.toNat) < (s0 (q + 1 + 2) x1.toNat) then (
                g_X3_noneGreater_77  s0
              ) else (
                g_X3_noneGreater_78  1 s0
              )
            )
          )
        ) else (
          g_X3_noneGreater_26  s0
        )
      )
    )
  )
set_option maxHeartbeats 4000000 in
theorem t_X3_noneGreater_0  : ∀ (q : Nat) (x1 : Int) (x2 : Int) (s0 : SS) (hq : PL LC q 3) (r : Int), f_X3_noneGreater q x1 x2 s0 = some r → AW LC M_X3_noneGreater (some (vI r), s0) 0 [some (vR (some q)), some (vI x1), some (vI x2)] [] s0 := by
  intro q x1 x2 s0 hq r h
  unfold f_X3_noneGreater at h
  refine aw_iload_n dX3_noneGreater_0 rfl rfl ?_
  refine aw_if_lt (tgt := 26) dX3_noneGreater_1 (by decide) (fun hc => ?_) (fun hc => ?_)
  · replace h := ip hc h
    exact aw_less (ls' := [none, none, none]) (trivial) (t_X3_noneGreater_26   s0 _ h)
  · replace h := ic hc h
    refine aw_iload_n dX3_noneGreater_4 rfl rfl ?_
    refine aw_aload_n dX3_noneGreater_5 rfl rfl ?_
    refine aw_getR dX3_noneGreater_6 fk_X3_15 hq (sh_r hq (by decide)) ?_
    refine aw_alen dX3_noneGreater_9 (sh_a hq (k := 0) (by decide)) (by decide) (sh_l hq) ?_
    refine aw_icmp_ge (tgt := 26) dX3_noneGreater_10 (by decide) (fun hc => ?_) (fun hc => ?_)
    · replace h := ip hc h
      exact aw_less (ls' := [none, none, none]) (trivial) (t_X3_noneGreater_26   s0 _ h)
    · replace h := ic hc h
      refine aw_iload_n dX3_noneGreater_13 rfl rfl ?_
      refine aw_if_lt (tgt := 26) dX3_noneGreater_14 (by decide) (fun hc => ?_) (fun hc => ?_)
      · replace h := ip hc h
        exact aw_less (ls' := [none, none, none]) (trivial) (t_X3_noneGreater_26   s0 _ h)
      · replace h := ic hc h
        refine aw_iload_n dX3_noneGreater_17 rfl rfl ?_
        refine aw_aload_n dX3_noneGreater_18 rfl rfl ?_
        refine aw_getR dX3_noneGreater_19 fk_X3_15 hq (sh_r hq (by decide)) ?_
        refine aw_alen dX3_noneGreater_22 (sh_a hq (k := 0) (by decide)) (by decide) (sh_l hq) ?_
        refine aw_icmp_lt (tgt := 28) dX3_noneGreater_23 (by decide) (fun hc => ?_) (fun hc => ?_)
        · replace h := ip hc h
          refine aw_aload_n dX3_noneGreater_28 rfl rfl ?_
          refine aw_getR dX3_noneGreater_29 fk_X3_15 hq (sh_r hq (by decide)) ?_
          refine aw_iload_n dX3_noneGreater_32 rfl rfl ?_
          obtain ⟨hg1, h⟩ := gx_e h
          refine aw_iald dX3_noneGreater_33 (sh_a hq (k := 0) (by decide)) hg1 ?_
          refine aw_aload_n dX3_noneGreater_34 rfl rfl ?_
          refine aw_getR dX3_noneGreater_35 fk_X3_15 hq (sh_r hq (by decide)) ?_
          refine aw_iload_n dX3_noneGreater_38 rfl rfl ?_
          obtain ⟨hg2, h⟩ := gx_e h
          refine aw_iald dX3_noneGreater_39 (sh_a hq (k := 0) (by decide)) hg2 ?_
          refine aw_icmp_gt (tgt := 77) dX3_noneGreater_40 (by decide) (fun hc => ?_) (fun hc => ?_)
          · replace h := ip hc h
            exact aw_less (ls' := [none, none, none]) (trivial) (t_X3_noneGreater_77   s0 _ h)
          · replace h := ic hc h
            refine aw_aload_n dX3_noneGreater_43 rfl rfl ?_
            refine aw_getR dX3_noneGreater_44 fk_X3_21 hq (sh_r hq (by decide)) ?_
            refine aw_iload_n dX3_noneGreater_47 rfl rfl ?_
            obtain ⟨hg3, h⟩ := gx_e h
            refine aw_iald dX3_noneGreater_48 (sh_a hq (k := 1) (by decide)) hg3 ?_
            refine aw_aload_n dX3_noneGreater_49 rfl rfl ?_
            refine aw_getR dX3_noneGreater_50 fk_X3_21 hq (sh_r hq (by decide)) ?_
            refine aw_iload_n dX3_noneGreater_53 rfl rfl ?_
            obtain ⟨hg4, h⟩ := gx_e h
            refine aw_iald dX3_noneGreater_54 (sh_a hq (k := 1) (by decide)) hg4 ?_
            refine aw_icmp_gt (tgt := 77) dX3_noneGreater_55 (by decide) (fun hc => ?_) (fun hc => ?_)
            · replace h := ip hc h
              exact aw_less (ls' := [none, none, none]) (trivial) (t_X3_noneGreater_77   s0 _ h)
            · replace h := ic hc h
              refine aw_aload_n dX3_noneGreater_58 rfl rfl ?_
              refine aw_getR dX3_noneGreater_59 fk_X3_24 hq (sh_r hq (by decide)) ?_
              refine aw_iload_n dX3_noneGreater_62 rfl rfl ?_
              obtain ⟨hg5, h⟩ := gx_e h
              refine aw_iald dX3_noneGreater_63 (sh_a hq (k := 2) (by decide)) hg5 ?_
              refine aw_aload_n dX3_noneGreater_64 rfl rfl ?_
              refine aw_getR dX3_noneGreater_65 fk_X3_24 hq (sh_r hq (by decide)) ?_
              refine aw_iload_n dX3_noneGreater_68 rfl rfl ?_
              obtain ⟨hg6, h⟩ := gx_e h
              refine aw_iald dX3_noneGreater_69 (sh_a hq (k := 2) (by decide)) hg6 ?_
              refine aw_icmp_gt (tgt := 77) dX3_noneGreater_70 (by decide) (fun hc => ?_) (fun hc => ?_)
              · replace h := ip hc h
                exact aw_less (ls' := [none, none, none]) (trivial) (t_X3_noneGreater_77   s0 _ h)
              · replace h := ic hc h
                refine aw_iconst dX3_noneGreater_73 ⟨by decide, by decide⟩ ?_
                refine aw_goto (tgt := 78) dX3_noneGreater_74 (by decide) ?_
                exact aw_less (ls' := [none, none, none]) (trivial) (t_X3_noneGreater_78   1 s0 _ h)
        · replace h := ic hc h
          exact aw_less (ls' := [none, none, none]) (trivial) (t_X3_noneGreater_26   s0 _ h)
theorem c_X3_noneGreater {q : Nat} {x1 : Int} {x2 : Int} {s0 : SS} {y : Int} (hq : PL LC q 3) (h : f_X3_noneGreater q x1 x2 s0 = some y) : CT LC M_X3_noneGreater [vR (some q), vI x1, vI x2] s0 (some (vI y), s0) :=
  ct_of (n := 0) (by decide) (Nat.le_of_ble_eq_true rfl) (t_X3_noneGreater_0 q x1 x2 s0 hq _ h)
def g_X1_tryLast_167 (x1 : Int) (x3 : Int) (x4 : Int) (x6 : Int) (s0 : SS) : Option SS :=
  bn (f_X3_setLike 11 x6 x4 0 s0) fun s1 =>
  gx x1 40 <|
  sb (up s1 16 x1.toNat (wr ((wr (x6 + 1)) - x3))) fun s2 =>
  some s2
set_option maxHeartbeats 4000000 in
theorem t_X1_tryLast_167  : ∀ (x1 : Int) (x3 : Int) (x4 : Int) (x6 : Int) (s0 : SS) (r : SS), g_X1_tryLast_167 x1 x3 x4 x6 s0 = some r → AW LC M_X1_tryLast (none, r) 167 [some (vR (some 10)), some (vI x1), none, some (vI x3), some (vI x4), none, some (vI x6), none] [] s0 := by
  intro x1 x3 x4 x6 s0 r h
  unfold g_X1_tryLast_167 at h
  refine aw_aload_n dX1_tryLast_167 rfl rfl ?_
  refine aw_getR (t := 11) dX1_tryLast_168 fk_X1_14 pC_10 rfl ?_
  refine aw_iload dX1_tryLast_171 rfl ?_
  refine aw_iload dX1_tryLast_173 rfl ?_
  refine aw_iconst dX1_tryLast_175 ⟨by decide, by decide⟩ ?_
  obtain ⟨s1, hg1, h⟩ := bn_e h
  refine aw_V3v (M2 := M_X3_setLike) dX1_tryLast_176 lk_X1_79 mk_X3_setLike mv_X3_setLike ⟨by decide, by decide⟩ pC_11 ⟨_, _, rfl⟩ (Nat.le_of_ble_eq_true rfl) (c_X3_setLike pC_11 hg1) ?_
  refine aw_aload_n dX1_tryLast_179 rfl rfl ?_
  refine aw_getR (t := 16) dX1_tryLast_180 fk_X1_20 pC_10 rfl ?_
  refine aw_iload_n dX1_tryLast_183 rfl rfl ?_
  refine aw_iload dX1_tryLast_184 rfl ?_
  refine aw_iconst dX1_tryLast_186 ⟨by decide, by decide⟩ ?_
  refine aw_iadd dX1_tryLast_187 ?_
  refine aw_iload_n dX1_tryLast_188 rfl rfl ?_
  refine aw_isub dX1_tryLast_189 ?_
  obtain ⟨hg2, h⟩ := gx_e h
  refine aw_iast dX1_tryLast_190 aC_16 hg2 (fun s2 e => ?_)
  replace h := sb_e h e
  clear e
  obtain rfl := Option.some.inj h
  exact aw_vret dX1_tryLast_191 rfl
def g_X1_tryLast_161 (k112 : Int → Int → Int → Int → Int → SS → Option SS) (x1 : Int) (x3 : Int) (x4 : Int) (x6 : Int) (x7 : Int) (s0 : SS) : Option SS :=
  sb (wr (x7 + 1)) fun y1 =>
  k112 x1 x3 x4 x6 y1 s0
set_option maxHeartbeats 4000000 in
theorem t_X1_tryLast_161 (k112 : Int → Int → Int → Int → Int → SS → Option SS) (hk112 : ∀ (x1 : Int) (x3 : Int) (x4 : Int) (x6 : Int) (x7 : Int) (s0 : SS) (r : SS), k112 x1 x3 x4 x6 x7 s0 = some r → AW LC M_X1_tryLast (none, r) 112 [some (vR (some 10)), some (vI x1), none, some (vI x3), some (vI x4), none, some (vI x6), some (vI x7)] [] s0) : ∀ (x1 : Int) (x3 : Int) (x4 : Int) (x6 : Int) (x7 : Int) (s0 : SS) (r : SS), g_X1_tryLast_161 k112 x1 x3 x4 x6 x7 s0 = some r → AW LC M_X1_tryLast (none, r) 161 [some (vR (some 10)), some (vI x1), none, some (vI x3), some (vI x4), none, some (vI x6), some (vI x7)] [] s0 := by
  intro x1 x3 x4 x6 x7 s0 r h
  unfold g_X1_tryLast_161 at h
  refine aw_iinc dX1_tryLast_161 rfl (by decide) rfl (fun y1 e => ?_)
  replace h := sb_e h e
  clear e
  show AW _ _ _ 164 [some (vR (some 10)), some (vI x1), none, some (vI x3), some (vI x4), none, some (vI x6), some (vI y1)] _ _
  refine aw_goto (tgt := 112) dX1_tryLast_164 (by decide) ?_
  exact (hk112 x1 x3 x4 x6 y1 s0 _ h)
def g_X1_tryLast_112 (k112 : Int → Int → Int → Int → Int → SS → Option SS) (x1 : Int) (x3 : Int) (x4 : Int) (x6 : Int) (x7 : Int) (s0 : SS) : Option SS :=
  if x4 ≤ x7 then (
    g_X1_tryLast_167  x1 x3 x4 x6 s0
  ) else (
    bn (f_X3_noneGreater 11 x4 x7 s0) fun y1 =>
    if y1 = 0 then (
      bn (f_X3_setLike 11 x6 x7 0 s0) fun s1 =>
      sb (wr (x6 + 1)) fun y2 =>
      g_X1_tryLast_161 k112 x1 x3 x4 y2 x7 s1
    ) else (
      sb (up s0 10 3 (wr ((s0 10 3) + 1))) fun s2 =>
      g_X1_tryLast_161 k112 x1 x3 x4 x6 x7 s2
    )
  )
set_option maxHeartbeats 4000000 in
theorem t_X1_tryLast_112 (k112 : Int → Int → Int → Int → Int → SS → Option SS) (hk112 : ∀ (x1 : Int) (x3 : Int) (x4 : Int) (x6 : Int) (x7 : Int) (s0 : SS) (r : SS), k112 x1 x3 x4 x6 x7 s0 = some r → AW LC M_X1_tryLast (none, r) 112 [some (vR (some 10)), some (vI x1), none, some (vI x3), some (vI x4), none, some (vI x6), some (vI x7)] [] s0) : ∀ (x1 : Int) (x3 : Int) (x4 : Int) (x6 : Int) (x7 : Int) (s0 : SS) (r : SS), g_X1_tryLast_112 k112 x1 x3 x4 x6 x7 s0 = some r → AW LC M_X1_tryLast (none, r) 112 [some (vR (some 10)), some (vI x1), none, some (vI x3), some (vI x4), none, some (vI x6), some (vI x7)] [] s0 := by
  intro x1 x3 x4 x6 x7 s0 r h
  unfold g_X1_tryLast_112 at h
  refine aw_iload dX1_tryLast_112 rfl ?_
  refine aw_iload dX1_tryLast_114 rfl ?_
  refine aw_icmp_ge (tgt := 167) dX1_tryLast_116 (by decide) (fun hc => ?_) (fun hc => ?_)
  · replace h := ip hc h
    exact aw_less (ls' := [some (vR (some 10)), some (vI x1), none, some (vI x3), some (vI x4), none, some (vI x6), none]) (⟨rfl, ⟨rfl, ⟨rfl, ⟨rfl, ⟨rfl, trivial⟩⟩⟩⟩⟩) (t_X1_tryLast_167   x1 x3 x4 x6 s0 _ h)
  · replace h := ic hc h
    refine aw_aload_n dX1_tryLast_119 rfl rfl ?_
    refine aw_getR (t := 11) dX1_tryLast_120 fk_X1_14 pC_10 rfl ?_
    refine aw_iload dX1_tryLast_123 rfl ?_
    refine aw_iload dX1_tryLast_125 rfl ?_
    obtain ⟨y1, hg1, h⟩ := bn_e h
    refine aw_V2i (M2 := M_X3_noneGreater) dX1_tryLast_127 lk_X1_97 mk_X3_noneGreater mv_X3_noneGreater ⟨by decide, by decide⟩ pC_11 ⟨_, _, rfl⟩ (Nat.le_of_ble_eq_true rfl) (c_X3_noneGreater pC_11 hg1) ?_
    refine aw_if_eq (tgt := 146) dX1_tryLast_130 (by decide) (fun hc => ?_) (fun hc => ?_)
    · replace h := ip hc h
      refine aw_aload_n dX1_tryLast_146 rfl rfl ?_
      refine aw_getR (t := 11) dX1_tryLast_147 fk_X1_14 pC_10 rfl ?_
      refine aw_iload dX1_tryLast_150 rfl ?_
      refine aw_iload dX1_tryLast_152 rfl ?_
      refine aw_iconst dX1_tryLast_154 ⟨by decide, by decide⟩ ?_
      obtain ⟨s1, hg2, h⟩ := bn_e h
      refine aw_V3v (M2 := M_X3_setLike) dX1_tryLast_155 lk_X1_79 mk_X3_setLike mv_X3_setLike ⟨by decide, by decide⟩ pC_11 ⟨_, _, rfl⟩ (Nat.le_of_ble_eq_true rfl) (c_X3_setLike pC_11 hg2) ?_
      refine aw_iinc dX1_tryLast_158 rfl (by decide) rfl (fun y2 e => ?_)
      replace h := sb_e h e
      clear e
      show AW _ _ _ 161 [some (vR (some 10)), some (vI x1), none, some (vI x3), some (vI x4), none, some (vI y2), some (vI x7)] _ _
      exact (t_X1_tryLast_161 k112 hk112 x1 x3 x4 y2 x7 s1 _ h)
    · replace h := ic hc h
      refine aw_aload_n dX1_tryLast_133 rfl rfl ?_
      refine aw_dup dX1_tryLast_134 rfl ?_
      refine aw_getI dX1_tryLast_135 fk_X1_28 pC_10 rfl ?_
      refine aw_iconst dX1_tryLast_138 ⟨by decide, by decide⟩ ?_
      refine aw_iadd dX1_tryLast_139 ?_
      refine aw_put dX1_tryLast_140 fk_X1_28 pC_10 rfl ft_1_3 (nar_int _) (fun s2 e => ?_)
      replace h := sb_e h e
      clear e
      refine aw_goto (tgt := 161) dX1_tryLast_143 (by decide) ?_
      exact (t_X1_tryLast_161 k112 hk112 x1 x3 x4 x6 x7 s2 _ h)
def f_X1_tryLast_112 : Nat → Int → Int → Int → Int → Int → SS → Option SS
  | 0 => fun _ _ _ _ _ _ => none
  | n + 1 => g_X1_tryLast_112 (f_X1_tryLast_112  n)
theorem s_X1_tryLast_112  : ∀ (n : Nat), ∀ (x1 : Int) (x3 : Int) (x4 : Int) (x6 : Int) (x7 : Int) (s0 : SS) (r : SS), f_X1_tryLast_112 n x1 x3 x4 x6 x7 s0 = some r → AW LC M_X1_tryLast (none, r) 112 [some (vR (some 10)), some (vI x1), none, some (vI x3), some (vI x4), none, some (vI x6), some (vI x7)] [] s0 := by
  intro n
  induction n with
  | zero =>
    intro x1 x3 x4 x6 x7 s0 r h
    cases h
  | succ n ih =>
    intro x1 x3 x4 x6 x7 s0 r h
    exact t_X1_tryLast_112 (f_X1_tryLast_112  n) ih x1 x3 x4 x6 x7 s0 r h
def g_X1_tryLast_90 (x1 : Int) (x3 : Int) (x4 : Int) (x5 : Int) (s0 : SS) : Option SS :=
  if x5 = 0 then (
    f_X1_tryLast_112  FU x1 x3 x4 x3 x3 s0
  ) else (
    sb (up s0 10 3 (wr ((s0 10 3) + 1))) fun s1 =>
    some s1
  )
set_option maxHeartbeats 4000000 in
theorem t_X1_tryLast_90  : ∀ (x1 : Int) (x3 : Int) (x4 : Int) (x5 : Int) (s0 : SS) (r : SS), g_X1_tryLast_90 x1 x3 x4 x5 s0 = some r → AW LC M_X1_tryLast (none, r) 90 [some (vR (some 10)), some (vI x1), none, some (vI x3), some (vI x4), some (vI x5), none, none] [] s0 := by
  intro x1 x3 x4 x5 s0 r h
  unfold g_X1_tryLast_90 at h
  refine aw_iload dX1_tryLast_90 rfl ?_
  refine aw_if_eq (tgt := 106) dX1_tryLast_92 (by decide) (fun hc => ?_) (fun hc => ?_)
  · replace h := ip hc h
    refine aw_iload_n dX1_tryLast_106 rfl rfl ?_
    refine aw_istoreA dX1_tryLast_107 (by decide) rfl ?_
    show AW _ _ _ 109 [some (vR (some 10)), some (vI x1), none, some (vI x3), some (vI x4), some (vI x5), some (vI x3), none] _ _
    refine aw_iload_n dX1_tryLast_109 rfl rfl ?_
    refine aw_istoreA dX1_tryLast_110 (by decide) rfl ?_
    show AW _ _ _ 112 [some (vR (some 10)), some (vI x1), none, some (vI x3), some (vI x4), some (vI x5), some (vI x3), some (vI x3)] _ _
    exact aw_less (ls' := [some (vR (some 10)), some (vI x1), none, some (vI x3), some (vI x4), none, some (vI x3), some (vI x3)]) (⟨rfl, ⟨rfl, ⟨rfl, ⟨rfl, ⟨rfl, ⟨rfl, trivial⟩⟩⟩⟩⟩⟩) (s_X1_tryLast_112   FU x1 x3 x4 x3 x3 s0 _ h)
  · replace h := ic hc h
    refine aw_aload_n dX1_tryLast_95 rfl rfl ?_
    refine aw_dup dX1_tryLast_96 rfl ?_
    refine aw_getI dX1_tryLast_97 fk_X1_28 pC_10 rfl ?_
    refine aw_iconst dX1_tryLast_100 ⟨by decide, by decide⟩ ?_
    refine aw_iadd dX1_tryLast_101 ?_
    refine aw_put dX1_tryLast_102 fk_X1_28 pC_10 rfl ft_1_3 (nar_int _) (fun s1 e => ?_)
    replace h := sb_e h e
    clear e
    obtain rfl := Option.some.inj h
    exact aw_vret dX1_tryLast_105 rfl
def g_X1_tryLast_59 (k59 : Int → Int → Int → Int → Int → SS → Option SS) (x1 : Int) (x3 : Int) (x4 : Int) (x5 : Int) (x6 : Int) (s0 : SS) : Option SS :=
  if x4 ≤ x6 then (
    g_X1_tryLast_90  x1 x3 x4 x5 s0
  ) else (
    if x5 = 0 then (
      bn (f_X3_noneGreater 11 x6 x4 s0) fun y1 =>
      sb (wr (x6 + 1)) fun y2 =>
      k59 x1 x3 x4 y1 y2 s0
    ) else (
      g_X1_tryLast_90  x1 x3 x4 x5 s0
    )
  )
set_option maxHeartbeats 4000000 in
theorem t_X1_tryLast_59 (k59 : Int → Int → Int → Int → Int → SS → Option SS) (hk59 : ∀ (x1 : Int) (x3 : Int) (x4 : Int) (x5 : Int) (x6 : Int) (s0 : SS) (r : SS), k59 x1 x3 x4 x5 x6 s0 = some r → AW LC M_X1_tryLast (none, r) 59 [some (vR (some 10)), some (vI x1), none, some (vI x3), some (vI x4), some (vI x5), some (vI x6), none] [] s0) : ∀ (x1 : Int) (x3 : Int) (x4 : Int) (x5 : Int) (x6 : Int) (s0 : SS) (r : SS), g_X1_tryLast_59 k59 x1 x3 x4 x5 x6 s0 = some r → AW LC M_X1_tryLast (none, r) 59 [some (vR (some 10)), some (vI x1), none, some (vI x3), some (vI x4), some (vI x5), some (vI x6), none] [] s0 := by
  intro x1 x3 x4 x5 x6 s0 r h
  unfold g_X1_tryLast_59 at h
  refine aw_iload dX1_tryLast_59 rfl ?_
  refine aw_iload dX1_tryLast_61 rfl ?_
  refine aw_icmp_ge (tgt := 90) dX1_tryLast_63 (by decide) (fun hc => ?_) (fun hc => ?_)
  · replace h := ip hc h
    exact aw_less (ls' := [some (vR (some 10)), some (vI x1), none, some (vI x3), some (vI x4), some (vI x5), none, none]) (⟨rfl, ⟨rfl, ⟨rfl, ⟨rfl, ⟨rfl, trivial⟩⟩⟩⟩⟩) (t_X1_tryLast_90   x1 x3 x4 x5 s0 _ h)
  · replace h := ic hc h
    refine aw_iload dX1_tryLast_66 rfl ?_
    refine aw_if_ne (tgt := 90) dX1_tryLast_68 (by decide) (fun hc => ?_) (fun hc => ?_)
    rotate_left
    · replace h := ip hc h
      refine aw_aload_n dX1_tryLast_71 rfl rfl ?_
      refine aw_getR (t := 11) dX1_tryLast_72 fk_X1_14 pC_10 rfl ?_
      refine aw_iload dX1_tryLast_75 rfl ?_
      refine aw_iload dX1_tryLast_77 rfl ?_
      obtain ⟨y1, hg1, h⟩ := bn_e h
      refine aw_V2i (M2 := M_X3_noneGreater) dX1_tryLast_79 lk_X1_97 mk_X3_noneGreater mv_X3_noneGreater ⟨by decide, by decide⟩ pC_11 ⟨_, _, rfl⟩ (Nat.le_of_ble_eq_true rfl) (c_X3_noneGreater pC_11 hg1) ?_
      refine aw_istoreA dX1_tryLast_82 (by decide) rfl ?_
      show AW _ _ _ 84 [some (vR (some 10)), some (vI x1), none, some (vI x3), some (vI x4), some (vI y1), some (vI x6), none] _ _
      refine aw_iinc dX1_tryLast_84 rfl (by decide) rfl (fun y2 e => ?_)
      replace h := sb_e h e
      clear e
      show AW _ _ _ 87 [some (vR (some 10)), some (vI x1), none, some (vI x3), some (vI x4), some (vI y1), some (vI y2), none] _ _
      refine aw_goto (tgt := 59) dX1_tryLast_87 (by decide) ?_
      exact (hk59 x1 x3 x4 y1 y2 s0 _ h)
    · replace h := ic hc h
      exact aw_less (ls' := [some (vR (some 10)), some (vI x1), none, some (vI x3), some (vI x4), some (vI x5), none, none]) (⟨rfl, ⟨rfl, ⟨rfl, ⟨rfl, ⟨rfl, trivial⟩⟩⟩⟩⟩) (t_X1_tryLast_90   x1 x3 x4 x5 s0 _ h)
def f_X1_tryLast_59 : Nat → Int → Int → Int → Int → Int → SS → Option SS
  | 0 => fun _ _ _ _ _ _ => none
  | n + 1 => g_X1_tryLast_59 (f_X1_tryLast_59  n)
theorem s_X1_tryLast_59  : ∀ (n : Nat), ∀ (x1 : Int) (x3 : Int) (x4 : Int) (x5 : Int) (x6 : Int) (s0 : SS) (r : SS), f_X1_tryLast_59 n x1 x3 x4 x5 x6 s0 = some r → AW LC M_X1_tryLast (none, r) 59 [some (vR (some 10)), some (vI x1), none, some (vI x3), some (vI x4), some (vI x5), some (vI x6), none] [] s0 := by
  intro n
  induction n with
  | zero =>
    intro x1 x3 x4 x5 x6 s0 r h
    cases h
  | succ n ih =>
    intro x1 x3 x4 x5 x6 s0 r h
    exact t_X1_tryLast_59 (f_X1_tryLast_59  n) ih x1 x3 x4 x5 x6 s0 r h
def g_X1_tryLast_54 (x1 : Int) (x3 : Int) (x4 : Int) (z0 : Int) (s0 : SS) : Option SS :=
  f_X1_tryLast_59  FU x1 x3 x4 z0 x3 s0
set_option maxHeartbeats 4000000 in
theorem t_X1_tryLast_54  : ∀ (x1 : Int) (x3 : Int) (x4 : Int) (z0 : Int) (s0 : SS) (r : SS), g_X1_tryLast_54 x1 x3 x4 z0 s0 = some r → AW LC M_X1_tryLast (none, r) 54 [some (vR (some 10)), some (vI x1), none, some (vI x3), some (vI x4), none, none, none] [vI z0] s0 := by
  intro x1 x3 x4 z0 s0 r h
  unfold g_X1_tryLast_54 at h
  refine aw_istoreA dX1_tryLast_54 (by decide) rfl ?_
  show AW _ _ _ 56 [some (vR (some 10)), some (vI x1), none, some (vI x3), some (vI x4), some (vI z0), none, none] _ _
  refine aw_iload_n dX1_tryLast_56 rfl rfl ?_
  refine aw_istoreA dX1_tryLast_57 (by decide) rfl ?_
  show AW _ _ _ 59 [some (vR (some 10)), some (vI x1), none, some (vI x3), some (vI x4), some (vI z0), some (vI x3), none] _ _
  exact (s_X1_tryLast_59   FU x1 x3 x4 z0 x3 s0 _ h)
def f_X1_tryLast (x1 : Int) (x2 : Int) (s0 : SS) : Option SS :=
  sb (wr (x1 * 64)) fun y1 =>
  bn (f_X1_trialPlace x1 s0) fun y2 =>
  bn (f_X3_has 11 y2 s0) fun y3 =>
  if y3 = 0 then (
    some s0
  ) else (
    sb (up s0 10 2 (wr ((s0 10 2) + 1))) fun s1 =>
    gx y2 2560 <|
    if (s1 14 y2.toNat) ≤ x2 then (
      g_X1_tryLast_54  x1 y1 y2 0 s1
    ) else (
      g_X1_tryLast_54  x1 y1 y2 1 s1
    )
  )
set_option maxHeartbeats 4000000 in
theorem t_X1_tryLast_0  : ∀ (x1 : Int) (x2 : Int) (s0 : SS) (r : SS), f_X1_tryLast x1 x2 s0 = some r → AW LC M_X1_tryLast (none, r) 0 [some (vR (some 10)), some (vI x1), some (vI x2), none, none, none, none, none] [] s0 := by
  intro x1 x2 s0 r h
  unfold f_X1_tryLast at h
  refine aw_iload_n dX1_tryLast_0 rfl rfl ?_
  refine aw_bipush dX1_tryLast_1 ⟨by decide, by decide⟩ (by decide) ?_
  refine aw_imul dX1_tryLast_3 ?_
  refine aw_istore_n dX1_tryLast_4 rfl (by decide) rfl (fun y1 e => ?_)
  replace h := sb_e h e
  clear e
  show AW _ _ _ 5 [some (vR (some 10)), some (vI x1), some (vI x2), some (vI y1), none, none, none, none] _ _
  refine aw_aload_n dX1_tryLast_5 rfl rfl ?_
  refine aw_iload_n dX1_tryLast_6 rfl rfl ?_
  obtain ⟨y2, hg1, h⟩ := bn_e h
  refine aw_V1i (M2 := M_X1_trialPlace) dX1_tryLast_7 lk_X1_76 mk_X1_trialPlace mv_X1_trialPlace ⟨by decide, by decide⟩ pC_10 ⟨_, _, rfl⟩ (Nat.le_of_ble_eq_true rfl) (c_X1_trialPlace  hg1) ?_
  refine aw_istoreA dX1_tryLast_10 (by decide) rfl ?_
  show AW _ _ _ 12 [some (vR (some 10)), some (vI x1), some (vI x2), some (vI y1), some (vI y2), none, none, none] _ _
  refine aw_aload_n dX1_tryLast_12 rfl rfl ?_
  refine aw_getR (t := 11) dX1_tryLast_13 fk_X1_14 pC_10 rfl ?_
  refine aw_iload dX1_tryLast_16 rfl ?_
  obtain ⟨y3, hg2, h⟩ := bn_e h
  refine aw_V1i (M2 := M_X3_has) dX1_tryLast_18 lk_X1_90 mk_X3_has mv_X3_has ⟨by decide, by decide⟩ pC_11 ⟨_, _, rfl⟩ (Nat.le_of_ble_eq_true rfl) (c_X3_has pC_11 hg2) ?_
  refine aw_if_ne (tgt := 25) dX1_tryLast_21 (by decide) (fun hc => ?_) (fun hc => ?_)
  rotate_left
  · replace h := ip hc h
    obtain rfl := Option.some.inj h
    exact aw_vret dX1_tryLast_24 rfl
  · replace h := ic hc h
    refine aw_aload_n dX1_tryLast_25 rfl rfl ?_
    refine aw_dup dX1_tryLast_26 rfl ?_
    refine aw_getI dX1_tryLast_27 fk_X1_24 pC_10 rfl ?_
    refine aw_iconst dX1_tryLast_30 ⟨by decide, by decide⟩ ?_
    refine aw_iadd dX1_tryLast_31 ?_
    refine aw_put dX1_tryLast_32 fk_X1_24 pC_10 rfl ft_1_2 (nar_int _) (fun s1 e => ?_)
    replace h := sb_e h e
    clear e
    refine aw_aload_n dX1_tryLast_35 rfl rfl ?_
    refine aw_getR (t := 11) dX1_tryLast_36 fk_X1_14 pC_10 rfl ?_
    refine aw_getR (t := 14) dX1_tryLast_39 fk_X1_94 pC_11 rfl ?_
    refine aw_iload dX1_tryLast_42 rfl ?_
    obtain ⟨hg3, h⟩ := gx_e h
    refine aw_iald dX1_tryLast_44 aC_14 hg3 ?_
    refine aw_iload_n dX1_tryLast_45 rfl rfl ?_
    refine aw_icmp_le (tgt := 53) dX1_tryLast_46 (by decide) (fun hc => ?_) (fun hc => ?_)
    · replace h := ip hc h
      refine aw_iconst dX1_tryLast_53 ⟨by decide, by decide⟩ ?_
      exact aw_less (ls' := [some (vR (some 10)), some (vI x1), none, some (vI y1), some (vI y2), none, none, none]) (⟨rfl, ⟨rfl, ⟨rfl, ⟨rfl, trivial⟩⟩⟩⟩) (t_X1_tryLast_54   x1 y1 y2 0 s1 _ h)
    · replace h := ic hc h
      refine aw_iconst dX1_tryLast_49 ⟨by decide, by decide⟩ ?_
      refine aw_goto (tgt := 54) dX1_tryLast_50 (by decide) ?_
      exact aw_less (ls' := [some (vR (some 10)), some (vI x1), none, some (vI y1), some (vI y2), none, none, none]) (⟨rfl, ⟨rfl, ⟨rfl, ⟨rfl, trivial⟩⟩⟩⟩) (t_X1_tryLast_54   x1 y1 y2 1 s1 _ h)
theorem c_X1_tryLast {x1 : Int} {x2 : Int} {s0 : SS} {s1 : SS} (h : f_X1_tryLast x1 x2 s0 = some s1) : CT LC M_X1_tryLast [vR (some 10), vI x1, vI x2] s0 (none, s1) :=
  ct_of (n := 5) (by decide) (Nat.le_of_ble_eq_true rfl) (t_X1_tryLast_0 x1 x2 s0  _ h)
def g_X1_sizeOf_23 (z0 : Int) (s0 : SS) : Option Int :=
  some z0
set_option maxHeartbeats 4000000 in
theorem t_X1_sizeOf_23  : ∀ (z0 : Int) (s0 : SS) (r : Int), g_X1_sizeOf_23 z0 s0 = some r → AW LC M_X1_sizeOf (some (vI r), s0) 23 [none, none] [vI z0] s0 := by
  intro z0 s0 r h
  unfold g_X1_sizeOf_23 at h
  obtain rfl := Option.some.inj h
  exact aw_iret dX1_sizeOf_23 rfl
def g_X1_sizeOf_22  (s0 : SS) : Option Int :=
  g_X1_sizeOf_23  0 s0
set_option maxHeartbeats 4000000 in
theorem t_X1_sizeOf_22  : ∀ (s0 : SS) (r : Int), g_X1_sizeOf_22 s0 = some r → AW LC M_X1_sizeOf (some (vI r), s0) 22 [none, none] [] s0 := by
  intro s0 r h
  unfold g_X1_sizeOf_22 at h
  refine aw_iconst dX1_sizeOf_22 ⟨by decide, by decide⟩ ?_
  exact (t_X1_sizeOf_23   0 s0 _ h)
def f_X1_sizeOf (x1 : Int) (s0 : SS) : Option Int :=
  if x1 < 0 then (
    g_X1_sizeOf_22  s0
  ) else (
    if 40 ≤ x1 then (
      g_X1_sizeOf_22  s0
    ) else (
      gx x1 40 <|
      g_X1_sizeOf_23  (s0 16 x1.toNat) s0
    )
  )
set_option maxHeartbeats 4000000 in
theorem t_X1_sizeOf_0  : ∀ (x1 : Int) (s0 : SS) (r : Int), f_X1_sizeOf x1 s0 = some r → AW LC M_X1_sizeOf (some (vI r), s0) 0 [some (vR (some 10)), some (vI x1)] [] s0 := by
  intro x1 s0 r h
  unfold f_X1_sizeOf at h
  refine aw_iload_n dX1_sizeOf_0 rfl rfl ?_
  refine aw_if_lt (tgt := 22) dX1_sizeOf_1 (by decide) (fun hc => ?_) (fun hc => ?_)
  · replace h := ip hc h
    exact aw_less (ls' := [none, none]) (trivial) (t_X1_sizeOf_22   s0 _ h)
  · replace h := ic hc h
    refine aw_iload_n dX1_sizeOf_4 rfl rfl ?_
    refine aw_aload_n dX1_sizeOf_5 rfl rfl ?_
    refine aw_getR (t := 16) dX1_sizeOf_6 fk_X1_20 pC_10 rfl ?_
    refine aw_alen dX1_sizeOf_9 aC_16 (by decide) ⟨by decide, by decide⟩ ?_
    refine aw_icmp_ge (tgt := 22) dX1_sizeOf_10 (by decide) (fun hc => ?_) (fun hc => ?_)
    · replace h := ip hc h
      exact aw_less (ls' := [none, none]) (trivial) (t_X1_sizeOf_22   s0 _ h)
    · replace h := ic hc h
      refine aw_aload_n dX1_sizeOf_13 rfl rfl ?_
      refine aw_getR (t := 16) dX1_sizeOf_14 fk_X1_20 pC_10 rfl ?_
      refine aw_iload_n dX1_sizeOf_17 rfl rfl ?_
      obtain ⟨hg1, h⟩ := gx_e h
      refine aw_iald dX1_sizeOf_18 aC_16 hg1 ?_
      refine aw_goto (tgt := 23) dX1_sizeOf_19 (by decide) ?_
      exact aw_less (ls' := [none, none]) (trivial) (t_X1_sizeOf_23   (s0 16 x1.toNat) s0 _ h)
theorem c_X1_sizeOf {x1 : Int} {s0 : SS} {y : Int} (h : f_X1_sizeOf x1 s0 = some y) : CT LC M_X1_sizeOf [vR (some 10), vI x1] s0 (some (vI y), s0) :=
  ct_of (n := 0) (by decide) (Nat.le_of_ble_eq_true rfl) (t_X1_sizeOf_0 x1 s0  _ h)
def g_X1_tryEach_46  (s0 : SS) : Option SS :=
  some s0
set_option maxHeartbeats 4000000 in
theorem t_X1_tryEach_46  : ∀ (s0 : SS) (r : SS), g_X1_tryEach_46 s0 = some r → AW LC M_X1_tryEach (none, r) 46 [none, none, none, none, none, none] [] s0 := by
  intro s0 r h
  unfold g_X1_tryEach_46 at h
  obtain rfl := Option.some.inj h
  exact aw_vret dX1_tryEach_46 rfl
def g_X1_tryEach_3 (k3 : Int → Int → Int → Int → Int → SS → Option SS) (x1 : Int) (x2 : Int) (x3 : Int) (x4 : Int) (x5 : Int) (s0 : SS) : Option SS :=
  bn (f_X1_sizeOf x2 s0) fun y1 =>
  if y1 ≤ x5 then (
    g_X1_tryEach_46  s0
  ) else (
    bn (f_X1_trialPlace x1 s0) fun y2 =>
    bn (f_X3_setLike 11 y2 (wr ((wr (x2 * 64)) + x5)) x3 s0) fun s1 =>
    bn (f_X1_tryLast x1 x4 s1) fun s2 =>
    sb (wr (x5 + 1)) fun y3 =>
    k3 x1 x2 x3 x4 y3 s2
  )
set_option maxHeartbeats 4000000 in
theorem t_X1_tryEach_3 (k3 : Int → Int → Int → Int → Int → SS → Option SS) (hk3 : ∀ (x1 : Int) (x2 : Int) (x3 : Int) (x4 : Int) (x5 : Int) (s0 : SS) (r : SS), k3 x1 x2 x3 x4 x5 s0 = some r → AW LC M_X1_tryEach (none, r) 3 [some (vR (some 10)), some (vI x1), some (vI x2), some (vI x3), some (vI x4), some (vI x5)] [] s0) : ∀ (x1 : Int) (x2 : Int) (x3 : Int) (x4 : Int) (x5 : Int) (s0 : SS) (r : SS), g_X1_tryEach_3 k3 x1 x2 x3 x4 x5 s0 = some r → AW LC M_X1_tryEach (none, r) 3 [some (vR (some 10)), some (vI x1), some (vI x2), some (vI x3), some (vI x4), some (vI x5)] [] s0 := by
  intro x1 x2 x3 x4 x5 s0 r h
  unfold g_X1_tryEach_3 at h
  refine aw_iload dX1_tryEach_3 rfl ?_
  refine aw_aload_n dX1_tryEach_5 rfl rfl ?_
  refine aw_iload_n dX1_tryEach_6 rfl rfl ?_
  obtain ⟨y1, hg1, h⟩ := bn_e h
  refine aw_V1i (M2 := M_X1_sizeOf) dX1_tryEach_7 lk_X1_72 mk_X1_sizeOf mv_X1_sizeOf ⟨by decide, by decide⟩ pC_10 ⟨_, _, rfl⟩ (Nat.le_of_ble_eq_true rfl) (c_X1_sizeOf  hg1) ?_
  refine aw_icmp_ge (tgt := 46) dX1_tryEach_10 (by decide) (fun hc => ?_) (fun hc => ?_)
  · replace h := ip hc h
    exact aw_less (ls' := [none, none, none, none, none, none]) (trivial) (t_X1_tryEach_46   s0 _ h)
  · replace h := ic hc h
    refine aw_aload_n dX1_tryEach_13 rfl rfl ?_
    refine aw_getR (t := 11) dX1_tryEach_14 fk_X1_14 pC_10 rfl ?_
    refine aw_aload_n dX1_tryEach_17 rfl rfl ?_
    refine aw_iload_n dX1_tryEach_18 rfl rfl ?_
    obtain ⟨y2, hg2, h⟩ := bn_e h
    refine aw_V1i (M2 := M_X1_trialPlace) dX1_tryEach_19 lk_X1_76 mk_X1_trialPlace mv_X1_trialPlace ⟨by decide, by decide⟩ pC_10 ⟨_, _, rfl⟩ (Nat.le_of_ble_eq_true rfl) (c_X1_trialPlace  hg2) ?_
    refine aw_iload_n dX1_tryEach_22 rfl rfl ?_
    refine aw_bipush dX1_tryEach_23 ⟨by decide, by decide⟩ (by decide) ?_
    refine aw_imul dX1_tryEach_25 ?_
    refine aw_iload dX1_tryEach_26 rfl ?_
    refine aw_iadd dX1_tryEach_28 ?_
    refine aw_iload_n dX1_tryEach_29 rfl rfl ?_
    obtain ⟨s1, hg3, h⟩ := bn_e h
    refine aw_V3v (M2 := M_X3_setLike) dX1_tryEach_30 lk_X1_79 mk_X3_setLike mv_X3_setLike ⟨by decide, by decide⟩ pC_11 ⟨_, _, rfl⟩ (Nat.le_of_ble_eq_true rfl) (c_X3_setLike pC_11 hg3) ?_
    refine aw_aload_n dX1_tryEach_33 rfl rfl ?_
    refine aw_iload_n dX1_tryEach_34 rfl rfl ?_
    refine aw_iload dX1_tryEach_35 rfl ?_
    obtain ⟨s2, hg4, h⟩ := bn_e h
    refine aw_V2v (M2 := M_X1_tryLast) dX1_tryEach_37 lk_X1_52 mk_X1_tryLast mv_X1_tryLast ⟨by decide, by decide⟩ pC_10 ⟨_, _, rfl⟩ (Nat.le_of_ble_eq_true rfl) (c_X1_tryLast  hg4) ?_
    refine aw_iinc dX1_tryEach_40 rfl (by decide) rfl (fun y3 e => ?_)
    replace h := sb_e h e
    clear e
    show AW _ _ _ 43 [some (vR (some 10)), some (vI x1), some (vI x2), some (vI x3), some (vI x4), some (vI y3)] _ _
    refine aw_goto (tgt := 3) dX1_tryEach_43 (by decide) ?_
    exact (hk3 x1 x2 x3 x4 y3 s2 _ h)
def f_X1_tryEach_3 : Nat → Int → Int → Int → Int → Int → SS → Option SS
  | 0 => fun _ _ _ _ _ _ => none
  | n + 1 => g_X1_tryEach_3 (f_X1_tryEach_3  n)
theorem s_X1_tryEach_3  : ∀ (n : Nat), ∀ (x1 : Int) (x2 : Int) (x3 : Int) (x4 : Int) (x5 : Int) (s0 : SS) (r : SS), f_X1_tryEach_3 n x1 x2 x3 x4 x5 s0 = some r → AW LC M_X1_tryEach (none, r) 3 [some (vR (some 10)), some (vI x1), some (vI x2), some (vI x3), some (vI x4), some (vI x5)] [] s0 := by
  intro n
  induction n with
  | zero =>
    intro x1 x2 x3 x4 x5 s0 r h
    cases h
  | succ n ih =>
    intro x1 x2 x3 x4 x5 s0 r h
    exact t_X1_tryEach_3 (f_X1_tryEach_3  n) ih x1 x2 x3 x4 x5 s0 r h
def f_X1_tryEach (x1 : Int) (x2 : Int) (x3 : Int) (x4 : Int) (s0 : SS) : Option SS :=
  f_X1_tryEach_3  FU x1 x2 x3 x4 0 s0
set_option maxHeartbeats 4000000 in
theorem t_X1_tryEach_0  : ∀ (x1 : Int) (x2 : Int) (x3 : Int) (x4 : Int) (s0 : SS) (r : SS), f_X1_tryEach x1 x2 x3 x4 s0 = some r → AW LC M_X1_tryEach (none, r) 0 [some (vR (some 10)), some (vI x1), some (vI x2), some (vI x3), some (vI x4), none] [] s0 := by
  intro x1 x2 x3 x4 s0 r h
  unfold f_X1_tryEach at h
  refine aw_iconst dX1_tryEach_0 ⟨by decide, by decide⟩ ?_
  refine aw_istoreA dX1_tryEach_1 (by decide) rfl ?_
  show AW _ _ _ 3 [some (vR (some 10)), some (vI x1), some (vI x2), some (vI x3), some (vI x4), some (vI 0)] _ _
  exact (s_X1_tryEach_3   FU x1 x2 x3 x4 0 s0 _ h)
theorem c_X1_tryEach {x1 : Int} {x2 : Int} {x3 : Int} {x4 : Int} {s0 : SS} {s1 : SS} (h : f_X1_tryEach x1 x2 x3 x4 s0 = some s1) : CT LC M_X1_tryEach [vR (some 10), vI x1, vI x2, vI x3, vI x4] s0 (none, s1) :=
  ct_of (n := 1) (by decide) (Nat.le_of_ble_eq_true rfl) (t_X1_tryEach_0 x1 x2 x3 x4 s0  _ h)
def g_X1_tryPairs_97  (s0 : SS) : Option SS :=
  some s0
set_option maxHeartbeats 4000000 in
theorem t_X1_tryPairs_97  : ∀ (s0 : SS) (r : SS), g_X1_tryPairs_97 s0 = some r → AW LC M_X1_tryPairs (none, r) 97 [none, none, none, none, none, none, none, none] [] s0 := by
  intro s0 r h
  unfold g_X1_tryPairs_97 at h
  obtain rfl := Option.some.inj h
  exact aw_vret dX1_tryPairs_97 rfl
def g_X1_tryPairs_91 (k19 : Int → Int → Int → Int → Int → SS → Option SS) (x2 : Int) (x3 : Int) (x4 : Int) (x5 : Int) (x6 : Int) (s0 : SS) : Option SS :=
  sb (wr (x6 + 1)) fun y1 =>
  k19 x2 x3 x4 x5 y1 s0
set_option maxHeartbeats 4000000 in
theorem t_X1_tryPairs_91 (k19 : Int → Int → Int → Int → Int → SS → Option SS) (hk19 : ∀ (x2 : Int) (x3 : Int) (x4 : Int) (x5 : Int) (x6 : Int) (s0 : SS) (r : SS), k19 x2 x3 x4 x5 x6 s0 = some r → AW LC M_X1_tryPairs (none, r) 19 [some (vR (some 10)), some (vR (some 1)), some (vI x2), some (vI x3), some (vI x4), some (vI x5), some (vI x6), none] [] s0) : ∀ (x2 : Int) (x3 : Int) (x4 : Int) (x5 : Int) (x6 : Int) (s0 : SS) (r : SS), g_X1_tryPairs_91 k19 x2 x3 x4 x5 x6 s0 = some r → AW LC M_X1_tryPairs (none, r) 91 [some (vR (some 10)), some (vR (some 1)), some (vI x2), some (vI x3), some (vI x4), some (vI x5), some (vI x6), none] [] s0 := by
  intro x2 x3 x4 x5 x6 s0 r h
  unfold g_X1_tryPairs_91 at h
  refine aw_iinc dX1_tryPairs_91 rfl (by decide) rfl (fun y1 e => ?_)
  replace h := sb_e h e
  clear e
  show AW _ _ _ 94 [some (vR (some 10)), some (vR (some 1)), some (vI x2), some (vI x3), some (vI x4), some (vI x5), some (vI y1), none] _ _
  refine aw_goto (tgt := 19) dX1_tryPairs_94 (by decide) ?_
  exact (hk19 x2 x3 x4 x5 y1 s0 _ h)
def g_X1_tryPairs_33 (k19 : Int → Int → Int → Int → Int → SS → Option SS) (k33 : Int → Int → Int → Int → Int → Int → SS → Option SS) (x2 : Int) (x3 : Int) (x4 : Int) (x5 : Int) (x6 : Int) (x7 : Int) (s0 : SS) : Option SS :=
  bn (f_X1_sizeOf x5 s0) fun y1 =>
  if y1 ≤ x7 then (
    g_X1_tryPairs_91 k19 x2 x3 x4 x5 x6 s0
  ) else (
    bn (f_X1_trialPlace x2 s0) fun y2 =>
    gx x2 40 <|
    bn (f_X3_setMade 11 y2 (s0 3 x2.toNat) 0 (wr ((wr (x4 * 64)) + x6)) (wr ((wr (x5 * 64)) + x7)) s0) fun s1 =>
    bn (f_X1_tryLast x2 x3 s1) fun s2 =>
    sb (wr (x7 + 1)) fun y3 =>
    k33 x2 x3 x4 x5 x6 y3 s2
  )
set_option maxHeartbeats 4000000 in
theorem t_X1_tryPairs_33 (k19 : Int → Int → Int → Int → Int → SS → Option SS) (k33 : Int → Int → Int → Int → Int → Int → SS → Option SS) (hk19 : ∀ (x2 : Int) (x3 : Int) (x4 : Int) (x5 : Int) (x6 : Int) (s0 : SS) (r : SS), k19 x2 x3 x4 x5 x6 s0 = some r → AW LC M_X1_tryPairs (none, r) 19 [some (vR (some 10)), some (vR (some 1)), some (vI x2), some (vI x3), some (vI x4), some (vI x5), some (vI x6), none] [] s0) (hk33 : ∀ (x2 : Int) (x3 : Int) (x4 : Int) (x5 : Int) (x6 : Int) (x7 : Int) (s0 : SS) (r : SS), k33 x2 x3 x4 x5 x6 x7 s0 = some r → AW LC M_X1_tryPairs (none, r) 33 [some (vR (some 10)), some (vR (some 1)), some (vI x2), some (vI x3), some (vI x4), some (vI x5), some (vI x6), some (vI x7)] [] s0) : ∀ (x2 : Int) (x3 : Int) (x4 : Int) (x5 : Int) (x6 : Int) (x7 : Int) (s0 : SS) (r : SS), g_X1_tryPairs_33 k19 k33 x2 x3 x4 x5 x6 x7 s0 = some r → AW LC M_X1_tryPairs (none, r) 33 [some (vR (some 10)), some (vR (some 1)), some (vI x2), some (vI x3), some (vI x4), some (vI x5), some (vI x6), some (vI x7)] [] s0 := by
  intro x2 x3 x4 x5 x6 x7 s0 r h
  unfold g_X1_tryPairs_33 at h
  refine aw_iload dX1_tryPairs_33 rfl ?_
  refine aw_aload_n dX1_tryPairs_35 rfl rfl ?_
  refine aw_iload dX1_tryPairs_36 rfl ?_
  obtain ⟨y1, hg1, h⟩ := bn_e h
  refine aw_V1i (M2 := M_X1_sizeOf) dX1_tryPairs_38 lk_X1_72 mk_X1_sizeOf mv_X1_sizeOf ⟨by decide, by decide⟩ pC_10 ⟨_, _, rfl⟩ (Nat.le_of_ble_eq_true rfl) (c_X1_sizeOf  hg1) ?_
  refine aw_icmp_ge (tgt := 91) dX1_tryPairs_41 (by decide) (fun hc => ?_) (fun hc => ?_)
  · replace h := ip hc h
    exact aw_less (ls' := [some (vR (some 10)), some (vR (some 1)), some (vI x2), some (vI x3), some (vI x4), some (vI x5), some (vI x6), none]) (⟨rfl, ⟨rfl, ⟨rfl, ⟨rfl, ⟨rfl, ⟨rfl, ⟨rfl, trivial⟩⟩⟩⟩⟩⟩⟩) (t_X1_tryPairs_91 k19 hk19 x2 x3 x4 x5 x6 s0 _ h)
  · replace h := ic hc h
    refine aw_aload_n dX1_tryPairs_44 rfl rfl ?_
    refine aw_getR (t := 11) dX1_tryPairs_45 fk_X1_14 pC_10 rfl ?_
    refine aw_aload_n dX1_tryPairs_48 rfl rfl ?_
    refine aw_iload_n dX1_tryPairs_49 rfl rfl ?_
    obtain ⟨y2, hg2, h⟩ := bn_e h
    refine aw_V1i (M2 := M_X1_trialPlace) dX1_tryPairs_50 lk_X1_76 mk_X1_trialPlace mv_X1_trialPlace ⟨by decide, by decide⟩ pC_10 ⟨_, _, rfl⟩ (Nat.le_of_ble_eq_true rfl) (c_X1_trialPlace  hg2) ?_
    refine aw_aload_n dX1_tryPairs_53 rfl rfl ?_
    refine aw_getR (t := 3) dX1_tryPairs_54 fk_X1_42 pC_1 rfl ?_
    refine aw_iload_n dX1_tryPairs_57 rfl rfl ?_
    obtain ⟨hg3, h⟩ := gx_e h
    refine aw_iald dX1_tryPairs_58 aC_3 hg3 ?_
    refine aw_iconst dX1_tryPairs_59 ⟨by decide, by decide⟩ ?_
    refine aw_iload dX1_tryPairs_60 rfl ?_
    refine aw_bipush dX1_tryPairs_62 ⟨by decide, by decide⟩ (by decide) ?_
    refine aw_imul dX1_tryPairs_64 ?_
    refine aw_iload dX1_tryPairs_65 rfl ?_
    refine aw_iadd dX1_tryPairs_67 ?_
    refine aw_iload dX1_tryPairs_68 rfl ?_
    refine aw_bipush dX1_tryPairs_70 ⟨by decide, by decide⟩ (by decide) ?_
    refine aw_imul dX1_tryPairs_72 ?_
    refine aw_iload dX1_tryPairs_73 rfl ?_
    refine aw_iadd dX1_tryPairs_75 ?_
    obtain ⟨s1, hg4, h⟩ := bn_e h
    refine aw_V5v (M2 := M_X3_setMade) dX1_tryPairs_76 lk_X1_83 mk_X3_setMade mv_X3_setMade ⟨by decide, by decide⟩ pC_11 ⟨_, _, rfl⟩ (Nat.le_of_ble_eq_true rfl) (c_X3_setMade pC_11 hg4) ?_
    refine aw_aload_n dX1_tryPairs_79 rfl rfl ?_
    refine aw_iload_n dX1_tryPairs_80 rfl rfl ?_
    refine aw_iload_n dX1_tryPairs_81 rfl rfl ?_
    obtain ⟨s2, hg5, h⟩ := bn_e h
    refine aw_V2v (M2 := M_X1_tryLast) dX1_tryPairs_82 lk_X1_52 mk_X1_tryLast mv_X1_tryLast ⟨by decide, by decide⟩ pC_10 ⟨_, _, rfl⟩ (Nat.le_of_ble_eq_true rfl) (c_X1_tryLast  hg5) ?_
    refine aw_iinc dX1_tryPairs_85 rfl (by decide) rfl (fun y3 e => ?_)
    replace h := sb_e h e
    clear e
    show AW _ _ _ 88 [some (vR (some 10)), some (vR (some 1)), some (vI x2), some (vI x3), some (vI x4), some (vI x5), some (vI x6), some (vI y3)] _ _
    refine aw_goto (tgt := 33) dX1_tryPairs_88 (by decide) ?_
    exact (hk33 x2 x3 x4 x5 x6 y3 s2 _ h)
def f_X1_tryPairs_33 (k19 : Int → Int → Int → Int → Int → SS → Option SS) : Nat → Int → Int → Int → Int → Int → Int → SS → Option SS
  | 0 => fun _ _ _ _ _ _ _ => none
  | n + 1 => g_X1_tryPairs_33 k19 (f_X1_tryPairs_33 k19 n)
theorem s_X1_tryPairs_33 (k19 : Int → Int → Int → Int → Int → SS → Option SS) (hk19 : ∀ (x2 : Int) (x3 : Int) (x4 : Int) (x5 : Int) (x6 : Int) (s0 : SS) (r : SS), k19 x2 x3 x4 x5 x6 s0 = some r → AW LC M_X1_tryPairs (none, r) 19 [some (vR (some 10)), some (vR (some 1)), some (vI x2), some (vI x3), some (vI x4), some (vI x5), some (vI x6), none] [] s0) : ∀ (n : Nat), ∀ (x2 : Int) (x3 : Int) (x4 : Int) (x5 : Int) (x6 : Int) (x7 : Int) (s0 : SS) (r : SS), f_X1_tryPairs_33 k19 n x2 x3 x4 x5 x6 x7 s0 = some r → AW LC M_X1_tryPairs (none, r) 33 [some (vR (some 10)), some (vR (some 1)), some (vI x2), some (vI x3), some (vI x4), some (vI x5), some (vI x6), some (vI x7)] [] s0 := by
  intro n
  induction n with
  | zero =>
    intro x2 x3 x4 x5 x6 x7 s0 r h
    cases h
  | succ n ih =>
    intro x2 x3 x4 x5 x6 x7 s0 r h
    exact t_X1_tryPairs_33 k19 (f_X1_tryPairs_33 k19 n) hk19 ih x2 x3 x4 x5 x6 x7 s0 r h
def g_X1_tryPairs_19 (k19 : Int → Int → Int → Int → Int → SS → Option SS) (x2 : Int) (x3 : Int) (x4 : Int) (x5 : Int) (x6 : Int) (s0 : SS) : Option SS :=
  bn (f_X1_sizeOf x4 s0) fun y1 =>
  if y1 ≤ x6 then (
    g_X1_tryPairs_97  s0
  ) else (
    f_X1_tryPairs_33 k19 FU x2 x3 x4 x5 x6 0 s0
  )
set_option maxHeartbeats 4000000 in
theorem t_X1_tryPairs_19 (k19 : Int → Int → Int → Int → Int → SS → Option SS) (hk19 : ∀ (x2 : Int) (x3 : Int) (x4 : Int) (x5 : Int) (x6 : Int) (s0 : SS) (r : SS), k19 x2 x3 x4 x5 x6 s0 = some r → AW LC M_X1_tryPairs (none, r) 19 [some (vR (some 10)), some (vR (some 1)), some (vI x2), some (vI x3), some (vI x4), some (vI x5), some (vI x6), none] [] s0) : ∀ (x2 : Int) (x3 : Int) (x4 : Int) (x5 : Int) (x6 : Int) (s0 : SS) (r : SS), g_X1_tryPairs_19 k19 x2 x3 x4 x5 x6 s0 = some r → AW LC M_X1_tryPairs (none, r) 19 [some (vR (some 10)), some (vR (some 1)), some (vI x2), some (vI x3), some (vI x4), some (vI x5), some (vI x6), none] [] s0 := by
  intro x2 x3 x4 x5 x6 s0 r h
  unfold g_X1_tryPairs_19 at h
  refine aw_iload dX1_tryPairs_19 rfl ?_
  refine aw_aload_n dX1_tryPairs_21 rfl rfl ?_
  refine aw_iload dX1_tryPairs_22 rfl ?_
  obtain ⟨y1, hg1, h⟩ := bn_e h
  refine aw_V1i (M2 := M_X1_sizeOf) dX1_tryPairs_24 lk_X1_72 mk_X1_sizeOf mv_X1_sizeOf ⟨by decide, by decide⟩ pC_10 ⟨_, _, rfl⟩ (Nat.le_of_ble_eq_true rfl) (c_X1_sizeOf  hg1) ?_
  refine aw_icmp_ge (tgt := 97) dX1_tryPairs_27 (by decide) (fun hc => ?_) (fun hc => ?_)
  · replace h := ip hc h
    exact aw_less (ls' := [none, none, none, none, none, none, none, none]) (trivial) (t_X1_tryPairs_97   s0 _ h)
  · replace h := ic hc h
    refine aw_iconst dX1_tryPairs_30 ⟨by decide, by decide⟩ ?_
    refine aw_istoreA dX1_tryPairs_31 (by decide) rfl ?_
    show AW _ _ _ 33 [some (vR (some 10)), some (vR (some 1)), some (vI x2), some (vI x3), some (vI x4), some (vI x5), some (vI x6), some (vI 0)] _ _
    exact (s_X1_tryPairs_33 k19 hk19 FU x2 x3 x4 x5 x6 0 s0 _ h)
def f_X1_tryPairs_19 : Nat → Int → Int → Int → Int → Int → SS → Option SS
  | 0 => fun _ _ _ _ _ _ => none
  | n + 1 => g_X1_tryPairs_19 (f_X1_tryPairs_19  n)
theorem s_X1_tryPairs_19  : ∀ (n : Nat), ∀ (x2 : Int) (x3 : Int) (x4 : Int) (x5 : Int) (x6 : Int) (s0 : SS) (r : SS), f_X1_tryPairs_19 n x2 x3 x4 x5 x6 s0 = some r → AW LC M_X1_tryPairs (none, r) 19 [some (vR (some 10)), some (vR (some 1)), some (vI x2), some (vI x3), some (vI x4), some (vI x5), some (vI x6), none] [] s0 := by
  intro n
  induction n with
  | zero =>
    intro x2 x3 x4 x5 x6 s0 r h
    cases h
  | succ n ih =>
    intro x2 x3 x4 x5 x6 s0 r h
    exact t_X1_tryPairs_19 (f_X1_tryPairs_19  n) ih x2 x3 x4 x5 x6 s0 r h
def f_X1_tryPairs (x2 : Int) (x3 : Int) (s0 : SS) : Option SS :=
  gx x2 40 <|
  sb (s0 7 x2.toNat) fun y1 =>
  gx x2 40 <|
  sb (s0 8 x2.toNat) fun y2 =>
  f_X1_tryPairs_19  FU x2 x3 y1 y2 0 s0
set_option maxHeartbeats 4000000 in
theorem t_X1_tryPairs_0  : ∀ (x2 : Int) (x3 : Int) (s0 : SS) (r : SS), f_X1_tryPairs x2 x3 s0 = some r → AW LC M_X1_tryPairs (none, r) 0 [some (vR (some 10)), some (vR (some 1)), some (vI x2), some (vI x3), none, none, none, none] [] s0 := by
  intro x2 x3 s0 r h
  unfold f_X1_tryPairs at h
  refine aw_aload_n dX1_tryPairs_0 rfl rfl ?_
  refine aw_getR (t := 7) dX1_tryPairs_1 fk_X1_55 pC_1 rfl ?_
  refine aw_iload_n dX1_tryPairs_4 rfl rfl ?_
  obtain ⟨hg1, h⟩ := gx_e h
  refine aw_iald dX1_tryPairs_5 aC_7 hg1 ?_
  refine aw_istore dX1_tryPairs_6 (by decide) rfl (fun y1 e => ?_)
  replace h := sb_e h e
  clear e
  show AW _ _ _ 8 [some (vR (some 10)), some (vR (some 1)), some (vI x2), some (vI x3), some (vI y1), none, none, none] _ _
  refine aw_aload_n dX1_tryPairs_8 rfl rfl ?_
  refine aw_getR (t := 8) dX1_tryPairs_9 fk_X1_62 pC_1 rfl ?_
  refine aw_iload_n dX1_tryPairs_12 rfl rfl ?_
  obtain ⟨hg2, h⟩ := gx_e h
  refine aw_iald dX1_tryPairs_13 aC_8 hg2 ?_
  refine aw_istore dX1_tryPairs_14 (by decide) rfl (fun y2 e => ?_)
  replace h := sb_e h e
  clear e
  show AW _ _ _ 16 [some (vR (some 10)), some (vR (some 1)), some (vI x2), some (vI x3), some (vI y1), some (vI y2), none, none] _ _
  refine aw_iconst dX1_tryPairs_16 ⟨by decide, by decide⟩ ?_
  refine aw_istoreA dX1_tryPairs_17 (by decide) rfl ?_
  show AW _ _ _ 19 [some (vR (some 10)), some (vR (some 1)), some (vI x2), some (vI x3), some (vI y1), some (vI y2), some (vI 0), none] _ _
  exact (s_X1_tryPairs_19   FU x2 x3 y1 y2 0 s0 _ h)
theorem c_X1_tryPairs {x2 : Int} {x3 : Int} {s0 : SS} {s1 : SS} (h : f_X1_tryPairs x2 x3 s0 = some s1) : CT LC M_X1_tryPairs [vR (some 10), vR (some 1), vI x2, vI x3] s0 (none, s1) :=
  ct_of (n := 4) (by decide) (Nat.le_of_ble_eq_true rfl) (t_X1_tryPairs_0 x2 x3 s0  _ h)
def g_X1_tryAlone_119  (s0 : SS) : Option SS :=
  some s0
set_option maxHeartbeats 4000000 in
theorem t_X1_tryAlone_119  : ∀ (s0 : SS) (r : SS), g_X1_tryAlone_119 s0 = some r → AW LC M_X1_tryAlone (none, r) 119 [none, none, none, none, none, none, none] [] s0 := by
  intro s0 r h
  unfold g_X1_tryAlone_119 at h
  obtain rfl := Option.some.inj h
  exact aw_vret dX1_tryAlone_119 rfl
def g_X1_tryAlone_113 (k11 : Int → Int → Int → Int → SS → Option SS) (x2 : Int) (x3 : Int) (x4 : Int) (x5 : Int) (s0 : SS) : Option SS :=
  sb (wr (x5 + 1)) fun y1 =>
  k11 x2 x3 x4 y1 s0
set_option maxHeartbeats 4000000 in
theorem t_X1_tryAlone_113 (k11 : Int → Int → Int → Int → SS → Option SS) (hk11 : ∀ (x2 : Int) (x3 : Int) (x4 : Int) (x5 : Int) (s0 : SS) (r : SS), k11 x2 x3 x4 x5 s0 = some r → AW LC M_X1_tryAlone (none, r) 11 [some (vR (some 10)), some (vR (some 1)), some (vI x2), some (vI x3), some (vI x4), some (vI x5), none] [] s0) : ∀ (x2 : Int) (x3 : Int) (x4 : Int) (x5 : Int) (s0 : SS) (r : SS), g_X1_tryAlone_113 k11 x2 x3 x4 x5 s0 = some r → AW LC M_X1_tryAlone (none, r) 113 [some (vR (some 10)), some (vR (some 1)), some (vI x2), some (vI x3), some (vI x4), some (vI x5), none] [] s0 := by
  intro x2 x3 x4 x5 s0 r h
  unfold g_X1_tryAlone_113 at h
  refine aw_iinc dX1_tryAlone_113 rfl (by decide) rfl (fun y1 e => ?_)
  replace h := sb_e h e
  clear e
  show AW _ _ _ 116 [some (vR (some 10)), some (vR (some 1)), some (vI x2), some (vI x3), some (vI x4), some (vI y1), none] _ _
  refine aw_goto (tgt := 11) dX1_tryAlone_116 (by decide) ?_
  exact (hk11 x2 x3 x4 y1 s0 _ h)
def g_X1_tryAlone_79 (k11 : Int → Int → Int → Int → SS → Option SS) (x2 : Int) (x3 : Int) (x4 : Int) (x5 : Int) (x6 : Int) (s0 : SS) : Option SS :=
  bn (f_X1_trialPlace x2 s0) fun y1 =>
  gx x2 40 <|
  gx x2 40 <|
  bn (f_X3_setMade 11 y1 (s0 3 x2.toNat) (s0 9 x2.toNat) x6 x6 s0) fun s1 =>
  bn (f_X1_tryLast x2 x3 s1) fun s2 =>
  g_X1_tryAlone_113 k11 x2 x3 x4 x5 s2
set_option maxHeartbeats 4000000 in
theorem t_X1_tryAlone_79 (k11 : Int → Int → Int → Int → SS → Option SS) (hk11 : ∀ (x2 : Int) (x3 : Int) (x4 : Int) (x5 : Int) (s0 : SS) (r : SS), k11 x2 x3 x4 x5 s0 = some r → AW LC M_X1_tryAlone (none, r) 11 [some (vR (some 10)), some (vR (some 1)), some (vI x2), some (vI x3), some (vI x4), some (vI x5), none] [] s0) : ∀ (x2 : Int) (x3 : Int) (x4 : Int) (x5 : Int) (x6 : Int) (s0 : SS) (r : SS), g_X1_tryAlone_79 k11 x2 x3 x4 x5 x6 s0 = some r → AW LC M_X1_tryAlone (none, r) 79 [some (vR (some 10)), some (vR (some 1)), some (vI x2), some (vI x3), some (vI x4), some (vI x5), some (vI x6)] [] s0 := by
  intro x2 x3 x4 x5 x6 s0 r h
  unfold g_X1_tryAlone_79 at h
  refine aw_aload_n dX1_tryAlone_79 rfl rfl ?_
  refine aw_getR (t := 11) dX1_tryAlone_80 fk_X1_14 pC_10 rfl ?_
  refine aw_aload_n dX1_tryAlone_83 rfl rfl ?_
  refine aw_iload_n dX1_tryAlone_84 rfl rfl ?_
  obtain ⟨y1, hg1, h⟩ := bn_e h
  refine aw_V1i (M2 := M_X1_trialPlace) dX1_tryAlone_85 lk_X1_76 mk_X1_trialPlace mv_X1_trialPlace ⟨by decide, by decide⟩ pC_10 ⟨_, _, rfl⟩ (Nat.le_of_ble_eq_true rfl) (c_X1_trialPlace  hg1) ?_
  refine aw_aload_n dX1_tryAlone_88 rfl rfl ?_
  refine aw_getR (t := 3) dX1_tryAlone_89 fk_X1_42 pC_1 rfl ?_
  refine aw_iload_n dX1_tryAlone_92 rfl rfl ?_
  obtain ⟨hg2, h⟩ := gx_e h
  refine aw_iald dX1_tryAlone_93 aC_3 hg2 ?_
  refine aw_aload_n dX1_tryAlone_94 rfl rfl ?_
  refine aw_getR (t := 9) dX1_tryAlone_95 fk_X1_45 pC_1 rfl ?_
  refine aw_iload_n dX1_tryAlone_98 rfl rfl ?_
  obtain ⟨hg3, h⟩ := gx_e h
  refine aw_iald dX1_tryAlone_99 aC_9 hg3 ?_
  refine aw_iload dX1_tryAlone_100 rfl ?_
  refine aw_iload dX1_tryAlone_102 rfl ?_
  obtain ⟨s1, hg4, h⟩ := bn_e h
  refine aw_V5v (M2 := M_X3_setMade) dX1_tryAlone_104 lk_X1_83 mk_X3_setMade mv_X3_setMade ⟨by decide, by decide⟩ pC_11 ⟨_, _, rfl⟩ (Nat.le_of_ble_eq_true rfl) (c_X3_setMade pC_11 hg4) ?_
  refine aw_aload_n dX1_tryAlone_107 rfl rfl ?_
  refine aw_iload_n dX1_tryAlone_108 rfl rfl ?_
  refine aw_iload_n dX1_tryAlone_109 rfl rfl ?_
  obtain ⟨s2, hg5, h⟩ := bn_e h
  refine aw_V2v (M2 := M_X1_tryLast) dX1_tryAlone_110 lk_X1_52 mk_X1_tryLast mv_X1_tryLast ⟨by decide, by decide⟩ pC_10 ⟨_, _, rfl⟩ (Nat.le_of_ble_eq_true rfl) (c_X1_tryLast  hg5) ?_
  exact aw_less (ls' := [some (vR (some 10)), some (vR (some 1)), some (vI x2), some (vI x3), some (vI x4), some (vI x5), none]) (⟨rfl, ⟨rfl, ⟨rfl, ⟨rfl, ⟨rfl, ⟨rfl, trivial⟩⟩⟩⟩⟩⟩) (t_X1_tryAlone_113 k11 hk11 x2 x3 x4 x5 s2 _ h)
def g_X1_tryAlone_11 (k11 : Int → Int → Int → Int → SS → Option SS) (x2 : Int) (x3 : Int) (x4 : Int) (x5 : Int) (s0 : SS) : Option SS :=
  bn (f_X1_sizeOf x4 s0) fun y1 =>
  if y1 ≤ x5 then (
    g_X1_tryAlone_119  s0
  ) else (
    sb (wr ((wr (x4 * 64)) + x5)) fun y2 =>
    gx x2 40 <|
    if (s0 3 x2.toNat) = 5 then (
      bn (f_X3_tell 11 y2 0 s0) fun y3 =>
      if y3 = 1 then (
        g_X1_tryAlone_79 k11 x2 x3 x4 x5 y2 s0
      ) else (
        sb (up s0 10 2 (wr ((s0 10 2) + 1))) fun s1 =>
        sb (up s1 10 3 (wr ((s1 10 3) + 1))) fun s2 =>
        g_X1_tryAlone_113 k11 x2 x3 x4 x5 s2
      )
    ) else (
      g_X1_tryAlone_79 k11 x2 x3 x4 x5 y2 s0
    )
  )
set_option maxHeartbeats 4000000 in
theorem t_X1_tryAlone_11 (k11 : Int → Int → Int → Int → SS → Option SS) (hk11 : ∀ (x2 : Int) (x3 : Int) (x4 : Int) (x5 : Int) (s0 : SS) (r : SS), k11 x2 x3 x4 x5 s0 = some r → AW LC M_X1_tryAlone (none, r) 11 [some (vR (some 10)), some (vR (some 1)), some (vI x2), some (vI x3), some (vI x4), some (vI x5), none] [] s0) : ∀ (x2 : Int) (x3 : Int) (x4 : Int) (x5 : Int) (s0 : SS) (r : SS), g_X1_tryAlone_11 k11 x2 x3 x4 x5 s0 = some r → AW LC M_X1_tryAlone (none, r) 11 [some (vR (some 10)), some (vR (some 1)), some (vI x2), some (vI x3), some (vI x4), some (vI x5), none] [] s0 := by
  intro x2 x3 x4 x5 s0 r h
  unfold g_X1_tryAlone_11 at h
  refine aw_iload dX1_tryAlone_11 rfl ?_
  refine aw_aload_n dX1_tryAlone_13 rfl rfl ?_
  refine aw_iload dX1_tryAlone_14 rfl ?_
  obtain ⟨y1, hg1, h⟩ := bn_e h
  refine aw_V1i (M2 := M_X1_sizeOf) dX1_tryAlone_16 lk_X1_72 mk_X1_sizeOf mv_X1_sizeOf ⟨by decide, by decide⟩ pC_10 ⟨_, _, rfl⟩ (Nat.le_of_ble_eq_true rfl) (c_X1_sizeOf  hg1) ?_
  refine aw_icmp_ge (tgt := 119) dX1_tryAlone_19 (by decide) (fun hc => ?_) (fun hc => ?_)
  · replace h := ip hc h
    exact aw_less (ls' := [none, none, none, none, none, none, none]) (trivial) (t_X1_tryAlone_119   s0 _ h)
  · replace h := ic hc h
    refine aw_iload dX1_tryAlone_22 rfl ?_
    refine aw_bipush dX1_tryAlone_24 ⟨by decide, by decide⟩ (by decide) ?_
    refine aw_imul dX1_tryAlone_26 ?_
    refine aw_iload dX1_tryAlone_27 rfl ?_
    refine aw_iadd dX1_tryAlone_29 ?_
    refine aw_istore dX1_tryAlone_30 (by decide) rfl (fun y2 e => ?_)
    replace h := sb_e h e
    clear e
    show AW _ _ _ 32 [some (vR (some 10)), some (vR (some 1)), some (vI x2), some (vI x3), some (vI x4), some (vI x5), some (vI y2)] _ _
    refine aw_aload_n dX1_tryAlone_32 rfl rfl ?_
    refine aw_getR (t := 3) dX1_tryAlone_33 fk_X1_42 pC_1 rfl ?_
    refine aw_iload_n dX1_tryAlone_36 rfl rfl ?_
    obtain ⟨hg2, h⟩ := gx_e h
    refine aw_iald dX1_tryAlone_37 aC_3 hg2 ?_
    refine aw_iconst dX1_tryAlone_38 ⟨by decide, by decide⟩ ?_
    refine aw_icmp_ne (tgt := 79) dX1_tryAlone_39 (by decide) (fun hc => ?_) (fun hc => ?_)
    rotate_left
    · replace h := ip hc h
      refine aw_aload_n dX1_tryAlone_42 rfl rfl ?_
      refine aw_getR (t := 11) dX1_tryAlone_43 fk_X1_14 pC_10 rfl ?_
      refine aw_iload dX1_tryAlone_46 rfl ?_
      refine aw_iconst dX1_tryAlone_48 ⟨by decide, by decide⟩ ?_
      obtain ⟨y3, hg3, h⟩ := bn_e h
      refine aw_V2i (M2 := M_X3_tell) dX1_tryAlone_49 lk_X1_87 mk_X3_tell mv_X3_tell ⟨by decide, by decide⟩ pC_11 ⟨_, _, rfl⟩ (Nat.le_of_ble_eq_true rfl) (c_X3_tell pC_11 hg3) ?_
      refine aw_iconst dX1_tryAlone_52 ⟨by decide, by decide⟩ ?_
      refine aw_icmp_eq (tgt := 79) dX1_tryAlone_53 (by decide) (fun hc => ?_) (fun hc => ?_)
      · replace h := ip hc h
        exact (t_X1_tryAlone_79 k11 hk11 x2 x3 x4 x5 y2 s0 _ h)
      · replace h := ic hc h
        refine aw_aload_n dX1_tryAlone_56 rfl rfl ?_
        refine aw_dup dX1_tryAlone_57 rfl ?_
        refine aw_getI dX1_tryAlone_58 fk_X1_24 pC_10 rfl ?_
        refine aw_iconst dX1_tryAlone_61 ⟨by decide, by decide⟩ ?_
        refine aw_iadd dX1_tryAlone_62 ?_
        refine aw_put dX1_tryAlone_63 fk_X1_24 pC_10 rfl ft_1_2 (nar_int _) (fun s1 e => ?_)
        replace h := sb_e h e
        clear e
        refine aw_aload_n dX1_tryAlone_66 rfl rfl ?_
        refine aw_dup dX1_tryAlone_67 rfl ?_
        refine aw_getI dX1_tryAlone_68 fk_X1_28 pC_10 rfl ?_
        refine aw_iconst dX1_tryAlone_71 ⟨by decide, by decide⟩ ?_
        refine aw_iadd dX1_tryAlone_72 ?_
        refine aw_put dX1_tryAlone_73 fk_X1_28 pC_10 rfl ft_1_3 (nar_int _) (fun s2 e => ?_)
        replace h := sb_e h e
        clear e
        refine aw_goto (tgt := 113) dX1_tryAlone_76 (by decide) ?_
        exact aw_less (ls' := [some (vR (some 10)), some (vR (some 1)), some (vI x2), some (vI x3), some (vI x4), some (vI x5), none]) (⟨rfl, ⟨rfl, ⟨rfl, ⟨rfl, ⟨rfl, ⟨rfl, trivial⟩⟩⟩⟩⟩⟩) (t_X1_tryAlone_113 k11 hk11 x2 x3 x4 x5 s2 _ h)
    · replace h := ic hc h
      exact (t_X1_tryAlone_79 k11 hk11 x2 x3 x4 x5 y2 s0 _ h)
def f_X1_tryAlone_11 : Nat → Int → Int → Int → Int → SS → Option SS
  | 0 => fun _ _ _ _ _ => none
  | n + 1 => g_X1_tryAlone_11 (f_X1_tryAlone_11  n)
theorem s_X1_tryAlone_11  : ∀ (n : Nat), ∀ (x2 : Int) (x3 : Int) (x4 : Int) (x5 : Int) (s0 : SS) (r : SS), f_X1_tryAlone_11 n x2 x3 x4 x5 s0 = some r → AW LC M_X1_tryAlone (none, r) 11 [some (vR (some 10)), some (vR (some 1)), some (vI x2), some (vI x3), some (vI x4), some (vI x5), none] [] s0 := by
  intro n
  induction n with
  | zero =>
    intro x2 x3 x4 x5 s0 r h
    cases h
  | succ n ih =>
    intro x2 x3 x4 x5 s0 r h
    exact t_X1_tryAlone_11 (f_X1_tryAlone_11  n) ih x2 x3 x4 x5 s0 r h
def f_X1_tryAlone (x2 : Int) (x3 : Int) (s0 : SS) : Option SS :=
  gx x2 40 <|
  sb (s0 7 x2.toNat) fun y1 =>
  f_X1_tryAlone_11  FU x2 x3 y1 0 s0
set_option maxHeartbeats 4000000 in
theorem t_X1_tryAlone_0  : ∀ (x2 : Int) (x3 : Int) (s0 : SS) (r : SS), f_X1_tryAlone x2 x3 s0 = some r → AW LC M_X1_tryAlone (none, r) 0 [some (vR (some 10)), some (vR (some 1)), some (vI x2), some (vI x3), none, none, none] [] s0 := by
  intro x2 x3 s0 r h
  unfold f_X1_tryAlone at h
  refine aw_aload_n dX1_tryAlone_0 rfl rfl ?_
  refine aw_getR (t := 7) dX1_tryAlone_1 fk_X1_55 pC_1 rfl ?_
  refine aw_iload_n dX1_tryAlone_4 rfl rfl ?_
  obtain ⟨hg1, h⟩ := gx_e h
  refine aw_iald dX1_tryAlone_5 aC_7 hg1 ?_
  refine aw_istore dX1_tryAlone_6 (by decide) rfl (fun y1 e => ?_)
  replace h := sb_e h e
  clear e
  show AW _ _ _ 8 [some (vR (some 10)), some (vR (some 1)), some (vI x2), some (vI x3), some (vI y1), none, none] _ _
  refine aw_iconst dX1_tryAlone_8 ⟨by decide, by decide⟩ ?_
  refine aw_istoreA dX1_tryAlone_9 (by decide) rfl ?_
  show AW _ _ _ 11 [some (vR (some 10)), some (vR (some 1)), some (vI x2), some (vI x3), some (vI y1), some (vI 0), none] _ _
  exact (s_X1_tryAlone_11   FU x2 x3 y1 0 s0 _ h)
theorem c_X1_tryAlone {x2 : Int} {x3 : Int} {s0 : SS} {s1 : SS} (h : f_X1_tryAlone x2 x3 s0 = some s1) : CT LC M_X1_tryAlone [vR (some 10), vR (some 1), vI x2, vI x3] s0 (none, s1) :=
  ct_of (n := 3) (by decide) (Nat.le_of_ble_eq_true rfl) (t_X1_tryAlone_0 x2 x3 s0  _ h)
def g_X1_make_165  (s0 : SS) : Option SS :=
  some s0
set_option maxHeartbeats 4000000 in
theorem t_X1_make_165  : ∀ (s0 : SS) (r : SS), g_X1_make_165 s0 = some r → AW LC M_X1_make (none, r) 165 [none, none, none, none] [] s0 := by
  intro s0 r h
  unfold g_X1_make_165 at h
  obtain rfl := Option.some.inj h
  exact aw_vret dX1_make_165 rfl
def g_X1_make_159 (k32 : Int → Int → SS → Option SS) (x2 : Int) (x3 : Int) (s0 : SS) : Option SS :=
  sb (wr (x3 + (-1))) fun y1 =>
  k32 x2 y1 s0
set_option maxHeartbeats 4000000 in
theorem t_X1_make_159 (k32 : Int → Int → SS → Option SS) (hk32 : ∀ (x2 : Int) (x3 : Int) (s0 : SS) (r : SS), k32 x2 x3 s0 = some r → AW LC M_X1_make (none, r) 32 [some (vR (some 10)), some (vR (some 1)), some (vI x2), some (vI x3)] [] s0) : ∀ (x2 : Int) (x3 : Int) (s0 : SS) (r : SS), g_X1_make_159 k32 x2 x3 s0 = some r → AW LC M_X1_make (none, r) 159 [some (vR (some 10)), some (vR (some 1)), some (vI x2), some (vI x3)] [] s0 := by
  intro x2 x3 s0 r h
  unfold g_X1_make_159 at h
  refine aw_iinc dX1_make_159 rfl (by decide) rfl (fun y1 e => ?_)
  replace h := sb_e h e
  clear e
  show AW _ _ _ 162 [some (vR (some 10)), some (vR (some 1)), some (vI x2), some (vI y1)] _ _
  refine aw_goto (tgt := 32) dX1_make_162 (by decide) ?_
  exact (hk32 x2 y1 s0 _ h)
def g_X1_make_142 (k32 : Int → Int → SS → Option SS) (x2 : Int) (x3 : Int) (s0 : SS) : Option SS :=
  bn (f_X1_tryPairs x3 x2 s0) fun s1 =>
  g_X1_make_159 k32 x2 x3 s1
set_option maxHeartbeats 4000000 in
theorem t_X1_make_142 (k32 : Int → Int → SS → Option SS) (hk32 : ∀ (x2 : Int) (x3 : Int) (s0 : SS) (r : SS), k32 x2 x3 s0 = some r → AW LC M_X1_make (none, r) 32 [some (vR (some 10)), some (vR (some 1)), some (vI x2), some (vI x3)] [] s0) : ∀ (x2 : Int) (x3 : Int) (s0 : SS) (r : SS), g_X1_make_142 k32 x2 x3 s0 = some r → AW LC M_X1_make (none, r) 142 [some (vR (some 10)), some (vR (some 1)), some (vI x2), some (vI x3)] [] s0 := by
  intro x2 x3 s0 r h
  unfold g_X1_make_142 at h
  refine aw_aload_n dX1_make_142 rfl rfl ?_
  refine aw_aload_n dX1_make_143 rfl rfl ?_
  refine aw_iload_n dX1_make_144 rfl rfl ?_
  refine aw_iload_n dX1_make_145 rfl rfl ?_
  obtain ⟨s1, hg1, h⟩ := bn_e h
  refine aw_V3v (M2 := M_X1_tryPairs) dX1_make_146 lk_X1_65 mk_X1_tryPairs mv_X1_tryPairs ⟨by decide, by decide⟩ pC_10 ⟨_, _, rfl⟩ (Nat.le_of_ble_eq_true rfl) (c_X1_tryPairs  hg1) ?_
  refine aw_goto (tgt := 159) dX1_make_149 (by decide) ?_
  exact (t_X1_make_159 k32 hk32 x2 x3 s1 _ h)
def g_X1_make_32 (k32 : Int → Int → SS → Option SS) (x2 : Int) (x3 : Int) (s0 : SS) : Option SS :=
  if x3 < 0 then (
    g_X1_make_165  s0
  ) else (
    gx x3 40 <|
    sb (up s0 16 x3.toNat 0) fun s1 =>
    gx x3 40 <|
    sb (s1 3 x3.toNat) fun y1 =>
    if y1 = 0 then (
      gx x3 40 <|
      bn (f_X3_setWord 11 (wr (x3 * 64)) (s1 9 x3.toNat) s1) fun s2 =>
      bn (f_X1_tryLast x3 x2 s2) fun s3 =>
      g_X1_make_159 k32 x2 x3 s3
    ) else (
    if y1 = 1 then (
      g_X1_make_142 k32 x2 x3 s1
    ) else (
    if y1 = 2 then (
      g_X1_make_142 k32 x2 x3 s1
    ) else (
    if y1 = 3 then (
      gx x3 40 <|
      bn (f_X1_tryEach x3 (s1 7 x3.toNat) 0 x2 s1) fun s4 =>
      gx x3 40 <|
      gx x3 40 <|
      bn (f_X1_tryEach x3 (s4 8 x3.toNat) (i_shl 1 (s4 9 x3.toNat)) x2 s4) fun s5 =>
      g_X1_make_159 k32 x2 x3 s5
    ) else (
      bn (f_X1_tryAlone x3 x2 s1) fun s6 =>
      g_X1_make_159 k32 x2 x3 s6
    )
    )
    )
    )
  )
set_option maxHeartbeats 4000000 in
theorem t_X1_make_32 (k32 : Int → Int → SS → Option SS) (hk32 : ∀ (x2 : Int) (x3 : Int) (s0 : SS) (r : SS), k32 x2 x3 s0 = some r → AW LC M_X1_make (none, r) 32 [some (vR (some 10)), some (vR (some 1)), some (vI x2), some (vI x3)] [] s0) : ∀ (x2 : Int) (x3 : Int) (s0 : SS) (r : SS), g_X1_make_32 k32 x2 x3 s0 = some r → AW LC M_X1_make (none, r) 32 [some (vR (some 10)), some (vR (some 1)), some (vI x2), some (vI x3)] [] s0 := by
  intro x2 x3 s0 r h
  unfold g_X1_make_32 at h
  refine aw_iload_n dX1_make_32 rfl rfl ?_
  refine aw_if_lt (tgt := 165) dX1_make_33 (by decide) (fun hc => ?_) (fun hc => ?_)
  · replace h := ip hc h
    exact aw_less (ls' := [none, none, none, none]) (trivial) (t_X1_make_165   s0 _ h)
  · replace h := ic hc h
    refine aw_aload_n dX1_make_36 rfl rfl ?_
    refine aw_getR (t := 16) dX1_make_37 fk_X1_20 pC_10 rfl ?_
    refine aw_iload_n dX1_make_40 rfl rfl ?_
    refine aw_iconst dX1_make_41 ⟨by decide, by decide⟩ ?_
    obtain ⟨hg1, h⟩ := gx_e h
    refine aw_iast dX1_make_42 aC_16 hg1 (fun s1 e => ?_)
    replace h := sb_e h e
    clear e
    refine aw_aload_n dX1_make_43 rfl rfl ?_
    refine aw_getR (t := 3) dX1_make_44 fk_X1_42 pC_1 rfl ?_
    refine aw_iload_n dX1_make_47 rfl rfl ?_
    obtain ⟨hg2, h⟩ := gx_e h
    refine aw_iald dX1_make_48 aC_3 hg2 ?_
    refine aw_name (fun y1 e => ?_)
    replace h := sb_e h e
    clear e
    by_cases hc : y1 = 0
    · replace h := ip hc h
      refine aw_tableIn (tgt := 80) dX1_make_49 (by rw [hc]; decide) (by rw [hc]; decide) (by rw [hc]; rfl) (by decide) ?_
      refine aw_aload_n dX1_make_80 rfl rfl ?_
      refine aw_getR (t := 11) dX1_make_81 fk_X1_14 pC_10 rfl ?_
      refine aw_iload_n dX1_make_84 rfl rfl ?_
      refine aw_bipush dX1_make_85 ⟨by decide, by decide⟩ (by decide) ?_
      refine aw_imul dX1_make_87 ?_
      refine aw_aload_n dX1_make_88 rfl rfl ?_
      refine aw_getR (t := 9) dX1_make_89 fk_X1_45 pC_1 rfl ?_
      refine aw_iload_n dX1_make_92 rfl rfl ?_
      obtain ⟨hg3, h⟩ := gx_e h
      refine aw_iald dX1_make_93 aC_9 hg3 ?_
      obtain ⟨s2, hg4, h⟩ := bn_e h
      refine aw_V2v (M2 := M_X3_setWord) dX1_make_94 lk_X1_48 mk_X3_setWord mv_X3_setWord ⟨by decide, by decide⟩ pC_11 ⟨_, _, rfl⟩ (Nat.le_of_ble_eq_true rfl) (c_X3_setWord pC_11 hg4) ?_
      refine aw_aload_n dX1_make_97 rfl rfl ?_
      refine aw_iload_n dX1_make_98 rfl rfl ?_
      refine aw_iload_n dX1_make_99 rfl rfl ?_
      obtain ⟨s3, hg5, h⟩ := bn_e h
      refine aw_V2v (M2 := M_X1_tryLast) dX1_make_100 lk_X1_52 mk_X1_tryLast mv_X1_tryLast ⟨by decide, by decide⟩ pC_10 ⟨_, _, rfl⟩ (Nat.le_of_ble_eq_true rfl) (c_X1_tryLast  hg5) ?_
      refine aw_goto (tgt := 159) dX1_make_103 (by decide) ?_
      exact (t_X1_make_159 k32 hk32 x2 x3 s3 _ h)
    replace h := ic hc h
    have hn0 := hc
    clear hc
    by_cases hc : y1 = 1
    · replace h := ip hc h
      refine aw_tableIn (tgt := 142) dX1_make_49 (by rw [hc]; decide) (by rw [hc]; decide) (by rw [hc]; rfl) (by decide) ?_
      exact (t_X1_make_142 k32 hk32 x2 x3 s1 _ h)
    replace h := ic hc h
    have hn1 := hc
    clear hc
    by_cases hc : y1 = 2
    · replace h := ip hc h
      refine aw_tableIn (tgt := 142) dX1_make_49 (by rw [hc]; decide) (by rw [hc]; decide) (by rw [hc]; rfl) (by decide) ?_
      exact (t_X1_make_142 k32 hk32 x2 x3 s1 _ h)
    replace h := ic hc h
    have hn2 := hc
    clear hc
    by_cases hc : y1 = 3
    · replace h := ip hc h
      refine aw_tableIn (tgt := 106) dX1_make_49 (by rw [hc]; decide) (by rw [hc]; decide) (by rw [hc]; rfl) (by decide) ?_
      refine aw_aload_n dX1_make_106 rfl rfl ?_
      refine aw_iload_n dX1_make_107 rfl rfl ?_
      refine aw_aload_n dX1_make_108 rfl rfl ?_
      refine aw_getR (t := 7) dX1_make_109 fk_X1_55 pC_1 rfl ?_
      refine aw_iload_n dX1_make_112 rfl rfl ?_
      obtain ⟨hg6, h⟩ := gx_e h
      refine aw_iald dX1_make_113 aC_7 hg6 ?_
      refine aw_iconst dX1_make_114 ⟨by decide, by decide⟩ ?_
      refine aw_iload_n dX1_make_115 rfl rfl ?_
      obtain ⟨s4, hg7, h⟩ := bn_e h
      refine aw_V4v (M2 := M_X1_tryEach) dX1_make_116 lk_X1_58 mk_X1_tryEach mv_X1_tryEach ⟨by decide, by decide⟩ pC_10 ⟨_, _, rfl⟩ (Nat.le_of_ble_eq_true rfl) (c_X1_tryEach  hg7) ?_
      refine aw_aload_n dX1_make_119 rfl rfl ?_
      refine aw_iload_n dX1_make_120 rfl rfl ?_
      refine aw_aload_n dX1_make_121 rfl rfl ?_
      refine aw_getR (t := 8) dX1_make_122 fk_X1_62 pC_1 rfl ?_
      refine aw_iload_n dX1_make_125 rfl rfl ?_
      obtain ⟨hg8, h⟩ := gx_e h
      refine aw_iald dX1_make_126 aC_8 hg8 ?_
      refine aw_iconst dX1_make_127 ⟨by decide, by decide⟩ ?_
      refine aw_aload_n dX1_make_128 rfl rfl ?_
      refine aw_getR (t := 9) dX1_make_129 fk_X1_45 pC_1 rfl ?_
      refine aw_iload_n dX1_make_132 rfl rfl ?_
      obtain ⟨hg9, h⟩ := gx_e h
      refine aw_iald dX1_make_133 aC_9 hg9 ?_
      refine aw_ishl dX1_make_134 ?_
      refine aw_iload_n dX1_make_135 rfl rfl ?_
      obtain ⟨s5, hg10, h⟩ := bn_e h
      refine aw_V4v (M2 := M_X1_tryEach) dX1_make_136 lk_X1_58 mk_X1_tryEach mv_X1_tryEach ⟨by decide, by decide⟩ pC_10 ⟨_, _, rfl⟩ (Nat.le_of_ble_eq_true rfl) (c_X1_tryEach  hg10) ?_
      refine aw_goto (tgt := 159) dX1_make_139 (by decide) ?_
      exact (t_X1_make_159 k32 hk32 x2 x3 s5 _ h)
    replace h := ic hc h
    have hn3 := hc
    clear hc
    have hK : AW LC M_X1_make (none, r) 152 [some (vR (some 10)), some (vR (some 1)), some (vI x2), some (vI x3)] [] s1 := by
      refine aw_aload_n dX1_make_152 rfl rfl ?_
      refine aw_aload_n dX1_make_153 rfl rfl ?_
      refine aw_iload_n dX1_make_154 rfl rfl ?_
      refine aw_iload_n dX1_make_155 rfl rfl ?_
      obtain ⟨s6, hg11, h⟩ := bn_e h
      refine aw_V3v (M2 := M_X1_tryAlone) dX1_make_156 lk_X1_69 mk_X1_tryAlone mv_X1_tryAlone ⟨by decide, by decide⟩ pC_10 ⟨_, _, rfl⟩ (Nat.le_of_ble_eq_true rfl) (c_X1_tryAlone  hg11) ?_
      exact (t_X1_make_159 k32 hk32 x2 x3 s6 _ h)
    by_cases hr : y1 < 0 ∨ 3 < y1
    · exact aw_tableOut (tgt := 152) dX1_make_49 hr (by decide) hK
    · exact absurd hr (by omega)
def f_X1_make_32 : Nat → Int → Int → SS → Option SS
  | 0 => fun _ _ _ => none
  | n + 1 => g_X1_make_32 (f_X1_make_32  n)
theorem s_X1_make_32  : ∀ (n : Nat), ∀ (x2 : Int) (x3 : Int) (s0 : SS) (r : SS), f_X1_make_32 n x2 x3 s0 = some r → AW LC M_X1_make (none, r) 32 [some (vR (some 10)), some (vR (some 1)), some (vI x2), some (vI x3)] [] s0 := by
  intro n
  induction n with
  | zero =>
    intro x2 x3 s0 r h
    cases h
  | succ n ih =>
    intro x2 x3 s0 r h
    exact t_X1_make_32 (f_X1_make_32  n) ih x2 x3 s0 r h
def f_X1_make (x2 : Int) (s0 : SS) : Option SS :=
  sb (up s0 10 2 0) fun s1 =>
  sb (up s1 10 3 0) fun s2 =>
  gx 0 40 <|
  sb (up s2 16 (0 : Int).toNat 0) fun s3 =>
  sb (wr ((if 40 < (s3 1 9) then 40 else (s3 1 9)) - 1)) fun y1 =>
  f_X1_make_32  FU x2 y1 s3
set_option maxHeartbeats 4000000 in
theorem t_X1_make_0  : ∀ (x2 : Int) (s0 : SS) (r : SS), f_X1_make x2 s0 = some r → AW LC M_X1_make (none, r) 0 [some (vR (some 10)), some (vR (some 1)), some (vI x2), none] [] s0 := by
  intro x2 s0 r h
  unfold f_X1_make at h
  refine aw_aload_n dX1_make_0 rfl rfl ?_
  refine aw_iconst dX1_make_1 ⟨by decide, by decide⟩ ?_
  refine aw_put dX1_make_2 fk_X1_24 pC_10 rfl ft_1_2 (nar_int _) (fun s1 e => ?_)
  replace h := sb_e h e
  clear e
  refine aw_aload_n dX1_make_5 rfl rfl ?_
  refine aw_iconst dX1_make_6 ⟨by decide, by decide⟩ ?_
  refine aw_put dX1_make_7 fk_X1_28 pC_10 rfl ft_1_3 (nar_int _) (fun s2 e => ?_)
  replace h := sb_e h e
  clear e
  refine aw_aload_n dX1_make_10 rfl rfl ?_
  refine aw_getR (t := 16) dX1_make_11 fk_X1_20 pC_10 rfl ?_
  refine aw_iconst dX1_make_14 ⟨by decide, by decide⟩ ?_
  refine aw_iconst dX1_make_15 ⟨by decide, by decide⟩ ?_
  obtain ⟨hg1, h⟩ := gx_e h
  refine aw_iast dX1_make_16 aC_16 hg1 (fun s3 e => ?_)
  replace h := sb_e h e
  clear e
  refine aw_aload_n dX1_make_17 rfl rfl ?_
  refine aw_getI dX1_make_18 fk_X1_31 pC_1 rfl ?_
  refine aw_aload_n dX1_make_21 rfl rfl ?_
  refine aw_getR (t := 16) dX1_make_22 fk_X1_20 pC_10 rfl ?_
  refine aw_alen dX1_make_25 aC_16 (by decide) ⟨by decide, by decide⟩ ?_
  refine aw_min dX1_make_26 lk_X1_36 jm_min_s jm_i jm_min_c ⟨by decide, by decide⟩ (Nat.le_of_ble_eq_true rfl) ?_
  refine aw_iconst dX1_make_29 ⟨by decide, by decide⟩ ?_
  refine aw_isub dX1_make_30 ?_
  refine aw_istore_n dX1_make_31 rfl (by decide) rfl (fun y1 e => ?_)
  replace h := sb_e h e
  clear e
  show AW _ _ _ 32 [some (vR (some 10)), some (vR (some 1)), some (vI x2), some (vI y1)] _ _
  exact (s_X1_make_32   FU x2 y1 s3 _ h)
theorem c_X1_make {x2 : Int} {s0 : SS} {s1 : SS} (h : f_X1_make x2 s0 = some s1) : CT LC M_X1_make [vR (some 10), vR (some 1), vI x2] s0 (none, s1) :=
  ct_of (n := 1) (by decide) (Nat.le_of_ble_eq_true rfl) (t_X1_make_0 x2 s0  _ h)
def g_X3_fewerLines_16  (s0 : SS) : Option Int :=
  some 0
set_option maxHeartbeats 4000000 in
theorem t_X3_fewerLines_16  : ∀ (s0 : SS) (r : Int), g_X3_fewerLines_16 s0 = some r → AW LC M_X3_fewerLines (some (vI r), s0) 16 [none, none, none] [] s0 := by
  intro s0 r h
  unfold g_X3_fewerLines_16 at h
  refine aw_iconst dX3_fewerLines_16 ⟨by decide, by decide⟩ ?_
  obtain rfl := Option.some.inj h
  exact aw_zret dX3_fewerLines_17 rfl (Or.inl rfl)
def g_X3_fewerLines_112 (z0 : Int) (s0 : SS) : Option Int :=
  gb z0 <|
  some z0
set_option maxHeartbeats 4000000 in
theorem t_X3_fewerLines_112  : ∀ (z0 : Int) (s0 : SS) (r : Int), g_X3_fewerLines_112 z0 s0 = some r → AW LC M_X3_fewerLines (some (vI r), s0) 112 [none, none, none] [vI z0] s0 := by
  intro z0 s0 r h
  unfold g_X3_fewerLines_112 at h
  obtain ⟨hg1, h⟩ := gb_e h
  obtain rfl := Option.some.inj h
  exact aw_zret dX3_fewerLines_112 rfl hg1
def g_X3_fewerLines_53 (z0 : Int) (s0 : SS) : Option Int :=
  gb z0 <|
  some z0
set_option maxHeartbeats 4000000 in
theorem t_X3_fewerLines_53  : ∀ (z0 : Int) (s0 : SS) (r : Int), g_X3_fewerLines_53 z0 s0 = some r → AW LC M_X3_fewerLines (some (vI r), s0) 53 [none, none, none] [vI z0] s0 := by
  intro z0 s0 r h
  unfold g_X3_fewerLines_53 at h
  obtain ⟨hg1, h⟩ := gb_e h
  obtain rfl := Option.some.inj h
  exact aw_zret dX3_fewerLines_53 rfl hg1
def f_X3_fewerLines (q : Nat) (x1 : Int) (x2 : Int) (s0 : SS) : Option Int :=
  bn (f_X3_has q x1 s0) fun y1 =>
  if y1 = 0 then (
    g_X3_fewerLines_16  s0
  ) else (
    bn (f_X3_has q x2 s0) fun y2 =>
    if y2 = 0 then (
      g_X3_fewerLines_16  s0
    ) else (
      gx x1 (shl q) <|
      gx x2 (shl q) <|
      if (s0 (q + 1 + 0) x1.toNat) = (s0 (q + 1 + 0) x2.toNat) then (
        gx x1 (shl q) <|
        gx x2 (shl q) <|
        if (s0 (q + 1 + 2) x1.toNat) = (s0 (q + 1 + 2) x2.toNat) then (
          gx x1 (shl q) <|
          gx x2 (shl q) <|
          if (s0 (q + 1 + 1) x2.toNat) ≤ (s0 (q + 1 + 1) x1.toNat) then (
            g_X3_fewerLines_112  0 s0
          ) else (
            g_X3_fewerLines_112  1 s0
          )
        ) else (
          gx x1 (shl q) <|
          gx x2 (shl q) <|
          if (s0 (q + 1 + 2) x2.toNat) ≤ (s0 (q + 1 + 2) x1.toNat) then (
            g_X3_fewerLines_112  0 s0
          ) else (
            g_X3_fewerLines_112  1 s0
          )
        )
      ) else (
        gx x1 (shl q) <|
        gx x2 (shl q) <|
        if (s0 (q + 1 + 0) x2.toNat) ≤ (s0 (q + 1 + 0) x1.toNat) then (
          g_X3_fewerLines_53  0 s0
        ) else (
          g_X3_fewerLines_53  1 s0
        )
      )
    )
  )
set_option maxHeartbeats 4000000 in
theorem t_X3_fewerLines_0  : ∀ (q : Nat) (x1 : Int) (x2 : Int) (s0 : SS) (hq : PL LC q 3) (r : Int), f_X3_fewerLines q x1 x2 s0 = some r → AW LC M_X3_fewerLines (some (vI r), s0) 0 [some (vR (some q)), some (vI x1), some (vI x2)] [] s0 := by
  intro q x1 x2 s0 hq r h
  unfold f_X3_fewerLines at h
  refine aw_aload_n dX3_fewerLines_0 rfl rfl ?_
  refine aw_iload_n dX3_fewerLines_1 rfl rfl ?_
  obtain ⟨y1, hg1, h⟩ := bn_e h
  refine aw_V1i (M2 := M_X3_has) dX3_fewerLines_2 lk_X3_34 mk_X3_has mv_X3_has ⟨by decide, by decide⟩ hq ⟨_, _, rfl⟩ (Nat.le_of_ble_eq_true rfl) (c_X3_has hq hg1) ?_
  refine aw_if_eq (tgt := 16) dX3_fewerLines_5 (by decide) (fun hc => ?_) (fun hc => ?_)
  · replace h := ip hc h
    exact aw_less (ls' := [none, none, none]) (trivial) (t_X3_fewerLines_16   s0 _ h)
  · replace h := ic hc h
    refine aw_aload_n dX3_fewerLines_8 rfl rfl ?_
    refine aw_iload_n dX3_fewerLines_9 rfl rfl ?_
    obtain ⟨y2, hg2, h⟩ := bn_e h
    refine aw_V1i (M2 := M_X3_has) dX3_fewerLines_10 lk_X3_34 mk_X3_has mv_X3_has ⟨by decide, by decide⟩ hq ⟨_, _, rfl⟩ (Nat.le_of_ble_eq_true rfl) (c_X3_has hq hg2) ?_
    refine aw_if_ne (tgt := 18) dX3_fewerLines_13 (by decide) (fun hc => ?_) (fun hc => ?_)
    rotate_left
    · replace h := ip hc h
      exact aw_less (ls' := [none, none, none]) (trivial) (t_X3_fewerLines_16   s0 _ h)
    · replace h := ic hc h
      refine aw_aload_n dX3_fewerLines_18 rfl rfl ?_
      refine aw_getR dX3_fewerLines_19 fk_X3_15 hq (sh_r hq (by decide)) ?_
      refine aw_iload_n dX3_fewerLines_22 rfl rfl ?_
      obtain ⟨hg3, h⟩ := gx_e h
      refine aw_iald dX3_fewerLines_23 (sh_a hq (k := 0) (by decide)) hg3 ?_
      refine aw_aload_n dX3_fewerLines_24 rfl rfl ?_
      refine aw_getR dX3_fewerLines_25 fk_X3_15 hq (sh_r hq (by decide)) ?_
      refine aw_iload_n dX3_fewerLines_28 rfl rfl ?_
      obtain ⟨hg4, h⟩ := gx_e h
      refine aw_iald dX3_fewerLines_29 (sh_a hq (k := 0) (by decide)) hg4 ?_
      refine aw_icmp_eq (tgt := 54) dX3_fewerLines_30 (by decide) (fun hc => ?_) (fun hc => ?_)
      · replace h := ip hc h
        refine aw_aload_n dX3_fewerLines_54 rfl rfl ?_
        refine aw_getR dX3_fewerLines_55 fk_X3_24 hq (sh_r hq (by decide)) ?_
        refine aw_iload_n dX3_fewerLines_58 rfl rfl ?_
        obtain ⟨hg5, h⟩ := gx_e h
        refine aw_iald dX3_fewerLines_59 (sh_a hq (k := 2) (by decide)) hg5 ?_
        refine aw_aload_n dX3_fewerLines_60 rfl rfl ?_
        refine aw_getR dX3_fewerLines_61 fk_X3_24 hq (sh_r hq (by decide)) ?_
        refine aw_iload_n dX3_fewerLines_64 rfl rfl ?_
        obtain ⟨hg6, h⟩ := gx_e h
        refine aw_iald dX3_fewerLines_65 (sh_a hq (k := 2) (by decide)) hg6 ?_
        refine aw_icmp_eq (tgt := 92) dX3_fewerLines_66 (by decide) (fun hc => ?_) (fun hc => ?_)
        · replace h := ip hc h
          refine aw_aload_n dX3_fewerLines_92 rfl rfl ?_
          refine aw_getR dX3_fewerLines_93 fk_X3_21 hq (sh_r hq (by decide)) ?_
          refine aw_iload_n dX3_fewerLines_96 rfl rfl ?_
          obtain ⟨hg7, h⟩ := gx_e h
          refine aw_iald dX3_fewerLines_97 (sh_a hq (k := 1) (by decide)) hg7 ?_
          refine aw_aload_n dX3_fewerLines_98 rfl rfl ?_
          refine aw_getR dX3_fewerLines_99 fk_X3_21 hq (sh_r hq (by decide)) ?_
          refine aw_iload_n dX3_fewerLines_102 rfl rfl ?_
          obtain ⟨hg8, h⟩ := gx_e h
          refine aw_iald dX3_fewerLines_103 (sh_a hq (k := 1) (by decide)) hg8 ?_
          refine aw_icmp_ge (tgt := 111) dX3_fewerLines_104 (by decide) (fun hc => ?_) (fun hc => ?_)
          · replace h := ip hc h
            refine aw_iconst dX3_fewerLines_111 ⟨by decide, by decide⟩ ?_
            exact aw_less (ls' := [none, none, none]) (trivial) (t_X3_fewerLines_112   0 s0 _ h)
          · replace h := ic hc h
            refine aw_iconst dX3_fewerLines_107 ⟨by decide, by decide⟩ ?_
            refine aw_goto (tgt := 112) dX3_fewerLines_108 (by decide) ?_
            exact aw_less (ls' := [none, none, none]) (trivial) (t_X3_fewerLines_112   1 s0 _ h)
        · replace h := ic hc h
          refine aw_aload_n dX3_fewerLines_69 rfl rfl ?_
          refine aw_getR dX3_fewerLines_70 fk_X3_24 hq (sh_r hq (by decide)) ?_
          refine aw_iload_n dX3_fewerLines_73 rfl rfl ?_
          obtain ⟨hg9, h⟩ := gx_e h
          refine aw_iald dX3_fewerLines_74 (sh_a hq (k := 2) (by decide)) hg9 ?_
          refine aw_aload_n dX3_fewerLines_75 rfl rfl ?_
          refine aw_getR dX3_fewerLines_76 fk_X3_24 hq (sh_r hq (by decide)) ?_
          refine aw_iload_n dX3_fewerLines_79 rfl rfl ?_
          obtain ⟨hg10, h⟩ := gx_e h
          refine aw_iald dX3_fewerLines_80 (sh_a hq (k := 2) (by decide)) hg10 ?_
          refine aw_icmp_ge (tgt := 88) dX3_fewerLines_81 (by decide) (fun hc => ?_) (fun hc => ?_)
          · replace h := ip hc h
            refine aw_iconst dX3_fewerLines_88 ⟨by decide, by decide⟩ ?_
            refine aw_goto (tgt := 112) dX3_fewerLines_89 (by decide) ?_
            exact aw_less (ls' := [none, none, none]) (trivial) (t_X3_fewerLines_112   0 s0 _ h)
          · replace h := ic hc h
            refine aw_iconst dX3_fewerLines_84 ⟨by decide, by decide⟩ ?_
            refine aw_goto (tgt := 112) dX3_fewerLines_85 (by decide) ?_
            exact aw_less (ls' := [none, none, none]) (trivial) (t_X3_fewerLines_112   1 s0 _ h)
      · replace h := ic hc h
        refine aw_aload_n dX3_fewerLines_33 rfl rfl ?_
        refine aw_getR dX3_fewerLines_34 fk_X3_15 hq (sh_r hq (by decide)) ?_
        refine aw_iload_n dX3_fewerLines_37 rfl rfl ?_
        obtain ⟨hg11, h⟩ := gx_e h
        refine aw_iald dX3_fewerLines_38 (sh_a hq (k := 0) (by decide)) hg11 ?_
        refine aw_aload_n dX3_fewerLines_39 rfl rfl ?_
        refine aw_getR dX3_fewerLines_40 fk_X3_15 hq (sh_r hq (by decide)) ?_
        refine aw_iload_n dX3_fewerLines_43 rfl rfl ?_
        obtain ⟨hg12, h⟩ := gx_e h
        refine aw_iald dX3_fewerLines_44 (sh_a hq (k := 0) (by decide)) hg12 ?_
        refine aw_icmp_ge (tgt := 52) dX3_fewerLines_45 (by decide) (fun hc => ?_) (fun hc => ?_)
        · replace h := ip hc h
          refine aw_iconst dX3_fewerLines_52 ⟨by decide, by decide⟩ ?_
          exact aw_less (ls' := [none, none, none]) (trivial) (t_X3_fewerLines_53   0 s0 _ h)
        · replace h := ic hc h
          refine aw_iconst dX3_fewerLines_48 ⟨by decide, by decide⟩ ?_
          refine aw_goto (tgt := 53) dX3_fewerLines_49 (by decide) ?_
          exact aw_less (ls' := [none, none, none]) (trivial) (t_X3_fewerLines_53   1 s0 _ h)
theorem c_X3_fewerLines {q : Nat} {x1 : Int} {x2 : Int} {s0 : SS} {y : Int} (hq : PL LC q 3) (h : f_X3_fewerLines q x1 x2 s0 = some y) : CT LC M_X3_fewerLines [vR (some q), vI x1, vI x2] s0 (some (vI y), s0) :=
  ct_of (n := 0) (by decide) (Nat.le_of_ble_eq_true rfl) (t_X3_fewerLines_0 q x1 x2 s0 hq _ h)
def g_X1_fewestLines_45 (x1 : Int) (s0 : SS) : Option Int :=
  some x1
set_option maxHeartbeats 4000000 in
theorem t_X1_fewestLines_45  : ∀ (x1 : Int) (s0 : SS) (r : Int), g_X1_fewestLines_45 x1 s0 = some r → AW LC M_X1_fewestLines (some (vI r), s0) 45 [none, some (vI x1), none] [] s0 := by
  intro x1 s0 r h
  unfold g_X1_fewestLines_45 at h
  refine aw_iload_n dX1_fewestLines_45 rfl rfl ?_
  obtain rfl := Option.some.inj h
  exact aw_iret dX1_fewestLines_46 rfl
def g_X1_fewestLines_39 (k16 : Int → Int → SS → Option Int) (x1 : Int) (x2 : Int) (s0 : SS) : Option Int :=
  sb (wr (x2 + 1)) fun y1 =>
  k16 x1 y1 s0
set_option maxHeartbeats 4000000 in
theorem t_X1_fewestLines_39 (k16 : Int → Int → SS → Option Int) (hk16 : ∀ (x1 : Int) (x2 : Int) (s0 : SS) (r : Int), k16 x1 x2 s0 = some r → AW LC M_X1_fewestLines (some (vI r), s0) 16 [some (vR (some 10)), some (vI x1), some (vI x2)] [] s0) : ∀ (x1 : Int) (x2 : Int) (s0 : SS) (r : Int), g_X1_fewestLines_39 k16 x1 x2 s0 = some r → AW LC M_X1_fewestLines (some (vI r), s0) 39 [some (vR (some 10)), some (vI x1), some (vI x2)] [] s0 := by
  intro x1 x2 s0 r h
  unfold g_X1_fewestLines_39 at h
  refine aw_iinc dX1_fewestLines_39 rfl (by decide) rfl (fun y1 e => ?_)
  replace h := sb_e h e
  clear e
  show AW _ _ _ 42 [some (vR (some 10)), some (vI x1), some (vI y1)] _ _
  refine aw_goto (tgt := 16) dX1_fewestLines_42 (by decide) ?_
  exact (hk16 x1 y1 s0 _ h)
def g_X1_fewestLines_16 (k16 : Int → Int → SS → Option Int) (x1 : Int) (x2 : Int) (s0 : SS) : Option Int :=
  bn (f_X1_sizeOf 0 s0) fun y1 =>
  if y1 ≤ x2 then (
    g_X1_fewestLines_45  x1 s0
  ) else (
    bn (f_X3_fewerLines 11 x2 x1 s0) fun y2 =>
    if y2 = 0 then (
      g_X1_fewestLines_39 k16 x1 x2 s0
    ) else (
      g_X1_fewestLines_39 k16 x2 x2 s0
    )
  )
set_option maxHeartbeats 4000000 in
theorem t_X1_fewestLines_16 (k16 : Int → Int → SS → Option Int) (hk16 : ∀ (x1 : Int) (x2 : Int) (s0 : SS) (r : Int), k16 x1 x2 s0 = some r → AW LC M_X1_fewestLines (some (vI r), s0) 16 [some (vR (some 10)), some (vI x1), some (vI x2)] [] s0) : ∀ (x1 : Int) (x2 : Int) (s0 : SS) (r : Int), g_X1_fewestLines_16 k16 x1 x2 s0 = some r → AW LC M_X1_fewestLines (some (vI r), s0) 16 [some (vR (some 10)), some (vI x1), some (vI x2)] [] s0 := by
  intro x1 x2 s0 r h
  unfold g_X1_fewestLines_16 at h
  refine aw_iload_n dX1_fewestLines_16 rfl rfl ?_
  refine aw_aload_n dX1_fewestLines_17 rfl rfl ?_
  refine aw_iconst dX1_fewestLines_18 ⟨by decide, by decide⟩ ?_
  obtain ⟨y1, hg1, h⟩ := bn_e h
  refine aw_V1i (M2 := M_X1_sizeOf) dX1_fewestLines_19 lk_X1_72 mk_X1_sizeOf mv_X1_sizeOf ⟨by decide, by decide⟩ pC_10 ⟨_, _, rfl⟩ (Nat.le_of_ble_eq_true rfl) (c_X1_sizeOf  hg1) ?_
  refine aw_icmp_ge (tgt := 45) dX1_fewestLines_22 (by decide) (fun hc => ?_) (fun hc => ?_)
  · replace h := ip hc h
    exact aw_less (ls' := [none, some (vI x1), none]) (⟨rfl, trivial⟩) (t_X1_fewestLines_45   x1 s0 _ h)
  · replace h := ic hc h
    refine aw_aload_n dX1_fewestLines_25 rfl rfl ?_
    refine aw_getR (t := 11) dX1_fewestLines_26 fk_X1_14 pC_10 rfl ?_
    refine aw_iload_n dX1_fewestLines_29 rfl rfl ?_
    refine aw_iload_n dX1_fewestLines_30 rfl rfl ?_
    obtain ⟨y2, hg2, h⟩ := bn_e h
    refine aw_V2i (M2 := M_X3_fewerLines) dX1_fewestLines_31 lk_X1_101 mk_X3_fewerLines mv_X3_fewerLines ⟨by decide, by decide⟩ pC_11 ⟨_, _, rfl⟩ (Nat.le_of_ble_eq_true rfl) (c_X3_fewerLines pC_11 hg2) ?_
    refine aw_if_eq (tgt := 39) dX1_fewestLines_34 (by decide) (fun hc => ?_) (fun hc => ?_)
    · replace h := ip hc h
      exact (t_X1_fewestLines_39 k16 hk16 x1 x2 s0 _ h)
    · replace h := ic hc h
      refine aw_iload_n dX1_fewestLines_37 rfl rfl ?_
      refine aw_istore_nA dX1_fewestLines_38 rfl (by decide) rfl ?_
      show AW _ _ _ 39 [some (vR (some 10)), some (vI x2), some (vI x2)] _ _
      exact (t_X1_fewestLines_39 k16 hk16 x2 x2 s0 _ h)
def f_X1_fewestLines_16 : Nat → Int → Int → SS → Option Int
  | 0 => fun _ _ _ => none
  | n + 1 => g_X1_fewestLines_16 (f_X1_fewestLines_16  n)
theorem s_X1_fewestLines_16  : ∀ (n : Nat), ∀ (x1 : Int) (x2 : Int) (s0 : SS) (r : Int), f_X1_fewestLines_16 n x1 x2 s0 = some r → AW LC M_X1_fewestLines (some (vI r), s0) 16 [some (vR (some 10)), some (vI x1), some (vI x2)] [] s0 := by
  intro n
  induction n with
  | zero =>
    intro x1 x2 s0 r h
    cases h
  | succ n ih =>
    intro x1 x2 s0 r h
    exact t_X1_fewestLines_16 (f_X1_fewestLines_16  n) ih x1 x2 s0 r h
def g_X1_fewestLines_13 (z0 : Int) (s0 : SS) : Option Int :=
  f_X1_fewestLines_16  FU z0 1 s0
set_option maxHeartbeats 4000000 in
theorem t_X1_fewestLines_13  : ∀ (z0 : Int) (s0 : SS) (r : Int), g_X1_fewestLines_13 z0 s0 = some r → AW LC M_X1_fewestLines (some (vI r), s0) 13 [some (vR (some 10)), none, none] [vI z0] s0 := by
  intro z0 s0 r h
  unfold g_X1_fewestLines_13 at h
  refine aw_istore_nA dX1_fewestLines_13 rfl (by decide) rfl ?_
  show AW _ _ _ 14 [some (vR (some 10)), some (vI z0), none] _ _
  refine aw_iconst dX1_fewestLines_14 ⟨by decide, by decide⟩ ?_
  refine aw_istore_nA dX1_fewestLines_15 rfl (by decide) rfl ?_
  show AW _ _ _ 16 [some (vR (some 10)), some (vI z0), some (vI 1)] _ _
  exact (s_X1_fewestLines_16   FU z0 1 s0 _ h)
def f_X1_fewestLines  (s0 : SS) : Option Int :=
  bn (f_X1_sizeOf 0 s0) fun y1 =>
  if y1 = 0 then (
    g_X1_fewestLines_13  (-1) s0
  ) else (
    g_X1_fewestLines_13  0 s0
  )
set_option maxHeartbeats 4000000 in
theorem t_X1_fewestLines_0  : ∀ (s0 : SS) (r : Int), f_X1_fewestLines s0 = some r → AW LC M_X1_fewestLines (some (vI r), s0) 0 [some (vR (some 10)), none, none] [] s0 := by
  intro s0 r h
  unfold f_X1_fewestLines at h
  refine aw_aload_n dX1_fewestLines_0 rfl rfl ?_
  refine aw_iconst dX1_fewestLines_1 ⟨by decide, by decide⟩ ?_
  obtain ⟨y1, hg1, h⟩ := bn_e h
  refine aw_V1i (M2 := M_X1_sizeOf) dX1_fewestLines_2 lk_X1_72 mk_X1_sizeOf mv_X1_sizeOf ⟨by decide, by decide⟩ pC_10 ⟨_, _, rfl⟩ (Nat.le_of_ble_eq_true rfl) (c_X1_sizeOf  hg1) ?_
  refine aw_if_ne (tgt := 12) dX1_fewestLines_5 (by decide) (fun hc => ?_) (fun hc => ?_)
  rotate_left
  · replace h := ip hc h
    refine aw_iconst dX1_fewestLines_8 ⟨by decide, by decide⟩ ?_
    refine aw_goto (tgt := 13) dX1_fewestLines_9 (by decide) ?_
    exact (t_X1_fewestLines_13   (-1) s0 _ h)
  · replace h := ic hc h
    refine aw_iconst dX1_fewestLines_12 ⟨by decide, by decide⟩ ?_
    exact (t_X1_fewestLines_13   0 s0 _ h)
theorem c_X1_fewestLines {s0 : SS} {y : Int} (h : f_X1_fewestLines s0 = some y) : CT LC M_X1_fewestLines [vR (some 10)] s0 (some (vI y), s0) :=
  ct_of (n := 2) (by decide) (Nat.le_of_ble_eq_true rfl) (t_X1_fewestLines_0  s0  _ h)
def g_X3_lessMost_16  (s0 : SS) : Option Int :=
  some 0
set_option maxHeartbeats 4000000 in
theorem t_X3_lessMost_16  : ∀ (s0 : SS) (r : Int), g_X3_lessMost_16 s0 = some r → AW LC M_X3_lessMost (some (vI r), s0) 16 [none, none, none] [] s0 := by
  intro s0 r h
  unfold g_X3_lessMost_16 at h
  refine aw_iconst dX3_lessMost_16 ⟨by decide, by decide⟩ ?_
  obtain rfl := Option.some.inj h
  exact aw_zret dX3_lessMost_17 rfl (Or.inl rfl)
def g_X3_lessMost_112 (z0 : Int) (s0 : SS) : Option Int :=
  gb z0 <|
  some z0
set_option maxHeartbeats 4000000 in
theorem t_X3_lessMost_112  : ∀ (z0 : Int) (s0 : SS) (r : Int), g_X3_lessMost_112 z0 s0 = some r → AW LC M_X3_lessMost (some (vI r), s0) 112 [none, none, none] [vI z0] s0 := by
  intro z0 s0 r h
  unfold g_X3_lessMost_112 at h
  obtain ⟨hg1, h⟩ := gb_e h
  obtain rfl := Option.some.inj h
  exact aw_zret dX3_lessMost_112 rfl hg1
def g_X3_lessMost_53 (z0 : Int) (s0 : SS) : Option Int :=
  gb z0 <|
  some z0
set_option maxHeartbeats 4000000 in
theorem t_X3_lessMost_53  : ∀ (z0 : Int) (s0 : SS) (r : Int), g_X3_lessMost_53 z0 s0 = some r → AW LC M_X3_lessMost (some (vI r), s0) 53 [none, none, none] [vI z0] s0 := by
  intro z0 s0 r h
  unfold g_X3_lessMost_53 at h
  obtain ⟨hg1, h⟩ := gb_e h
  obtain rfl := Option.some.inj h
  exact aw_zret dX3_lessMost_53 rfl hg1
def f_X3_lessMost (q : Nat) (x1 : Int) (x2 : Int) (s0 : SS) : Option Int :=
  bn (f_X3_has q x1 s0) fun y1 =>
  if y1 = 0 then (
    g_X3_lessMost_16  s0
  ) else (
    bn (f_X3_has q x2 s0) fun y2 =>
    if y2 = 0 then (
      g_X3_lessMost_16  s0
    ) else (
      gx x1 (shl q) <|
      gx x2 (shl q) <|
      if (s0 (q + 1 + 2) x1.toNat) = (s0 (q + 1 + 2) x2.toNat) then (
        gx x1 (shl q) <|
        gx x2 (shl q) <|
        if (s0 (q + 1 + 0) x1.toNat) = (s0 (q + 1 + 0) x2.toNat) then (
          gx x1 (shl q) <|
          gx x2 (shl q) <|
          if (s0 (q + 1 + 1) x2.toNat) ≤ (s0 (q + 1 + 1) x1.toNat) then (
            g_X3_lessMost_112  0 s0
          ) else (
            g_X3_lessMost_112  1 s0
          )
        ) else (
          gx x1 (shl q) <|
          gx x2 (shl q) <|
          if (s0 (q + 1 + 0) x2.toNat) ≤ (s0 (q + 1 + 0) x1.toNat) then (
            g_X3_lessMost_112  0 s0
          ) else (
            g_X3_lessMost_112  1 s0
          )
        )
      ) else (
        gx x1 (shl q) <|
        gx x2 (shl q) <|
        if (s0 (q + 1 + 2) x2.toNat) ≤ (s0 (q + 1 + 2) x1.toNat) then (
          g_X3_lessMost_53  0 s0
        ) else (
          g_X3_lessMost_53  1 s0
        )
      )
    )
  )
set_option maxHeartbeats 4000000 in
theorem t_X3_lessMost_0  : ∀ (q : Nat) (x1 : Int) (x2 : Int) (s0 : SS) (hq : PL LC q 3) (r : Int), f_X3_lessMost q x1 x2 s0 = some r → AW LC M_X3_lessMost (some (vI r), s0) 0 [some (vR (some q)), some (vI x1), some (vI x2)] [] s0 := by
  intro q x1 x2 s0 hq r h
  unfold f_X3_lessMost at h
  refine aw_aload_n dX3_lessMost_0 rfl rfl ?_
  refine aw_iload_n dX3_lessMost_1 rfl rfl ?_
  obtain ⟨y1, hg1, h⟩ := bn_e h
  refine aw_V1i (M2 := M_X3_has) dX3_lessMost_2 lk_X3_34 mk_X3_has mv_X3_has ⟨by decide, by decide⟩ hq ⟨_, _, rfl⟩ (Nat.le_of_ble_eq_true rfl) (c_X3_has hq hg1) ?_
  refine aw_if_eq (tgt := 16) dX3_lessMost_5 (by decide) (fun hc => ?_) (fun hc => ?_)
  · replace h := ip hc h
    exact aw_less (ls' := [none, none, none]) (trivial) (t_X3_lessMost_16   s0 _ h)
  · replace h := ic hc h
    refine aw_aload_n dX3_lessMost_8 rfl rfl ?_
    refine aw_iload_n dX3_lessMost_9 rfl rfl ?_
    obtain ⟨y2, hg2, h⟩ := bn_e h
    refine aw_V1i (M2 := M_X3_has) dX3_lessMost_10 lk_X3_34 mk_X3_has mv_X3_has ⟨by decide, by decide⟩ hq ⟨_, _, rfl⟩ (Nat.le_of_ble_eq_true rfl) (c_X3_has hq hg2) ?_
    refine aw_if_ne (tgt := 18) dX3_lessMost_13 (by decide) (fun hc => ?_) (fun hc => ?_)
    rotate_left
    · replace h := ip hc h
      exact aw_less (ls' := [none, none, none]) (trivial) (t_X3_lessMost_16   s0 _ h)
    · replace h := ic hc h
      refine aw_aload_n dX3_lessMost_18 rfl rfl ?_
      refine aw_getR dX3_lessMost_19 fk_X3_24 hq (sh_r hq (by decide)) ?_
      refine aw_iload_n dX3_lessMost_22 rfl rfl ?_
      obtain ⟨hg3, h⟩ := gx_e h
      refine aw_iald dX3_lessMost_23 (sh_a hq (k := 2) (by decide)) hg3 ?_
      refine aw_aload_n dX3_lessMost_24 rfl rfl ?_
      refine aw_getR dX3_lessMost_25 fk_X3_24 hq (sh_r hq (by decide)) ?_
      refine aw_iload_n dX3_lessMost_28 rfl rfl ?_
      obtain ⟨hg4, h⟩ := gx_e h
      refine aw_iald dX3_lessMost_29 (sh_a hq (k := 2) (by decide)) hg4 ?_
      refine aw_icmp_eq (tgt := 54) dX3_lessMost_30 (by decide) (fun hc => ?_) (fun hc => ?_)
      · replace h := ip hc h
        refine aw_aload_n dX3_lessMost_54 rfl rfl ?_
        refine aw_getR dX3_lessMost_55 fk_X3_15 hq (sh_r hq (by decide)) ?_
        refine aw_iload_n dX3_lessMost_58 rfl rfl ?_
        obtain ⟨hg5, h⟩ := gx_e h
        refine aw_iald dX3_lessMost_59 (sh_a hq (k := 0) (by decide)) hg5 ?_
        refine aw_aload_n dX3_lessMost_60 rfl rfl ?_
        refine aw_getR dX3_lessMost_61 fk_X3_15 hq (sh_r hq (by decide)) ?_
        refine aw_iload_n dX3_lessMost_64 rfl rfl ?_
        obtain ⟨hg6, h⟩ := gx_e h
        refine aw_iald dX3_lessMost_65 (sh_a hq (k := 0) (by decide)) hg6 ?_
        refine aw_icmp_eq (tgt := 92) dX3_lessMost_66 (by decide) (fun hc => ?_) (fun hc => ?_)
        · replace h := ip hc h
          refine aw_aload_n dX3_lessMost_92 rfl rfl ?_
          refine aw_getR dX3_lessMost_93 fk_X3_21 hq (sh_r hq (by decide)) ?_
          refine aw_iload_n dX3_lessMost_96 rfl rfl ?_
          obtain ⟨hg7, h⟩ := gx_e h
          refine aw_iald dX3_lessMost_97 (sh_a hq (k := 1) (by decide)) hg7 ?_
          refine aw_aload_n dX3_lessMost_98 rfl rfl ?_
          refine aw_getR dX3_lessMost_99 fk_X3_21 hq (sh_r hq (by decide)) ?_
          refine aw_iload_n dX3_lessMost_102 rfl rfl ?_
          obtain ⟨hg8, h⟩ := gx_e h
          refine aw_iald dX3_lessMost_103 (sh_a hq (k := 1) (by decide)) hg8 ?_
          refine aw_icmp_ge (tgt := 111) dX3_lessMost_104 (by decide) (fun hc => ?_) (fun hc => ?_)
          · replace h := ip hc h
            refine aw_iconst dX3_lessMost_111 ⟨by decide, by decide⟩ ?_
            exact aw_less (ls' := [none, none, none]) (trivial) (t_X3_lessMost_112   0 s0 _ h)
          · replace h := ic hc h
            refine aw_iconst dX3_lessMost_107 ⟨by decide, by decide⟩ ?_
            refine aw_goto (tgt := 112) dX3_lessMost_108 (by decide) ?_
            exact aw_less (ls' := [none, none, none]) (trivial) (t_X3_lessMost_112   1 s0 _ h)
        · replace h := ic hc h
          refine aw_aload_n dX3_lessMost_69 rfl rfl ?_
          refine aw_getR dX3_lessMost_70 fk_X3_15 hq (sh_r hq (by decide)) ?_
          refine aw_iload_n dX3_lessMost_73 rfl rfl ?_
          obtain ⟨hg9, h⟩ := gx_e h
          refine aw_iald dX3_lessMost_74 (sh_a hq (k := 0) (by decide)) hg9 ?_
          refine aw_aload_n dX3_lessMost_75 rfl rfl ?_
          refine aw_getR dX3_lessMost_76 fk_X3_15 hq (sh_r hq (by decide)) ?_
          refine aw_iload_n dX3_lessMost_79 rfl rfl ?_
          obtain ⟨hg10, h⟩ := gx_e h
          refine aw_iald dX3_lessMost_80 (sh_a hq (k := 0) (by decide)) hg10 ?_
          refine aw_icmp_ge (tgt := 88) dX3_lessMost_81 (by decide) (fun hc => ?_) (fun hc => ?_)
          · replace h := ip hc h
            refine aw_iconst dX3_lessMost_88 ⟨by decide, by decide⟩ ?_
            refine aw_goto (tgt := 112) dX3_lessMost_89 (by decide) ?_
            exact aw_less (ls' := [none, none, none]) (trivial) (t_X3_lessMost_112   0 s0 _ h)
          · replace h := ic hc h
            refine aw_iconst dX3_lessMost_84 ⟨by decide, by decide⟩ ?_
            refine aw_goto (tgt := 112) dX3_lessMost_85 (by decide) ?_
            exact aw_less (ls' := [none, none, none]) (trivial) (t_X3_lessMost_112   1 s0 _ h)
      · replace h := ic hc h
        refine aw_aload_n dX3_lessMost_33 rfl rfl ?_
        refine aw_getR dX3_lessMost_34 fk_X3_24 hq (sh_r hq (by decide)) ?_
        refine aw_iload_n dX3_lessMost_37 rfl rfl ?_
        obtain ⟨hg11, h⟩ := gx_e h
        refine aw_iald dX3_lessMost_38 (sh_a hq (k := 2) (by decide)) hg11 ?_
        refine aw_aload_n dX3_lessMost_39 rfl rfl ?_
        refine aw_getR dX3_lessMost_40 fk_X3_24 hq (sh_r hq (by decide)) ?_
        refine aw_iload_n dX3_lessMost_43 rfl rfl ?_
        obtain ⟨hg12, h⟩ := gx_e h
        refine aw_iald dX3_lessMost_44 (sh_a hq (k := 2) (by decide)) hg12 ?_
        refine aw_icmp_ge (tgt := 52) dX3_lessMost_45 (by decide) (fun hc => ?_) (fun hc => ?_)
        · replace h := ip hc h
          refine aw_iconst dX3_lessMost_52 ⟨by decide, by decide⟩ ?_
          exact aw_less (ls' := [none, none, none]) (trivial) (t_X3_lessMost_53   0 s0 _ h)
        · replace h := ic hc h
          refine aw_iconst dX3_lessMost_48 ⟨by decide, by decide⟩ ?_
          refine aw_goto (tgt := 53) dX3_lessMost_49 (by decide) ?_
          exact aw_less (ls' := [none, none, none]) (trivial) (t_X3_lessMost_53   1 s0 _ h)
theorem c_X3_lessMost {q : Nat} {x1 : Int} {x2 : Int} {s0 : SS} {y : Int} (hq : PL LC q 3) (h : f_X3_lessMost q x1 x2 s0 = some y) : CT LC M_X3_lessMost [vR (some q), vI x1, vI x2] s0 (some (vI y), s0) :=
  ct_of (n := 0) (by decide) (Nat.le_of_ble_eq_true rfl) (t_X3_lessMost_0 q x1 x2 s0 hq _ h)
