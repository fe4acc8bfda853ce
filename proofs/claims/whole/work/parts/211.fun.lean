def g_X3_setLike_39  (s0 : SS) : Option SS :=
  some s0
set_option maxHeartbeats 4000000 in
theorem t_X3_setLike_39  : ∀ (s0 : SS) (r : SS), g_X3_setLike_39 s0 = some r → AW LC M_X3_setLike (none, r) 39 [none, none, none, none] [] s0 := by
  intro s0 r h
  unfold g_X3_setLike_39 at h
  obtain rfl := Option.some.inj h
  exact aw_vret dX3_setLike_39 rfl
def f_X3_setLike (q : Nat) (x1 : Int) (x2 : Int) (x3 : Int) (s0 : SS) : Option SS :=
  bn (f_X3_has q x2 s0) fun y1 =>
  if y1 = 0 then (
    g_X3_setLike_39  s0
  ) else (
    gx x2 (shl q) <|
    gx x2 (shl q) <|
    gx x2 (shl q) <|
    gx x2 (shl q) <|
    bn (f_X3_set q x1 (s0 (q + 1 + 0) x2.toNat) (s0 (q + 1 + 1) x2.toNat) (s0 (q + 1 + 2) x2.toNat) (i_or (s0 (q + 1 + 3) x2.toNat) x3) s0) fun s1 =>
    g_X3_setLike_39  s1
  )
set_option maxHeartbeats 4000000 in
theorem t_X3_setLike_0  : ∀ (q : Nat) (x1 : Int) (x2 : Int) (x3 : Int) (s0 : SS) (hq : PL LC q 3) (r : SS), f_X3_setLike q x1 x2 x3 s0 = some r → AW LC M_X3_setLike (none, r) 0 [some (vR (some q)), some (vI x1), some (vI x2), some (vI x3)] [] s0 := by
  intro q x1 x2 x3 s0 hq r h
  unfold f_X3_setLike at h
  refine aw_aload_n dX3_setLike_0 rfl rfl ?_
  refine aw_iload_n dX3_setLike_1 rfl rfl ?_
  obtain ⟨y1, hg1, h⟩ := bn_e h
  refine aw_V1i (M2 := M_X3_has) dX3_setLike_2 lk_X3_34 mk_X3_has mv_X3_has ⟨by decide, by decide⟩ hq ⟨_, _, rfl⟩ (Nat.le_of_ble_eq_true rfl) (c_X3_has hq hg1) ?_
  refine aw_if_eq (tgt := 39) dX3_setLike_5 (by decide) (fun hc => ?_) (fun hc => ?_)
  · replace h := ip hc h
    exact aw_less (ls' := [none, none, none, none]) (trivial) (t_X3_setLike_39   s0 _ h)
  · replace h := ic hc h
    refine aw_aload_n dX3_setLike_8 rfl rfl ?_
    refine aw_iload_n dX3_setLike_9 rfl rfl ?_
    refine aw_aload_n dX3_setLike_10 rfl rfl ?_
    refine aw_getR dX3_setLike_11 fk_X3_15 hq (sh_r hq (by decide)) ?_
    refine aw_iload_n dX3_setLike_14 rfl rfl ?_
    obtain ⟨hg2, h⟩ := gx_e h
    refine aw_iald dX3_setLike_15 (sh_a hq (k := 0) (by decide)) hg2 ?_
    refine aw_aload_n dX3_setLike_16 rfl rfl ?_
    refine aw_getR dX3_setLike_17 fk_X3_21 hq (sh_r hq (by decide)) ?_
    refine aw_iload_n dX3_setLike_20 rfl rfl ?_
    obtain ⟨hg3, h⟩ := gx_e h
    refine aw_iald dX3_setLike_21 (sh_a hq (k := 1) (by decide)) hg3 ?_
    refine aw_aload_n dX3_setLike_22 rfl rfl ?_
    refine aw_getR dX3_setLike_23 fk_X3_24 hq (sh_r hq (by decide)) ?_
    refine aw_iload_n dX3_setLike_26 rfl rfl ?_
    obtain ⟨hg4, h⟩ := gx_e h
    refine aw_iald dX3_setLike_27 (sh_a hq (k := 2) (by decide)) hg4 ?_
    refine aw_aload_n dX3_setLike_28 rfl rfl ?_
    refine aw_getR dX3_setLike_29 fk_X3_27 hq (sh_r hq (by decide)) ?_
    refine aw_iload_n dX3_setLike_32 rfl rfl ?_
    obtain ⟨hg5, h⟩ := gx_e h
    refine aw_iald dX3_setLike_33 (sh_a hq (k := 3) (by decide)) hg5 ?_
    refine aw_iload_n dX3_setLike_34 rfl rfl ?_
    refine aw_ior dX3_setLike_35 ?_
    obtain ⟨s1, hg6, h⟩ := bn_e h
    refine aw_V5v (M2 := M_X3_set) dX3_setLike_36 lk_X3_30 mk_X3_set mv_X3_set ⟨by decide, by decide⟩ hq ⟨_, _, rfl⟩ (Nat.le_of_ble_eq_true rfl) (c_X3_set hq hg6) ?_
    exact aw_less (ls' := [none, none, none, none]) (trivial) (t_X3_setLike_39   s1 _ h)
theorem c_X3_setLike {q : Nat} {x1 : Int} {x2 : Int} {x3 : Int} {s0 : SS} {s1 : SS} (hq : PL LC q 3) (h : f_X3_setLike q x1 x2 x3 s0 = some s1) : CT LC M_X3_setLike [vR (some q), vI x1, vI x2, vI x3] s0 (none, s1) :=
  ct_of (n := 0) (by decide) (Nat.le_of_ble_eq_true rfl) (t_X3_setLike_0 q x1 x2 x3 s0 hq _ h)
def g_X3_tell_13  (s0 : SS) : Option Int :=
  some (-1)
set_option maxHeartbeats 4000000 in
theorem t_X3_tell_13  : ∀ (s0 : SS) (r : Int), g_X3_tell_13 s0 = some r → AW LC M_X3_tell (some (vI r), s0) 13 [none, none, none] [] s0 := by
  intro s0 r h
  unfold g_X3_tell_13 at h
  refine aw_iconst dX3_tell_13 ⟨by decide, by decide⟩ ?_
  obtain rfl := Option.some.inj h
  exact aw_iret dX3_tell_14 rfl
def f_X3_tell (q : Nat) (x1 : Int) (x2 : Int) (s0 : SS) : Option Int :=
  if x1 < 0 then (
    g_X3_tell_13  s0
  ) else (
    if x1 < ((shl q : Int)) then (
      if x2 = 0 then (
        gx x1 (shl q) <|
        some (s0 (q + 1 + 0) x1.toNat)
      ) else (
      if x2 = 1 then (
        gx x1 (shl q) <|
        some (s0 (q + 1 + 1) x1.toNat)
      ) else (
      if x2 = 2 then (
        gx x1 (shl q) <|
        some (s0 (q + 1 + 2) x1.toNat)
      ) else (
        gx x1 (shl q) <|
        some (s0 (q + 1 + 3) x1.toNat)
      )
      )
      )
    ) else (
      g_X3_tell_13  s0
    )
  )
set_option maxHeartbeats 4000000 in
theorem t_X3_tell_0  : ∀ (q : Nat) (x1 : Int) (x2 : Int) (s0 : SS) (hq : PL LC q 3) (r : Int), f_X3_tell q x1 x2 s0 = some r → AW LC M_X3_tell (some (vI r), s0) 0 [some (vR (some q)), some (vI x1), some (vI x2)] [] s0 := by
  intro q x1 x2 s0 hq r h
  unfold f_X3_tell at h
  refine aw_iload_n dX3_tell_0 rfl rfl ?_
  refine aw_if_lt (tgt := 13) dX3_tell_1 (by decide) (fun hc => ?_) (fun hc => ?_)
  · replace h := ip hc h
    exact aw_less (ls' := [none, none, none]) (trivial) (t_X3_tell_13   s0 _ h)
  · replace h := ic hc h
    refine aw_iload_n dX3_tell_4 rfl rfl ?_
    refine aw_aload_n dX3_tell_5 rfl rfl ?_
    refine aw_getR dX3_tell_6 fk_X3_15 hq (sh_r hq (by decide)) ?_
    refine aw_alen dX3_tell_9 (sh_a hq (k := 0) (by decide)) (by decide) (sh_l hq) ?_
    refine aw_icmp_lt (tgt := 15) dX3_tell_10 (by decide) (fun hc => ?_) (fun hc => ?_)
    · replace h := ip hc h
      refine aw_iload_n dX3_tell_15 rfl rfl ?_
      by_cases hc : x2 = 0
      · replace h := ip hc h
        refine aw_tableIn (tgt := 44) dX3_tell_16 (by rw [hc]; decide) (by rw [hc]; decide) (by rw [hc]; rfl) (by decide) ?_
        refine aw_aload_n dX3_tell_44 rfl rfl ?_
        refine aw_getR dX3_tell_45 fk_X3_15 hq (sh_r hq (by decide)) ?_
        refine aw_iload_n dX3_tell_48 rfl rfl ?_
        obtain ⟨hg1, h⟩ := gx_e h
        refine aw_iald dX3_tell_49 (sh_a hq (k := 0) (by decide)) hg1 ?_
        obtain rfl := Option.some.inj h
        exact aw_iret dX3_tell_50 rfl
      replace h := ic hc h
      have hn0 := hc
      clear hc
      by_cases hc : x2 = 1
      · replace h := ip hc h
        refine aw_tableIn (tgt := 51) dX3_tell_16 (by rw [hc]; decide) (by rw [hc]; decide) (by rw [hc]; rfl) (by decide) ?_
        refine aw_aload_n dX3_tell_51 rfl rfl ?_
        refine aw_getR dX3_tell_52 fk_X3_21 hq (sh_r hq (by decide)) ?_
        refine aw_iload_n dX3_tell_55 rfl rfl ?_
        obtain ⟨hg2, h⟩ := gx_e h
        refine aw_iald dX3_tell_56 (sh_a hq (k := 1) (by decide)) hg2 ?_
        obtain rfl := Option.some.inj h
        exact aw_iret dX3_tell_57 rfl
      replace h := ic hc h
      have hn1 := hc
      clear hc
      by_cases hc : x2 = 2
      · replace h := ip hc h
        refine aw_tableIn (tgt := 58) dX3_tell_16 (by rw [hc]; decide) (by rw [hc]; decide) (by rw [hc]; rfl) (by decide) ?_
        refine aw_aload_n dX3_tell_58 rfl rfl ?_
        refine aw_getR dX3_tell_59 fk_X3_24 hq (sh_r hq (by decide)) ?_
        refine aw_iload_n dX3_tell_62 rfl rfl ?_
        obtain ⟨hg3, h⟩ := gx_e h
        refine aw_iald dX3_tell_63 (sh_a hq (k := 2) (by decide)) hg3 ?_
        obtain rfl := Option.some.inj h
        exact aw_iret dX3_tell_64 rfl
      replace h := ic hc h
      have hn2 := hc
      clear hc
      have hK : AW LC M_X3_tell (some (vI r), s0) 65 [some (vR (some q)), some (vI x1), some (vI x2)] [] s0 := by
        refine aw_aload_n dX3_tell_65 rfl rfl ?_
        refine aw_getR dX3_tell_66 fk_X3_27 hq (sh_r hq (by decide)) ?_
        refine aw_iload_n dX3_tell_69 rfl rfl ?_
        obtain ⟨hg4, h⟩ := gx_e h
        refine aw_iald dX3_tell_70 (sh_a hq (k := 3) (by decide)) hg4 ?_
        obtain rfl := Option.some.inj h
        exact aw_iret dX3_tell_71 rfl
      by_cases hr : x2 < 0 ∨ 2 < x2
      · exact aw_tableOut (tgt := 65) dX3_tell_16 hr (by decide) hK
      · exact absurd hr (by omega)
    · replace h := ic hc h
      exact aw_less (ls' := [none, none, none]) (trivial) (t_X3_tell_13   s0 _ h)
theorem c_X3_tell {q : Nat} {x1 : Int} {x2 : Int} {s0 : SS} {y : Int} (hq : PL LC q 3) (h : f_X3_tell q x1 x2 s0 = some y) : CT LC M_X3_tell [vR (some q), vI x1, vI x2] s0 (some (vI y), s0) :=
  ct_of (n := 0) (by decide) (Nat.le_of_ble_eq_true rfl) (t_X3_tell_0 q x1 x2 s0 hq _ h)
def g_X5_stands_17 (z0 : Int) (s0 : SS) : Option Int :=
  gb z0 <|
  some z0
set_option maxHeartbeats 4000000 in
theorem t_X5_stands_17  : ∀ (z0 : Int) (s0 : SS) (r : Int), g_X5_stands_17 z0 s0 = some r → AW LC M_X5_stands (some (vI r), s0) 17 [none, none] [vI z0] s0 := by
  intro z0 s0 r h
  unfold g_X5_stands_17 at h
  obtain ⟨hg1, h⟩ := gb_e h
  obtain rfl := Option.some.inj h
  exact aw_zret dX5_stands_17 rfl hg1
def f_X5_stands (x1 : Int) (s0 : SS) : Option Int :=
  bn (f_X3_tell 23 x1 0 s0) fun y1 =>
  if y1 ≤ 0 then (
    g_X5_stands_17  0 s0
  ) else (
    g_X5_stands_17  1 s0
  )
set_option maxHeartbeats 4000000 in
theorem t_X5_stands_0  : ∀ (x1 : Int) (s0 : SS) (r : Int), f_X5_stands x1 s0 = some r → AW LC M_X5_stands (some (vI r), s0) 0 [some (vR (some 22)), some (vI x1)] [] s0 := by
  intro x1 s0 r h
  unfold f_X5_stands at h
  refine aw_aload_n dX5_stands_0 rfl rfl ?_
  refine aw_getR (t := 23) dX5_stands_1 fk_X5_14 pC_22 rfl ?_
  refine aw_iload_n dX5_stands_4 rfl rfl ?_
  refine aw_iconst dX5_stands_5 ⟨by decide, by decide⟩ ?_
  obtain ⟨y1, hg1, h⟩ := bn_e h
  refine aw_V2i (M2 := M_X3_tell) dX5_stands_6 lk_X5_101 mk_X3_tell mv_X3_tell ⟨by decide, by decide⟩ pC_23 ⟨_, _, rfl⟩ (Nat.le_of_ble_eq_true rfl) (c_X3_tell pC_23 hg1) ?_
  refine aw_if_le (tgt := 16) dX5_stands_9 (by decide) (fun hc => ?_) (fun hc => ?_)
  · replace h := ip hc h
    refine aw_iconst dX5_stands_16 ⟨by decide, by decide⟩ ?_
    exact aw_less (ls' := [none, none]) (trivial) (t_X5_stands_17   0 s0 _ h)
  · replace h := ic hc h
    refine aw_iconst dX5_stands_12 ⟨by decide, by decide⟩ ?_
    refine aw_goto (tgt := 17) dX5_stands_13 (by decide) ?_
    exact aw_less (ls' := [none, none]) (trivial) (t_X5_stands_17   1 s0 _ h)
theorem c_X5_stands {x1 : Int} {s0 : SS} {y : Int} (h : f_X5_stands x1 s0 = some y) : CT LC M_X5_stands [vR (some 22), vI x1] s0 (some (vI y), s0) :=
  ct_of (n := 0) (by decide) (Nat.le_of_ble_eq_true rfl) (t_X5_stands_0 x1 s0  _ h)
def g_X3_setMade_18  (s0 : SS) : Option SS :=
  some s0
set_option maxHeartbeats 4000000 in
theorem t_X3_setMade_18  : ∀ (s0 : SS) (r : SS), g_X3_setMade_18 s0 = some r → AW LC M_X3_setMade (none, r) 18 [none, none, none, none, none, none] [] s0 := by
  intro s0 r h
  unfold g_X3_setMade_18 at h
  obtain rfl := Option.some.inj h
  exact aw_vret dX3_setMade_18 rfl
def g_X3_setMade_227  (s0 : SS) : Option SS :=
  some s0
set_option maxHeartbeats 4000000 in
theorem t_X3_setMade_227  : ∀ (s0 : SS) (r : SS), g_X3_setMade_227 s0 = some r → AW LC M_X3_setMade (none, r) 227 [none, none, none, none, none, none] [] s0 := by
  intro s0 r h
  unfold g_X3_setMade_227 at h
  obtain rfl := Option.some.inj h
  exact aw_vret dX3_setMade_227 rfl
def f_X3_setMade (q : Nat) (x1 : Int) (x2 : Int) (x3 : Int) (x4 : Int) (x5 : Int) (s0 : SS) : Option SS :=
  bn (f_X3_has q x4 s0) fun y1 =>
  if y1 = 0 then (
    g_X3_setMade_18  s0
  ) else (
    bn (f_X3_has q x5 s0) fun y2 =>
    if y2 = 0 then (
      g_X3_setMade_18  s0
    ) else (
      if x2 = 1 then (
        gx x4 (shl q) <|
        gx x5 (shl q) <|
        gx x4 (shl q) <|
        gx x5 (shl q) <|
        gx x4 (shl q) <|
        gx x4 (shl q) <|
        gx x5 (shl q) <|
        gx x4 (shl q) <|
        gx x5 (shl q) <|
        bn (f_X3_set q x1 (wr ((wr ((s0 (q + 1 + 0) x4.toNat) + (s0 (q + 1 + 0) x5.toNat))) - 1)) (wr ((s0 (q + 1 + 1) x4.toNat) + (s0 (q + 1 + 1) x5.toNat))) (if (s0 (q + 1 + 2) x4.toNat) < (wr ((s0 (q + 1 + 1) x4.toNat) + (s0 (q + 1 + 2) x5.toNat))) then (wr ((s0 (q + 1 + 1) x4.toNat) + (s0 (q + 1 + 2) x5.toNat))) else (s0 (q + 1 + 2) x4.toNat)) (i_or (s0 (q + 1 + 3) x4.toNat) (s0 (q + 1 + 3) x5.toNat)) s0) fun s1 =>
        g_X3_setMade_227  s1
      ) else (
      if x2 = 2 then (
        gx x4 (shl q) <|
        gx x5 (shl q) <|
        gx x5 (shl q) <|
        gx x4 (shl q) <|
        gx x5 (shl q) <|
        gx x4 (shl q) <|
        gx x5 (shl q) <|
        bn (f_X3_set q x1 (wr ((s0 (q + 1 + 0) x4.toNat) + (s0 (q + 1 + 0) x5.toNat))) (s0 (q + 1 + 1) x5.toNat) (if (s0 (q + 1 + 2) x4.toNat) < (s0 (q + 1 + 2) x5.toNat) then (s0 (q + 1 + 2) x5.toNat) else (s0 (q + 1 + 2) x4.toNat)) (i_or (s0 (q + 1 + 3) x4.toNat) (s0 (q + 1 + 3) x5.toNat)) s0) fun s2 =>
        g_X3_setMade_227  s2
      ) else (
        gx x4 (shl q) <|
        gx x4 (shl q) <|
        gx x4 (shl q) <|
        gx x4 (shl q) <|
        bn (f_X3_set q x1 (s0 (q + 1 + 0) x4.toNat) (wr ((s0 (q + 1 + 1) x4.toNat) + x3)) (wr ((s0 (q + 1 + 2) x4.toNat) + x3)) (s0 (q + 1 + 3) x4.toNat) s0) fun s3 =>
        g_X3_setMade_227  s3
      )
      )
    )
  )
set_option maxHeartbeats 4000000 in
theorem t_X3_setMade_0  : ∀ (q : Nat) (x1 : Int) (x2 : Int) (x3 : Int) (x4 : Int) (x5 : Int) (s0 : SS) (hq : PL LC q 3) (r : SS), f_X3_setMade q x1 x2 x3 x4 x5 s0 = some r → AW LC M_X3_setMade (none, r) 0 [some (vR (some q)), some (vI x1), some (vI x2), some (vI x3), some (vI x4), some (vI x5)] [] s0 := by
  intro q x1 x2 x3 x4 x5 s0 hq r h
  unfold f_X3_setMade at h
  refine aw_aload_n dX3_setMade_0 rfl rfl ?_
  refine aw_iload dX3_setMade_1 rfl ?_
  obtain ⟨y1, hg1, h⟩ := bn_e h
  refine aw_V1i (M2 := M_X3_has) dX3_setMade_3 lk_X3_34 mk_X3_has mv_X3_has ⟨by decide, by decide⟩ hq ⟨_, _, rfl⟩ (Nat.le_of_ble_eq_true rfl) (c_X3_has hq hg1) ?_
  refine aw_if_eq (tgt := 18) dX3_setMade_6 (by decide) (fun hc => ?_) (fun hc => ?_)
  · replace h := ip hc h
    exact aw_less (ls' := [none, none, none, none, none, none]) (trivial) (t_X3_setMade_18   s0 _ h)
  · replace h := ic hc h
    refine aw_aload_n dX3_setMade_9 rfl rfl ?_
    refine aw_iload dX3_setMade_10 rfl ?_
    obtain ⟨y2, hg2, h⟩ := bn_e h
    refine aw_V1i (M2 := M_X3_has) dX3_setMade_12 lk_X3_34 mk_X3_has mv_X3_has ⟨by decide, by decide⟩ hq ⟨_, _, rfl⟩ (Nat.le_of_ble_eq_true rfl) (c_X3_has hq hg2) ?_
    refine aw_if_ne (tgt := 19) dX3_setMade_15 (by decide) (fun hc => ?_) (fun hc => ?_)
    rotate_left
    · replace h := ip hc h
      exact aw_less (ls' := [none, none, none, none, none, none]) (trivial) (t_X3_setMade_18   s0 _ h)
    · replace h := ic hc h
      refine aw_iload_n dX3_setMade_19 rfl rfl ?_
      by_cases hc : x2 = 1
      · replace h := ip hc h
        refine aw_lookup (tgt := 48) dX3_setMade_20 (by decide) (by rw [hc]) (by decide) ?_
        refine aw_aload_n dX3_setMade_48 rfl rfl ?_
        refine aw_iload_n dX3_setMade_49 rfl rfl ?_
        refine aw_aload_n dX3_setMade_50 rfl rfl ?_
        refine aw_getR dX3_setMade_51 fk_X3_15 hq (sh_r hq (by decide)) ?_
        refine aw_iload dX3_setMade_54 rfl ?_
        obtain ⟨hg3, h⟩ := gx_e h
        refine aw_iald dX3_setMade_56 (sh_a hq (k := 0) (by decide)) hg3 ?_
        refine aw_aload_n dX3_setMade_57 rfl rfl ?_
        refine aw_getR dX3_setMade_58 fk_X3_15 hq (sh_r hq (by decide)) ?_
        refine aw_iload dX3_setMade_61 rfl ?_
        obtain ⟨hg4, h⟩ := gx_e h
        refine aw_iald dX3_setMade_63 (sh_a hq (k := 0) (by decide)) hg4 ?_
        refine aw_iadd dX3_setMade_64 ?_
        refine aw_iconst dX3_setMade_65 ⟨by decide, by decide⟩ ?_
        refine aw_isub dX3_setMade_66 ?_
        refine aw_aload_n dX3_setMade_67 rfl rfl ?_
        refine aw_getR dX3_setMade_68 fk_X3_21 hq (sh_r hq (by decide)) ?_
        refine aw_iload dX3_setMade_71 rfl ?_
        obtain ⟨hg5, h⟩ := gx_e h
        refine aw_iald dX3_setMade_73 (sh_a hq (k := 1) (by decide)) hg5 ?_
        refine aw_aload_n dX3_setMade_74 rfl rfl ?_
        refine aw_getR dX3_setMade_75 fk_X3_21 hq (sh_r hq (by decide)) ?_
        refine aw_iload dX3_setMade_78 rfl ?_
        obtain ⟨hg6, h⟩ := gx_e h
        refine aw_iald dX3_setMade_80 (sh_a hq (k := 1) (by decide)) hg6 ?_
        refine aw_iadd dX3_setMade_81 ?_
        refine aw_aload_n dX3_setMade_82 rfl rfl ?_
        refine aw_getR dX3_setMade_83 fk_X3_24 hq (sh_r hq (by decide)) ?_
        refine aw_iload dX3_setMade_86 rfl ?_
        obtain ⟨hg7, h⟩ := gx_e h
        refine aw_iald dX3_setMade_88 (sh_a hq (k := 2) (by decide)) hg7 ?_
        refine aw_aload_n dX3_setMade_89 rfl rfl ?_
        refine aw_getR dX3_setMade_90 fk_X3_21 hq (sh_r hq (by decide)) ?_
        refine aw_iload dX3_setMade_93 rfl ?_
        obtain ⟨hg8, h⟩ := gx_e h
        refine aw_iald dX3_setMade_95 (sh_a hq (k := 1) (by decide)) hg8 ?_
        refine aw_aload_n dX3_setMade_96 rfl rfl ?_
        refine aw_getR dX3_setMade_97 fk_X3_24 hq (sh_r hq (by decide)) ?_
        refine aw_iload dX3_setMade_100 rfl ?_
        obtain ⟨hg9, h⟩ := gx_e h
        refine aw_iald dX3_setMade_102 (sh_a hq (k := 2) (by decide)) hg9 ?_
        refine aw_iadd dX3_setMade_103 ?_
        refine aw_max dX3_setMade_104 lk_X3_9 jm_max_s jm_i jm_max_c ⟨by decide, by decide⟩ (Nat.le_of_ble_eq_true rfl) ?_
        refine aw_aload_n dX3_setMade_107 rfl rfl ?_
        refine aw_getR dX3_setMade_108 fk_X3_27 hq (sh_r hq (by decide)) ?_
        refine aw_iload dX3_setMade_111 rfl ?_
        obtain ⟨hg10, h⟩ := gx_e h
        refine aw_iald dX3_setMade_113 (sh_a hq (k := 3) (by decide)) hg10 ?_
        refine aw_aload_n dX3_setMade_114 rfl rfl ?_
        refine aw_getR dX3_setMade_115 fk_X3_27 hq (sh_r hq (by decide)) ?_
        refine aw_iload dX3_setMade_118 rfl ?_
        obtain ⟨hg11, h⟩ := gx_e h
        refine aw_iald dX3_setMade_120 (sh_a hq (k := 3) (by decide)) hg11 ?_
        refine aw_ior dX3_setMade_121 ?_
        obtain ⟨s1, hg12, h⟩ := bn_e h
        refine aw_V5v (M2 := M_X3_set) dX3_setMade_122 lk_X3_30 mk_X3_set mv_X3_set ⟨by decide, by decide⟩ hq ⟨_, _, rfl⟩ (Nat.le_of_ble_eq_true rfl) (c_X3_set hq hg12) ?_
        refine aw_goto (tgt := 227) dX3_setMade_125 (by decide) ?_
        exact aw_less (ls' := [none, none, none, none, none, none]) (trivial) (t_X3_setMade_227   s1 _ h)
      replace h := ic hc h
      have hn1 := hc
      clear hc
      by_cases hc : x2 = 2
      · replace h := ip hc h
        refine aw_lookup (tgt := 128) dX3_setMade_20 (by decide) (by rw [hc]) (by decide) ?_
        refine aw_aload_n dX3_setMade_128 rfl rfl ?_
        refine aw_iload_n dX3_setMade_129 rfl rfl ?_
        refine aw_aload_n dX3_setMade_130 rfl rfl ?_
        refine aw_getR dX3_setMade_131 fk_X3_15 hq (sh_r hq (by decide)) ?_
        refine aw_iload dX3_setMade_134 rfl ?_
        obtain ⟨hg13, h⟩ := gx_e h
        refine aw_iald dX3_setMade_136 (sh_a hq (k := 0) (by decide)) hg13 ?_
        refine aw_aload_n dX3_setMade_137 rfl rfl ?_
        refine aw_getR dX3_setMade_138 fk_X3_15 hq (sh_r hq (by decide)) ?_
        refine aw_iload dX3_setMade_141 rfl ?_
        obtain ⟨hg14, h⟩ := gx_e h
        refine aw_iald dX3_setMade_143 (sh_a hq (k := 0) (by decide)) hg14 ?_
        refine aw_iadd dX3_setMade_144 ?_
        refine aw_aload_n dX3_setMade_145 rfl rfl ?_
        refine aw_getR dX3_setMade_146 fk_X3_21 hq (sh_r hq (by decide)) ?_
        refine aw_iload dX3_setMade_149 rfl ?_
        obtain ⟨hg15, h⟩ := gx_e h
        refine aw_iald dX3_setMade_151 (sh_a hq (k := 1) (by decide)) hg15 ?_
        refine aw_aload_n dX3_setMade_152 rfl rfl ?_
        refine aw_getR dX3_setMade_153 fk_X3_24 hq (sh_r hq (by decide)) ?_
        refine aw_iload dX3_setMade_156 rfl ?_
        obtain ⟨hg16, h⟩ := gx_e h
        refine aw_iald dX3_setMade_158 (sh_a hq (k := 2) (by decide)) hg16 ?_
        refine aw_aload_n dX3_setMade_159 rfl rfl ?_
        refine aw_getR dX3_setMade_160 fk_X3_24 hq (sh_r hq (by decide)) ?_
        refine aw_iload dX3_setMade_163 rfl ?_
        obtain ⟨hg17, h⟩ := gx_e h
        refine aw_iald dX3_setMade_165 (sh_a hq (k := 2) (by decide)) hg17 ?_
        refine aw_max dX3_setMade_166 lk_X3_9 jm_max_s jm_i jm_max_c ⟨by decide, by decide⟩ (Nat.le_of_ble_eq_true rfl) ?_
        refine aw_aload_n dX3_setMade_169 rfl rfl ?_
        refine aw_getR dX3_setMade_170 fk_X3_27 hq (sh_r hq (by decide)) ?_
        refine aw_iload dX3_setMade_173 rfl ?_
        obtain ⟨hg18, h⟩ := gx_e h
        refine aw_iald dX3_setMade_175 (sh_a hq (k := 3) (by decide)) hg18 ?_
        refine aw_aload_n dX3_setMade_176 rfl rfl ?_
        refine aw_getR dX3_setMade_177 fk_X3_27 hq (sh_r hq (by decide)) ?_
        refine aw_iload dX3_setMade_180 rfl ?_
        obtain ⟨hg19, h⟩ := gx_e h
        refine aw_iald dX3_setMade_182 (sh_a hq (k := 3) (by decide)) hg19 ?_
        refine aw_ior dX3_setMade_183 ?_
        obtain ⟨s2, hg20, h⟩ := bn_e h
        refine aw_V5v (M2 := M_X3_set) dX3_setMade_184 lk_X3_30 mk_X3_set mv_X3_set ⟨by decide, by decide⟩ hq ⟨_, _, rfl⟩ (Nat.le_of_ble_eq_true rfl) (c_X3_set hq hg20) ?_
        refine aw_goto (tgt := 227) dX3_setMade_187 (by decide) ?_
        exact aw_less (ls' := [none, none, none, none, none, none]) (trivial) (t_X3_setMade_227   s2 _ h)
      replace h := ic hc h
      have hn2 := hc
      clear hc
      refine aw_lookup (tgt := 190) dX3_setMade_20 (by decide) (off := 170) (by
          simp only [Op.lookupswitch.offset_cons]
          rw [if_neg (by omega), if_neg (by omega)]
          rfl) (by decide) ?_
      refine aw_aload_n dX3_setMade_190 rfl rfl ?_
      refine aw_iload_n dX3_setMade_191 rfl rfl ?_
      refine aw_aload_n dX3_setMade_192 rfl rfl ?_
      refine aw_getR dX3_setMade_193 fk_X3_15 hq (sh_r hq (by decide)) ?_
      refine aw_iload dX3_setMade_196 rfl ?_
      obtain ⟨hg21, h⟩ := gx_e h
      refine aw_iald dX3_setMade_198 (sh_a hq (k := 0) (by decide)) hg21 ?_
      refine aw_aload_n dX3_setMade_199 rfl rfl ?_
      refine aw_getR dX3_setMade_200 fk_X3_21 hq (sh_r hq (by decide)) ?_
      refine aw_iload dX3_setMade_203 rfl ?_
      obtain ⟨hg22, h⟩ := gx_e h
      refine aw_iald dX3_setMade_205 (sh_a hq (k := 1) (by decide)) hg22 ?_
      refine aw_iload_n dX3_setMade_206 rfl rfl ?_
      refine aw_iadd dX3_setMade_207 ?_
      refine aw_aload_n dX3_setMade_208 rfl rfl ?_
      refine aw_getR dX3_setMade_209 fk_X3_24 hq (sh_r hq (by decide)) ?_
      refine aw_iload dX3_setMade_212 rfl ?_
      obtain ⟨hg23, h⟩ := gx_e h
      refine aw_iald dX3_setMade_214 (sh_a hq (k := 2) (by decide)) hg23 ?_
      refine aw_iload_n dX3_setMade_215 rfl rfl ?_
      refine aw_iadd dX3_setMade_216 ?_
      refine aw_aload_n dX3_setMade_217 rfl rfl ?_
      refine aw_getR dX3_setMade_218 fk_X3_27 hq (sh_r hq (by decide)) ?_
      refine aw_iload dX3_setMade_221 rfl ?_
      obtain ⟨hg24, h⟩ := gx_e h
      refine aw_iald dX3_setMade_223 (sh_a hq (k := 3) (by decide)) hg24 ?_
      obtain ⟨s3, hg25, h⟩ := bn_e h
      refine aw_V5v (M2 := M_X3_set) dX3_setMade_224 lk_X3_30 mk_X3_set mv_X3_set ⟨by decide, by decide⟩ hq ⟨_, _, rfl⟩ (Nat.le_of_ble_eq_true rfl) (c_X3_set hq hg25) ?_
      exact aw_less (ls' := [none, none, none, none, none, none]) (trivial) (t_X3_setMade_227   s3 _ h)
theorem c_X3_setMade {q : Nat} {x1 : Int} {x2 : Int} {x3 : Int} {x4 : Int} {x5 : Int} {s0 : SS} {s1 : SS} (hq : PL LC q 3) (h : f_X3_setMade q x1 x2 x3 x4 x5 s0 = some s1) : CT LC M_X3_setMade [vR (some q), vI x1, vI x2, vI x3, vI x4, vI x5] s0 (none, s1) :=
  ct_of (n := 0) (by decide) (Nat.le_of_ble_eq_true rfl) (t_X3_setMade_0 q x1 x2 x3 x4 x5 s0 hq _ h)
def g_X5_shapeOne_192  (s0 : SS) : Option SS :=
  some s0
set_option maxHeartbeats 4000000 in
theorem t_X5_shapeOne_192  : ∀ (s0 : SS) (r : SS), g_X5_shapeOne_192 s0 = some r → AW LC M_X5_shapeOne (none, r) 192 [none, none, none, none, none, none, none, none] [] s0 := by
  intro s0 r h
  unfold g_X5_shapeOne_192 at h
  obtain rfl := Option.some.inj h
  exact aw_vret dX5_shapeOne_192 rfl
def g_X5_shapeOne_111 (x7 : Int) (z0 : Int) (z1 : Int) (s0 : SS) : Option SS :=
  bn (f_X3_setLike 23 z1 z0 x7 s0) fun s1 =>
  g_X5_shapeOne_192  s1
set_option maxHeartbeats 4000000 in
theorem t_X5_shapeOne_111  : ∀ (x7 : Int) (z0 : Int) (z1 : Int) (s0 : SS) (r : SS), g_X5_shapeOne_111 x7 z0 z1 s0 = some r → AW LC M_X5_shapeOne (none, r) 111 [none, none, none, none, none, none, none, some (vI x7)] [vI z0, vI z1, vR (some 23)] s0 := by
  intro x7 z0 z1 s0 r h
  unfold g_X5_shapeOne_111 at h
  refine aw_iload dX5_shapeOne_111 rfl ?_
  obtain ⟨s1, hg1, h⟩ := bn_e h
  refine aw_V3v (M2 := M_X3_setLike) dX5_shapeOne_113 lk_X5_94 mk_X3_setLike mv_X3_setLike ⟨by decide, by decide⟩ pC_23 ⟨_, _, rfl⟩ (Nat.le_of_ble_eq_true rfl) (c_X3_setLike pC_23 hg1) ?_
  refine aw_goto (tgt := 192) dX5_shapeOne_116 (by decide) ?_
  exact aw_less (ls' := [none, none, none, none, none, none, none, none]) (trivial) (t_X5_shapeOne_192   s1 _ h)
def g_X5_shapeOne_157 (x2 : Int) (s0 : SS) : Option SS :=
  bn (f_X3_set 23 x2 0 0 0 0 s0) fun s1 =>
  g_X5_shapeOne_192  s1
set_option maxHeartbeats 4000000 in
theorem t_X5_shapeOne_157  : ∀ (x2 : Int) (s0 : SS) (r : SS), g_X5_shapeOne_157 x2 s0 = some r → AW LC M_X5_shapeOne (none, r) 157 [some (vR (some 22)), none, some (vI x2), none, none, none, none, none] [] s0 := by
  intro x2 s0 r h
  unfold g_X5_shapeOne_157 at h
  refine aw_aload_n dX5_shapeOne_157 rfl rfl ?_
  refine aw_getR (t := 23) dX5_shapeOne_158 fk_X5_14 pC_22 rfl ?_
  refine aw_iload_n dX5_shapeOne_161 rfl rfl ?_
  refine aw_iconst dX5_shapeOne_162 ⟨by decide, by decide⟩ ?_
  refine aw_iconst dX5_shapeOne_163 ⟨by decide, by decide⟩ ?_
  refine aw_iconst dX5_shapeOne_164 ⟨by decide, by decide⟩ ?_
  refine aw_iconst dX5_shapeOne_165 ⟨by decide, by decide⟩ ?_
  obtain ⟨s1, hg1, h⟩ := bn_e h
  refine aw_V5v (M2 := M_X3_set) dX5_shapeOne_166 lk_X5_60 mk_X3_set mv_X3_set ⟨by decide, by decide⟩ pC_23 ⟨_, _, rfl⟩ (Nat.le_of_ble_eq_true rfl) (c_X3_set pC_23 hg1) ?_
  refine aw_goto (tgt := 192) dX5_shapeOne_169 (by decide) ?_
  exact aw_less (ls' := [none, none, none, none, none, none, none, none]) (trivial) (t_X5_shapeOne_192   s1 _ h)
def g_X5_shapeOne_172 (x2 : Int) (x4 : Int) (x5 : Int) (x6 : Int) (s0 : SS) : Option SS :=
  gx x2 40 <|
  bn (f_X3_setMade 23 x2 x4 (s0 9 x2.toNat) x5 x6 s0) fun s1 =>
  g_X5_shapeOne_192  s1
set_option maxHeartbeats 4000000 in
theorem t_X5_shapeOne_172  : ∀ (x2 : Int) (x4 : Int) (x5 : Int) (x6 : Int) (s0 : SS) (r : SS), g_X5_shapeOne_172 x2 x4 x5 x6 s0 = some r → AW LC M_X5_shapeOne (none, r) 172 [some (vR (some 22)), some (vR (some 1)), some (vI x2), none, some (vI x4), some (vI x5), some (vI x6), none] [] s0 := by
  intro x2 x4 x5 x6 s0 r h
  unfold g_X5_shapeOne_172 at h
  refine aw_aload_n dX5_shapeOne_172 rfl rfl ?_
  refine aw_getR (t := 23) dX5_shapeOne_173 fk_X5_14 pC_22 rfl ?_
  refine aw_iload_n dX5_shapeOne_176 rfl rfl ?_
  refine aw_iload dX5_shapeOne_177 rfl ?_
  refine aw_aload_n dX5_shapeOne_179 rfl rfl ?_
  refine aw_getR (t := 9) dX5_shapeOne_180 fk_X5_87 pC_1 rfl ?_
  refine aw_iload_n dX5_shapeOne_183 rfl rfl ?_
  obtain ⟨hg1, h⟩ := gx_e h
  refine aw_iald dX5_shapeOne_184 aC_9 hg1 ?_
  refine aw_iload dX5_shapeOne_185 rfl ?_
  refine aw_iload dX5_shapeOne_187 rfl ?_
  obtain ⟨s1, hg2, h⟩ := bn_e h
  refine aw_V5v (M2 := M_X3_setMade) dX5_shapeOne_189 lk_X5_105 mk_X3_setMade mv_X3_setMade ⟨by decide, by decide⟩ pC_23 ⟨_, _, rfl⟩ (Nat.le_of_ble_eq_true rfl) (c_X3_setMade pC_23 hg2) ?_
  exact aw_less (ls' := [none, none, none, none, none, none, none, none]) (trivial) (t_X5_shapeOne_192   s1 _ h)
def g_X5_shapeOne_48 (x2 : Int) (x3 : Int) (x4 : Int) (x5 : Int) (z0 : Int) (s0 : SS) : Option SS :=
  if x4 = 0 then (
    gx x2 40 <|
    bn (f_X3_setWord 23 x2 (s0 9 x2.toNat) s0) fun s1 =>
    g_X5_shapeOne_192  s1
  ) else (
    if x4 = 3 then (
      gx x2 40 <|
      sb (i_and x3 (i_shl 1 (s0 9 x2.toNat))) fun y1 =>
      if y1 = 0 then (
        g_X5_shapeOne_111  y1 x5 x2 s0
      ) else (
        gx x2 40 <|
        g_X5_shapeOne_111  y1 (s0 8 x2.toNat) x2 s0
      )
    ) else (
      bn (f_X5_stands x5 s0) fun y2 =>
      if y2 = 0 then (
        g_X5_shapeOne_157  x2 s0
      ) else (
        bn (f_X5_stands z0 s0) fun y3 =>
        if y3 = 0 then (
          g_X5_shapeOne_157  x2 s0
        ) else (
          if x4 = 5 then (
            bn (f_X3_tell 23 x5 0 s0) fun y4 =>
            if y4 = 1 then (
              g_X5_shapeOne_172  x2 x4 x5 z0 s0
            ) else (
              g_X5_shapeOne_157  x2 s0
            )
          ) else (
            g_X5_shapeOne_172  x2 x4 x5 z0 s0
          )
        )
      )
    )
  )
set_option maxHeartbeats 4000000 in
theorem t_X5_shapeOne_48  : ∀ (x2 : Int) (x3 : Int) (x4 : Int) (x5 : Int) (z0 : Int) (s0 : SS) (r : SS), g_X5_shapeOne_48 x2 x3 x4 x5 z0 s0 = some r → AW LC M_X5_shapeOne (none, r) 48 [some (vR (some 22)), some (vR (some 1)), some (vI x2), some (vI x3), some (vI x4), some (vI x5), none, none] [vI z0] s0 := by
  intro x2 x3 x4 x5 z0 s0 r h
  unfold g_X5_shapeOne_48 at h
  refine aw_istoreA dX5_shapeOne_48 (by decide) rfl ?_
  show AW _ _ _ 50 [some (vR (some 22)), some (vR (some 1)), some (vI x2), some (vI x3), some (vI x4), some (vI x5), some (vI z0), none] _ _
  refine aw_iload dX5_shapeOne_50 rfl ?_
  refine aw_if_ne (tgt := 72) dX5_shapeOne_52 (by decide) (fun hc => ?_) (fun hc => ?_)
  rotate_left
  · replace h := ip hc h
    refine aw_aload_n dX5_shapeOne_55 rfl rfl ?_
    refine aw_getR (t := 23) dX5_shapeOne_56 fk_X5_14 pC_22 rfl ?_
    refine aw_iload_n dX5_shapeOne_59 rfl rfl ?_
    refine aw_aload_n dX5_shapeOne_60 rfl rfl ?_
    refine aw_getR (t := 9) dX5_shapeOne_61 fk_X5_87 pC_1 rfl ?_
    refine aw_iload_n dX5_shapeOne_64 rfl rfl ?_
    obtain ⟨hg1, h⟩ := gx_e h
    refine aw_iald dX5_shapeOne_65 aC_9 hg1 ?_
    obtain ⟨s1, hg2, h⟩ := bn_e h
    refine aw_V2v (M2 := M_X3_setWord) dX5_shapeOne_66 lk_X5_90 mk_X3_setWord mv_X3_setWord ⟨by decide, by decide⟩ pC_23 ⟨_, _, rfl⟩ (Nat.le_of_ble_eq_true rfl) (c_X3_setWord pC_23 hg2) ?_
    refine aw_goto (tgt := 192) dX5_shapeOne_69 (by decide) ?_
    exact aw_less (ls' := [none, none, none, none, none, none, none, none]) (trivial) (t_X5_shapeOne_192   s1 _ h)
  · replace h := ic hc h
    refine aw_iload dX5_shapeOne_72 rfl ?_
    refine aw_iconst dX5_shapeOne_74 ⟨by decide, by decide⟩ ?_
    refine aw_icmp_ne (tgt := 119) dX5_shapeOne_75 (by decide) (fun hc => ?_) (fun hc => ?_)
    rotate_left
    · replace h := ip hc h
      refine aw_iload_n dX5_shapeOne_78 rfl rfl ?_
      refine aw_iconst dX5_shapeOne_79 ⟨by decide, by decide⟩ ?_
      refine aw_aload_n dX5_shapeOne_80 rfl rfl ?_
      refine aw_getR (t := 9) dX5_shapeOne_81 fk_X5_87 pC_1 rfl ?_
      refine aw_iload_n dX5_shapeOne_84 rfl rfl ?_
      obtain ⟨hg3, h⟩ := gx_e h
      refine aw_iald dX5_shapeOne_85 aC_9 hg3 ?_
      refine aw_ishl dX5_shapeOne_86 ?_
      refine aw_iand dX5_shapeOne_87 ?_
      refine aw_istore dX5_shapeOne_88 (by decide) rfl (fun y1 e => ?_)
      replace h := sb_e h e
      clear e
      show AW _ _ _ 90 [some (vR (some 22)), some (vR (some 1)), some (vI x2), some (vI x3), some (vI x4), some (vI x5), some (vI z0), some (vI y1)] _ _
      refine aw_aload_n dX5_shapeOne_90 rfl rfl ?_
      refine aw_getR (t := 23) dX5_shapeOne_91 fk_X5_14 pC_22 rfl ?_
      refine aw_iload_n dX5_shapeOne_94 rfl rfl ?_
      refine aw_iload dX5_shapeOne_95 rfl ?_
      refine aw_if_ne (tgt := 105) dX5_shapeOne_97 (by decide) (fun hc => ?_) (fun hc => ?_)
      rotate_left
      · replace h := ip hc h
        refine aw_iload dX5_shapeOne_100 rfl ?_
        refine aw_goto (tgt := 111) dX5_shapeOne_102 (by decide) ?_
        exact aw_less (ls' := [none, none, none, none, none, none, none, some (vI y1)]) (⟨rfl, trivial⟩) (t_X5_shapeOne_111   y1 x5 x2 s0 _ h)
      · replace h := ic hc h
        refine aw_aload_n dX5_shapeOne_105 rfl rfl ?_
        refine aw_getR (t := 8) dX5_shapeOne_106 fk_X5_84 pC_1 rfl ?_
        refine aw_iload_n dX5_shapeOne_109 rfl rfl ?_
        obtain ⟨hg4, h⟩ := gx_e h
        refine aw_iald dX5_shapeOne_110 aC_8 hg4 ?_
        exact aw_less (ls' := [none, none, none, none, none, none, none, some (vI y1)]) (⟨rfl, trivial⟩) (t_X5_shapeOne_111   y1 (s0 8 x2.toNat) x2 s0 _ h)
    · replace h := ic hc h
      refine aw_aload_n dX5_shapeOne_119 rfl rfl ?_
      refine aw_iload dX5_shapeOne_120 rfl ?_
      obtain ⟨y2, hg5, h⟩ := bn_e h
      refine aw_V1i (M2 := M_X5_stands) dX5_shapeOne_122 lk_X5_98 mk_X5_stands mv_X5_stands ⟨by decide, by decide⟩ pC_22 ⟨_, _, rfl⟩ (Nat.le_of_ble_eq_true rfl) (c_X5_stands  hg5) ?_
      refine aw_if_eq (tgt := 157) dX5_shapeOne_125 (by decide) (fun hc => ?_) (fun hc => ?_)
      · replace h := ip hc h
        exact aw_less (ls' := [some (vR (some 22)), none, some (vI x2), none, none, none, none, none]) (⟨rfl, ⟨rfl, trivial⟩⟩) (t_X5_shapeOne_157   x2 s0 _ h)
      · replace h := ic hc h
        refine aw_aload_n dX5_shapeOne_128 rfl rfl ?_
        refine aw_iload dX5_shapeOne_129 rfl ?_
        obtain ⟨y3, hg6, h⟩ := bn_e h
        refine aw_V1i (M2 := M_X5_stands) dX5_shapeOne_131 lk_X5_98 mk_X5_stands mv_X5_stands ⟨by decide, by decide⟩ pC_22 ⟨_, _, rfl⟩ (Nat.le_of_ble_eq_true rfl) (c_X5_stands  hg6) ?_
        refine aw_if_eq (tgt := 157) dX5_shapeOne_134 (by decide) (fun hc => ?_) (fun hc => ?_)
        · replace h := ip hc h
          exact aw_less (ls' := [some (vR (some 22)), none, some (vI x2), none, none, none, none, none]) (⟨rfl, ⟨rfl, trivial⟩⟩) (t_X5_shapeOne_157   x2 s0 _ h)
        · replace h := ic hc h
          refine aw_iload dX5_shapeOne_137 rfl ?_
          refine aw_iconst dX5_shapeOne_139 ⟨by decide, by decide⟩ ?_
          refine aw_icmp_ne (tgt := 172) dX5_shapeOne_140 (by decide) (fun hc => ?_) (fun hc => ?_)
          rotate_left
          · replace h := ip hc h
            refine aw_aload_n dX5_shapeOne_143 rfl rfl ?_
            refine aw_getR (t := 23) dX5_shapeOne_144 fk_X5_14 pC_22 rfl ?_
            refine aw_iload dX5_shapeOne_147 rfl ?_
            refine aw_iconst dX5_shapeOne_149 ⟨by decide, by decide⟩ ?_
            obtain ⟨y4, hg7, h⟩ := bn_e h
            refine aw_V2i (M2 := M_X3_tell) dX5_shapeOne_150 lk_X5_101 mk_X3_tell mv_X3_tell ⟨by decide, by decide⟩ pC_23 ⟨_, _, rfl⟩ (Nat.le_of_ble_eq_true rfl) (c_X3_tell pC_23 hg7) ?_
            refine aw_iconst dX5_shapeOne_153 ⟨by decide, by decide⟩ ?_
            refine aw_icmp_eq (tgt := 172) dX5_shapeOne_154 (by decide) (fun hc => ?_) (fun hc => ?_)
            · replace h := ip hc h
              exact aw_less (ls' := [some (vR (some 22)), some (vR (some 1)), some (vI x2), none, some (vI x4), some (vI x5), some (vI z0), none]) (⟨rfl, ⟨rfl, ⟨rfl, ⟨rfl, ⟨rfl, ⟨rfl, trivial⟩⟩⟩⟩⟩⟩) (t_X5_shapeOne_172   x2 x4 x5 z0 s0 _ h)
            · replace h := ic hc h
              exact aw_less (ls' := [some (vR (some 22)), none, some (vI x2), none, none, none, none, none]) (⟨rfl, ⟨rfl, trivial⟩⟩) (t_X5_shapeOne_157   x2 s0 _ h)
          · replace h := ic hc h
            exact aw_less (ls' := [some (vR (some 22)), some (vR (some 1)), some (vI x2), none, some (vI x4), some (vI x5), some (vI z0), none]) (⟨rfl, ⟨rfl, ⟨rfl, ⟨rfl, ⟨rfl, ⟨rfl, trivial⟩⟩⟩⟩⟩⟩) (t_X5_shapeOne_172   x2 x4 x5 z0 s0 _ h)
def g_X5_shapeOne_37 (x2 : Int) (x3 : Int) (x4 : Int) (x5 : Int) (s0 : SS) : Option SS :=
  gx x2 40 <|
  g_X5_shapeOne_48  x2 x3 x4 x5 (s0 8 x2.toNat) s0
set_option maxHeartbeats 4000000 in
theorem t_X5_shapeOne_37  : ∀ (x2 : Int) (x3 : Int) (x4 : Int) (x5 : Int) (s0 : SS) (r : SS), g_X5_shapeOne_37 x2 x3 x4 x5 s0 = some r → AW LC M_X5_shapeOne (none, r) 37 [some (vR (some 22)), some (vR (some 1)), some (vI x2), some (vI x3), some (vI x4), some (vI x5), none, none] [] s0 := by
  intro x2 x3 x4 x5 s0 r h
  unfold g_X5_shapeOne_37 at h
  refine aw_aload_n dX5_shapeOne_37 rfl rfl ?_
  refine aw_getR (t := 8) dX5_shapeOne_38 fk_X5_84 pC_1 rfl ?_
  refine aw_iload_n dX5_shapeOne_41 rfl rfl ?_
  obtain ⟨hg1, h⟩ := gx_e h
  refine aw_iald dX5_shapeOne_42 aC_8 hg1 ?_
  refine aw_goto (tgt := 48) dX5_shapeOne_43 (by decide) ?_
  exact (t_X5_shapeOne_48   x2 x3 x4 x5 (s0 8 x2.toNat) s0 _ h)
def f_X5_shapeOne (x2 : Int) (x3 : Int) (s0 : SS) : Option SS :=
  bn (f_X0_hasPart x2 s0) fun y1 =>
  if y1 = 0 then (
    some s0
  ) else (
    gx x2 40 <|
    sb (s0 3 x2.toNat) fun y2 =>
    gx x2 40 <|
    sb (s0 7 x2.toNat) fun y3 =>
    if y2 = 1 then (
      g_X5_shapeOne_37  x2 x3 y2 y3 s0
    ) else (
      if y2 = 2 then (
        g_X5_shapeOne_37  x2 x3 y2 y3 s0
      ) else (
        g_X5_shapeOne_48  x2 x3 y2 y3 y3 s0
      )
    )
  )
set_option maxHeartbeats 4000000 in
theorem t_X5_shapeOne_0  : ∀ (x2 : Int) (x3 : Int) (s0 : SS) (r : SS), f_X5_shapeOne x2 x3 s0 = some r → AW LC M_X5_shapeOne (none, r) 0 [some (vR (some 22)), some (vR (some 1)), some (vI x2), some (vI x3), none, none, none, none] [] s0 := by
  intro x2 x3 s0 r h
  unfold f_X5_shapeOne at h
  refine aw_aload_n dX5_shapeOne_0 rfl rfl ?_
  refine aw_iload_n dX5_shapeOne_1 rfl rfl ?_
  obtain ⟨y1, hg1, h⟩ := bn_e h
  refine aw_V1i (M2 := M_X0_hasPart) dX5_shapeOne_2 lk_X5_74 mk_X0_hasPart mv_X0_hasPart ⟨by decide, by decide⟩ pC_1 ⟨_, _, rfl⟩ (Nat.le_of_ble_eq_true rfl) (c_X0_hasPart  hg1) ?_
  refine aw_if_ne (tgt := 9) dX5_shapeOne_5 (by decide) (fun hc => ?_) (fun hc => ?_)
  rotate_left
  · replace h := ip hc h
    obtain rfl := Option.some.inj h
    exact aw_vret dX5_shapeOne_8 rfl
  · replace h := ic hc h
    refine aw_aload_n dX5_shapeOne_9 rfl rfl ?_
    refine aw_getR (t := 3) dX5_shapeOne_10 fk_X5_78 pC_1 rfl ?_
    refine aw_iload_n dX5_shapeOne_13 rfl rfl ?_
    obtain ⟨hg2, h⟩ := gx_e h
    refine aw_iald dX5_shapeOne_14 aC_3 hg2 ?_
    refine aw_istore dX5_shapeOne_15 (by decide) rfl (fun y2 e => ?_)
    replace h := sb_e h e
    clear e
    show AW _ _ _ 17 [some (vR (some 22)), some (vR (some 1)), some (vI x2), some (vI x3), some (vI y2), none, none, none] _ _
    refine aw_aload_n dX5_shapeOne_17 rfl rfl ?_
    refine aw_getR (t := 7) dX5_shapeOne_18 fk_X5_81 pC_1 rfl ?_
    refine aw_iload_n dX5_shapeOne_21 rfl rfl ?_
    obtain ⟨hg3, h⟩ := gx_e h
    refine aw_iald dX5_shapeOne_22 aC_7 hg3 ?_
    refine aw_istore dX5_shapeOne_23 (by decide) rfl (fun y3 e => ?_)
    replace h := sb_e h e
    clear e
    show AW _ _ _ 25 [some (vR (some 22)), some (vR (some 1)), some (vI x2), some (vI x3), some (vI y2), some (vI y3), none, none] _ _
    refine aw_iload dX5_shapeOne_25 rfl ?_
    refine aw_iconst dX5_shapeOne_27 ⟨by decide, by decide⟩ ?_
    refine aw_icmp_eq (tgt := 37) dX5_shapeOne_28 (by decide) (fun hc => ?_) (fun hc => ?_)
    · replace h := ip hc h
      exact (t_X5_shapeOne_37   x2 x3 y2 y3 s0 _ h)
    · replace h := ic hc h
      refine aw_iload dX5_shapeOne_31 rfl ?_
      refine aw_iconst dX5_shapeOne_33 ⟨by decide, by decide⟩ ?_
      refine aw_icmp_ne (tgt := 46) dX5_shapeOne_34 (by decide) (fun hc => ?_) (fun hc => ?_)
      rotate_left
      · replace h := ip hc h
        exact (t_X5_shapeOne_37   x2 x3 y2 y3 s0 _ h)
      · replace h := ic hc h
        refine aw_iload dX5_shapeOne_46 rfl ?_
        exact (t_X5_shapeOne_48   x2 x3 y2 y3 y3 s0 _ h)
theorem c_X5_shapeOne {x2 : Int} {x3 : Int} {s0 : SS} {s1 : SS} (h : f_X5_shapeOne x2 x3 s0 = some s1) : CT LC M_X5_shapeOne [vR (some 22), vR (some 1), vI x2, vI x3] s0 (none, s1) :=
  ct_of (n := 4) (by decide) (Nat.le_of_ble_eq_true rfl) (t_X5_shapeOne_0 x2 x3 s0  _ h)
def g_X5_shapeParts_24  (s0 : SS) : Option SS :=
  some s0
set_option maxHeartbeats 4000000 in
theorem t_X5_shapeParts_24  : ∀ (s0 : SS) (r : SS), g_X5_shapeParts_24 s0 = some r → AW LC M_X5_shapeParts (none, r) 24 [none, none, none, none] [] s0 := by
  intro s0 r h
  unfold g_X5_shapeParts_24 at h
  obtain rfl := Option.some.inj h
  exact aw_vret dX5_shapeParts_24 rfl
def g_X5_shapeParts_7 (k7 : Int → Int → SS → Option SS) (x2 : Int) (x3 : Int) (s0 : SS) : Option SS :=
  if x3 < 0 then (
    g_X5_shapeParts_24  s0
  ) else (
    bn (f_X5_shapeOne x3 x2 s0) fun s1 =>
    sb (wr (x3 + (-1))) fun y1 =>
    k7 x2 y1 s1
  )
set_option maxHeartbeats 4000000 in
theorem t_X5_shapeParts_7 (k7 : Int → Int → SS → Option SS) (hk7 : ∀ (x2 : Int) (x3 : Int) (s0 : SS) (r : SS), k7 x2 x3 s0 = some r → AW LC M_X5_shapeParts (none, r) 7 [some (vR (some 22)), some (vR (some 1)), some (vI x2), some (vI x3)] [] s0) : ∀ (x2 : Int) (x3 : Int) (s0 : SS) (r : SS), g_X5_shapeParts_7 k7 x2 x3 s0 = some r → AW LC M_X5_shapeParts (none, r) 7 [some (vR (some 22)), some (vR (some 1)), some (vI x2), some (vI x3)] [] s0 := by
  intro x2 x3 s0 r h
  unfold g_X5_shapeParts_7 at h
  refine aw_iload_n dX5_shapeParts_7 rfl rfl ?_
  refine aw_if_lt (tgt := 24) dX5_shapeParts_8 (by decide) (fun hc => ?_) (fun hc => ?_)
  · replace h := ip hc h
    exact aw_less (ls' := [none, none, none, none]) (trivial) (t_X5_shapeParts_24   s0 _ h)
  · replace h := ic hc h
    refine aw_aload_n dX5_shapeParts_11 rfl rfl ?_
    refine aw_aload_n dX5_shapeParts_12 rfl rfl ?_
    refine aw_iload_n dX5_shapeParts_13 rfl rfl ?_
    refine aw_iload_n dX5_shapeParts_14 rfl rfl ?_
    obtain ⟨s1, hg1, h⟩ := bn_e h
    refine aw_V3v (M2 := M_X5_shapeOne) dX5_shapeParts_15 lk_X5_70 mk_X5_shapeOne mv_X5_shapeOne ⟨by decide, by decide⟩ pC_22 ⟨_, _, rfl⟩ (Nat.le_of_ble_eq_true rfl) (c_X5_shapeOne  hg1) ?_
    refine aw_iinc dX5_shapeParts_18 rfl (by decide) rfl (fun y1 e => ?_)
    replace h := sb_e h e
    clear e
    show AW _ _ _ 21 [some (vR (some 22)), some (vR (some 1)), some (vI x2), some (vI y1)] _ _
    refine aw_goto (tgt := 7) dX5_shapeParts_21 (by decide) ?_
    exact (hk7 x2 y1 s1 _ h)
def f_X5_shapeParts_7 : Nat → Int → Int → SS → Option SS
  | 0 => fun _ _ _ => none
  | n + 1 => g_X5_shapeParts_7 (f_X5_shapeParts_7  n)
theorem s_X5_shapeParts_7  : ∀ (n : Nat), ∀ (x2 : Int) (x3 : Int) (s0 : SS) (r : SS), f_X5_shapeParts_7 n x2 x3 s0 = some r → AW LC M_X5_shapeParts (none, r) 7 [some (vR (some 22)), some (vR (some 1)), some (vI x2), some (vI x3)] [] s0 := by
  intro n
  induction n with
  | zero =>
    intro x2 x3 s0 r h
    cases h
  | succ n ih =>
    intro x2 x3 s0 r h
    exact t_X5_shapeParts_7 (f_X5_shapeParts_7  n) ih x2 x3 s0 r h
def f_X5_shapeParts (x2 : Int) (s0 : SS) : Option SS :=
  sb (wr ((s0 1 9) - 1)) fun y1 =>
  f_X5_shapeParts_7  FU x2 y1 s0
set_option maxHeartbeats 4000000 in
theorem t_X5_shapeParts_0  : ∀ (x2 : Int) (s0 : SS) (r : SS), f_X5_shapeParts x2 s0 = some r → AW LC M_X5_shapeParts (none, r) 0 [some (vR (some 22)), some (vR (some 1)), some (vI x2), none] [] s0 := by
  intro x2 s0 r h
  unfold f_X5_shapeParts at h
  refine aw_aload_n dX5_shapeParts_0 rfl rfl ?_
  refine aw_getI dX5_shapeParts_1 fk_X5_34 pC_1 rfl ?_
  refine aw_iconst dX5_shapeParts_4 ⟨by decide, by decide⟩ ?_
  refine aw_isub dX5_shapeParts_5 ?_
  refine aw_istore_n dX5_shapeParts_6 rfl (by decide) rfl (fun y1 e => ?_)
  replace h := sb_e h e
  clear e
  show AW _ _ _ 7 [some (vR (some 22)), some (vR (some 1)), some (vI x2), some (vI y1)] _ _
  exact (s_X5_shapeParts_7   FU x2 y1 s0 _ h)
theorem c_X5_shapeParts {x2 : Int} {s0 : SS} {s1 : SS} (h : f_X5_shapeParts x2 s0 = some s1) : CT LC M_X5_shapeParts [vR (some 22), vR (some 1), vI x2] s0 (none, s1) :=
  ct_of (n := 1) (by decide) (Nat.le_of_ble_eq_true rfl) (t_X5_shapeParts_0 x2 s0  _ h)
def g_X5_findLines_177  (s0 : SS) : Option SS :=
  some s0
set_option maxHeartbeats 4000000 in
theorem t_X5_findLines_177  : ∀ (s0 : SS) (r : SS), g_X5_findLines_177 s0 = some r → AW LC M_X5_findLines (none, r) 177 [none, none, none, none] [] s0 := by
  intro s0 r h
  unfold g_X5_findLines_177 at h
  obtain rfl := Option.some.inj h
  exact aw_vret dX5_findLines_177 rfl
def g_X5_findLines_171 (k124 : Int → SS → Option SS) (x1 : Int) (s0 : SS) : Option SS :=
  sb (wr (x1 + 1)) fun y1 =>
  k124 y1 s0
set_option maxHeartbeats 4000000 in
theorem t_X5_findLines_171 (k124 : Int → SS → Option SS) (hk124 : ∀ (x1 : Int) (s0 : SS) (r : SS), k124 x1 s0 = some r → AW LC M_X5_findLines (none, r) 124 [some (vR (some 22)), some (vI x1), none, none] [] s0) : ∀ (x1 : Int) (s0 : SS) (r : SS), g_X5_findLines_171 k124 x1 s0 = some r → AW LC M_X5_findLines (none, r) 171 [some (vR (some 22)), some (vI x1), none, none] [] s0 := by
  intro x1 s0 r h
  unfold g_X5_findLines_171 at h
  refine aw_iinc dX5_findLines_171 rfl (by decide) rfl (fun y1 e => ?_)
  replace h := sb_e h e
  clear e
  show AW _ _ _ 174 [some (vR (some 22)), some (vI y1), none, none] _ _
  refine aw_goto (tgt := 124) dX5_findLines_174 (by decide) ?_
  exact (hk124 y1 s0 _ h)
def g_X5_findLines_164 (k124 : Int → SS → Option SS) (x1 : Int) (x2 : Int) (s0 : SS) : Option SS :=
  gx x1 100 <|
  sb (up s0 33 x1.toNat x2) fun s1 =>
  g_X5_findLines_171 k124 x1 s1
set_option maxHeartbeats 4000000 in
theorem t_X5_findLines_164 (k124 : Int → SS → Option SS) (hk124 : ∀ (x1 : Int) (s0 : SS) (r : SS), k124 x1 s0 = some r → AW LC M_X5_findLines (none, r) 124 [some (vR (some 22)), some (vI x1), none, none] [] s0) : ∀ (x1 : Int) (x2 : Int) (s0 : SS) (r : SS), g_X5_findLines_164 k124 x1 x2 s0 = some r → AW LC M_X5_findLines (none, r) 164 [some (vR (some 22)), some (vI x1), some (vI x2), none] [] s0 := by
  intro x1 x2 s0 r h
  unfold g_X5_findLines_164 at h
  refine aw_aload_n dX5_findLines_164 rfl rfl ?_
  refine aw_getR (t := 33) dX5_findLines_165 fk_X5_23 pC_22 rfl ?_
  refine aw_iload_n dX5_findLines_168 rfl rfl ?_
  refine aw_iload_n dX5_findLines_169 rfl rfl ?_
  obtain ⟨hg1, h⟩ := gx_e h
  refine aw_iast dX5_findLines_170 aC_33 hg1 (fun s1 e => ?_)
  replace h := sb_e h e
  clear e
  exact aw_less (ls' := [some (vR (some 22)), some (vI x1), none, none]) (⟨rfl, ⟨rfl, trivial⟩⟩) (t_X5_findLines_171 k124 hk124 x1 s1 _ h)
def g_X5_findLines_124 (k124 : Int → SS → Option SS) (x1 : Int) (s0 : SS) : Option SS :=
  if 99 < x1 then (
    g_X5_findLines_177  s0
  ) else (
    gx (wr (x1 - 1)) 100 <|
    sb (s0 33 (wr (x1 - 1)).toNat) fun y1 =>
    if y1 = (-1) then (
      g_X5_findLines_171 k124 x1 s0
    ) else (
      gx x1 100 <|
      if (s0 33 x1.toNat) = (-1) then (
        g_X5_findLines_164 k124 x1 y1 s0
      ) else (
        gx x1 100 <|
        if (s0 33 x1.toNat) ≤ y1 then (
          g_X5_findLines_171 k124 x1 s0
        ) else (
          g_X5_findLines_164 k124 x1 y1 s0
        )
      )
    )
  )
set_option maxHeartbeats 4000000 in
theorem t_X5_findLines_124 (k124 : Int → SS → Option SS) (hk124 : ∀ (x1 : Int) (s0 : SS) (r : SS), k124 x1 s0 = some r → AW LC M_X5_findLines (none, r) 124 [some (vR (some 22)), some (vI x1), none, none] [] s0) : ∀ (x1 : Int) (s0 : SS) (r : SS), g_X5_findLines_124 k124 x1 s0 = some r → AW LC M_X5_findLines (none, r) 124 [some (vR (some 22)), some (vI x1), none, none] [] s0 := by
  intro x1 s0 r h
  unfold g_X5_findLines_124 at h
  refine aw_iload_n dX5_findLines_124 rfl rfl ?_
  refine aw_bipush dX5_findLines_125 ⟨by decide, by decide⟩ (by decide) ?_
  refine aw_icmp_gt (tgt := 177) dX5_findLines_127 (by decide) (fun hc => ?_) (fun hc => ?_)
  · replace h := ip hc h
    exact aw_less (ls' := [none, none, none, none]) (trivial) (t_X5_findLines_177   s0 _ h)
  · replace h := ic hc h
    refine aw_aload_n dX5_findLines_130 rfl rfl ?_
    refine aw_getR (t := 33) dX5_findLines_131 fk_X5_23 pC_22 rfl ?_
    refine aw_iload_n dX5_findLines_134 rfl rfl ?_
    refine aw_iconst dX5_findLines_135 ⟨by decide, by decide⟩ ?_
    refine aw_isub dX5_findLines_136 ?_
    obtain ⟨hg1, h⟩ := gx_e h
    refine aw_iald dX5_findLines_137 aC_33 hg1 ?_
    refine aw_istore_n dX5_findLines_138 rfl (by decide) rfl (fun y1 e => ?_)
    replace h := sb_e h e
    clear e
    show AW _ _ _ 139 [some (vR (some 22)), some (vI x1), some (vI y1), none] _ _
    refine aw_iload_n dX5_findLines_139 rfl rfl ?_
    refine aw_iconst dX5_findLines_140 ⟨by decide, by decide⟩ ?_
    refine aw_icmp_eq (tgt := 171) dX5_findLines_141 (by decide) (fun hc => ?_) (fun hc => ?_)
    · replace h := ip hc h
      exact aw_less (ls' := [some (vR (some 22)), some (vI x1), none, none]) (⟨rfl, ⟨rfl, trivial⟩⟩) (t_X5_findLines_171 k124 hk124 x1 s0 _ h)
    · replace h := ic hc h
      refine aw_aload_n dX5_findLines_144 rfl rfl ?_
      refine aw_getR (t := 33) dX5_findLines_145 fk_X5_23 pC_22 rfl ?_
      refine aw_iload_n dX5_findLines_148 rfl rfl ?_
      obtain ⟨hg2, h⟩ := gx_e h
      refine aw_iald dX5_findLines_149 aC_33 hg2 ?_
      refine aw_iconst dX5_findLines_150 ⟨by decide, by decide⟩ ?_
      refine aw_icmp_eq (tgt := 164) dX5_findLines_151 (by decide) (fun hc => ?_) (fun hc => ?_)
      · replace h := ip hc h
        exact (t_X5_findLines_164 k124 hk124 x1 y1 s0 _ h)
      · replace h := ic hc h
        refine aw_iload_n dX5_findLines_154 rfl rfl ?_
        refine aw_aload_n dX5_findLines_155 rfl rfl ?_
        refine aw_getR (t := 33) dX5_findLines_156 fk_X5_23 pC_22 rfl ?_
        refine aw_iload_n dX5_findLines_159 rfl rfl ?_
        obtain ⟨hg3, h⟩ := gx_e h
        refine aw_iald dX5_findLines_160 aC_33 hg3 ?_
        refine aw_icmp_ge (tgt := 171) dX5_findLines_161 (by decide) (fun hc => ?_) (fun hc => ?_)
        · replace h := ip hc h
          exact aw_less (ls' := [some (vR (some 22)), some (vI x1), none, none]) (⟨rfl, ⟨rfl, trivial⟩⟩) (t_X5_findLines_171 k124 hk124 x1 s0 _ h)
        · replace h := ic hc h
          exact (t_X5_findLines_164 k124 hk124 x1 y1 s0 _ h)
def f_X5_findLines_124 : Nat → Int → SS → Option SS
  | 0 => fun _ _ => none
  | n + 1 => g_X5_findLines_124 (f_X5_findLines_124  n)
theorem s_X5_findLines_124  : ∀ (n : Nat), ∀ (x1 : Int) (s0 : SS) (r : SS), f_X5_findLines_124 n x1 s0 = some r → AW LC M_X5_findLines (none, r) 124 [some (vR (some 22)), some (vI x1), none, none] [] s0 := by
  intro n
  induction n with
  | zero =>
    intro x1 s0 r h
    cases h
  | succ n ih =>
    intro x1 s0 r h
    exact t_X5_findLines_124 (f_X5_findLines_124  n) ih x1 s0 r h
def g_X5_findLines_122  (s0 : SS) : Option SS :=
  f_X5_findLines_124  FU 1 s0
set_option maxHeartbeats 4000000 in
theorem t_X5_findLines_122  : ∀ (s0 : SS) (r : SS), g_X5_findLines_122 s0 = some r → AW LC M_X5_findLines (none, r) 122 [some (vR (some 22)), none, none, none] [] s0 := by
  intro s0 r h
  unfold g_X5_findLines_122 at h
  refine aw_iconst dX5_findLines_122 ⟨by decide, by decide⟩ ?_
  refine aw_istore_nA dX5_findLines_123 rfl (by decide) rfl ?_
  show AW _ _ _ 124 [some (vR (some 22)), some (vI 1), none, none] _ _
  exact (s_X5_findLines_124   FU 1 s0 _ h)
def g_X5_findLines_116 (k23 : Int → SS → Option SS) (x1 : Int) (s0 : SS) : Option SS :=
  sb (wr (x1 + 1)) fun y1 =>
  k23 y1 s0
set_option maxHeartbeats 4000000 in
theorem t_X5_findLines_116 (k23 : Int → SS → Option SS) (hk23 : ∀ (x1 : Int) (s0 : SS) (r : SS), k23 x1 s0 = some r → AW LC M_X5_findLines (none, r) 23 [some (vR (some 22)), some (vI x1), none, none] [] s0) : ∀ (x1 : Int) (s0 : SS) (r : SS), g_X5_findLines_116 k23 x1 s0 = some r → AW LC M_X5_findLines (none, r) 116 [some (vR (some 22)), some (vI x1), none, none] [] s0 := by
  intro x1 s0 r h
  unfold g_X5_findLines_116 at h
  refine aw_iinc dX5_findLines_116 rfl (by decide) rfl (fun y1 e => ?_)
  replace h := sb_e h e
  clear e
  show AW _ _ _ 119 [some (vR (some 22)), some (vI y1), none, none] _ _
  refine aw_goto (tgt := 23) dX5_findLines_119 (by decide) ?_
  exact (hk23 y1 s0 _ h)
def g_X5_findLines_101 (k23 : Int → SS → Option SS) (x1 : Int) (x2 : Int) (s0 : SS) : Option SS :=
  bn (f_X3_tell 28 x1 0 s0) fun y1 =>
  gx x2 100 <|
  sb (up s0 33 x2.toNat y1) fun s1 =>
  g_X5_findLines_116 k23 x1 s1
set_option maxHeartbeats 4000000 in
theorem t_X5_findLines_101 (k23 : Int → SS → Option SS) (hk23 : ∀ (x1 : Int) (s0 : SS) (r : SS), k23 x1 s0 = some r → AW LC M_X5_findLines (none, r) 23 [some (vR (some 22)), some (vI x1), none, none] [] s0) : ∀ (x1 : Int) (x2 : Int) (s0 : SS) (r : SS), g_X5_findLines_101 k23 x1 x2 s0 = some r → AW LC M_X5_findLines (none, r) 101 [some (vR (some 22)), some (vI x1), some (vI x2), none] [] s0 := by
  intro x1 x2 s0 r h
  unfold g_X5_findLines_101 at h
  refine aw_aload_n dX5_findLines_101 rfl rfl ?_
  refine aw_getR (t := 33) dX5_findLines_102 fk_X5_23 pC_22 rfl ?_
  refine aw_iload_n dX5_findLines_105 rfl rfl ?_
  refine aw_aload_n dX5_findLines_106 rfl rfl ?_
  refine aw_getR (t := 28) dX5_findLines_107 fk_X5_20 pC_22 rfl ?_
  refine aw_iload_n dX5_findLines_110 rfl rfl ?_
  refine aw_iconst dX5_findLines_111 ⟨by decide, by decide⟩ ?_
  obtain ⟨y1, hg1, h⟩ := bn_e h
  refine aw_V2i (M2 := M_X3_tell) dX5_findLines_112 lk_X5_101 mk_X3_tell mv_X3_tell ⟨by decide, by decide⟩ pC_28 ⟨_, _, rfl⟩ (Nat.le_of_ble_eq_true rfl) (c_X3_tell pC_28 hg1) ?_
  obtain ⟨hg2, h⟩ := gx_e h
  refine aw_iast dX5_findLines_115 aC_33 hg2 (fun s1 e => ?_)
  replace h := sb_e h e
  clear e
  exact aw_less (ls' := [some (vR (some 22)), some (vI x1), none, none]) (⟨rfl, ⟨rfl, trivial⟩⟩) (t_X5_findLines_116 k23 hk23 x1 s1 _ h)
def g_X5_findLines_68 (k23 : Int → SS → Option SS) (x1 : Int) (x2 : Int) (z0 : Int) (s0 : SS) : Option SS :=
  if z0 = 0 then (
    g_X5_findLines_116 k23 x1 s0
  ) else (
    gx x2 100 <|
    if (s0 33 x2.toNat) = (-1) then (
      g_X5_findLines_101 k23 x1 x2 s0
    ) else (
      bn (f_X3_tell 28 x1 0 s0) fun y1 =>
      gx x2 100 <|
      if (s0 33 x2.toNat) ≤ y1 then (
        g_X5_findLines_116 k23 x1 s0
      ) else (
        g_X5_findLines_101 k23 x1 x2 s0
      )
    )
  )
set_option maxHeartbeats 4000000 in
theorem t_X5_findLines_68 (k23 : Int → SS → Option SS) (hk23 : ∀ (x1 : Int) (s0 : SS) (r : SS), k23 x1 s0 = some r → AW LC M_X5_findLines (none, r) 23 [some (vR (some 22)), some (vI x1), none, none] [] s0) : ∀ (x1 : Int) (x2 : Int) (z0 : Int) (s0 : SS) (r : SS), g_X5_findLines_68 k23 x1 x2 z0 s0 = some r → AW LC M_X5_findLines (none, r) 68 [some (vR (some 22)), some (vI x1), some (vI x2), none] [vI z0] s0 := by
  intro x1 x2 z0 s0 r h
  unfold g_X5_findLines_68 at h
  refine aw_istore_nA dX5_findLines_68 rfl (by decide) rfl ?_
  show AW _ _ _ 69 [some (vR (some 22)), some (vI x1), some (vI x2), some (vI z0)] _ _
  refine aw_iload_n dX5_findLines_69 rfl rfl ?_
  refine aw_if_eq (tgt := 116) dX5_findLines_70 (by decide) (fun hc => ?_) (fun hc => ?_)
  · replace h := ip hc h
    exact aw_less (ls' := [some (vR (some 22)), some (vI x1), none, none]) (⟨rfl, ⟨rfl, trivial⟩⟩) (t_X5_findLines_116 k23 hk23 x1 s0 _ h)
  · replace h := ic hc h
    refine aw_aload_n dX5_findLines_73 rfl rfl ?_
    refine aw_getR (t := 33) dX5_findLines_74 fk_X5_23 pC_22 rfl ?_
    refine aw_iload_n dX5_findLines_77 rfl rfl ?_
    obtain ⟨hg1, h⟩ := gx_e h
    refine aw_iald dX5_findLines_78 aC_33 hg1 ?_
    refine aw_iconst dX5_findLines_79 ⟨by decide, by decide⟩ ?_
    refine aw_icmp_eq (tgt := 101) dX5_findLines_80 (by decide) (fun hc => ?_) (fun hc => ?_)
    · replace h := ip hc h
      exact aw_less (ls' := [some (vR (some 22)), some (vI x1), some (vI x2), none]) (⟨rfl, ⟨rfl, ⟨rfl, trivial⟩⟩⟩) (t_X5_findLines_101 k23 hk23 x1 x2 s0 _ h)
    · replace h := ic hc h
      refine aw_aload_n dX5_findLines_83 rfl rfl ?_
      refine aw_getR (t := 28) dX5_findLines_84 fk_X5_20 pC_22 rfl ?_
      refine aw_iload_n dX5_findLines_87 rfl rfl ?_
      refine aw_iconst dX5_findLines_88 ⟨by decide, by decide⟩ ?_
      obtain ⟨y1, hg2, h⟩ := bn_e h
      refine aw_V2i (M2 := M_X3_tell) dX5_findLines_89 lk_X5_101 mk_X3_tell mv_X3_tell ⟨by decide, by decide⟩ pC_28 ⟨_, _, rfl⟩ (Nat.le_of_ble_eq_true rfl) (c_X3_tell pC_28 hg2) ?_
      refine aw_aload_n dX5_findLines_92 rfl rfl ?_
      refine aw_getR (t := 33) dX5_findLines_93 fk_X5_23 pC_22 rfl ?_
      refine aw_iload_n dX5_findLines_96 rfl rfl ?_
      obtain ⟨hg3, h⟩ := gx_e h
      refine aw_iald dX5_findLines_97 aC_33 hg3 ?_
      refine aw_icmp_ge (tgt := 116) dX5_findLines_98 (by decide) (fun hc => ?_) (fun hc => ?_)
      · replace h := ip hc h
        exact aw_less (ls' := [some (vR (some 22)), some (vI x1), none, none]) (⟨rfl, ⟨rfl, trivial⟩⟩) (t_X5_findLines_116 k23 hk23 x1 s0 _ h)
      · replace h := ic hc h
        exact aw_less (ls' := [some (vR (some 22)), some (vI x1), some (vI x2), none]) (⟨rfl, ⟨rfl, ⟨rfl, trivial⟩⟩⟩) (t_X5_findLines_101 k23 hk23 x1 x2 s0 _ h)
def g_X5_findLines_67 (k23 : Int → SS → Option SS) (x1 : Int) (x2 : Int) (s0 : SS) : Option SS :=
  g_X5_findLines_68 k23 x1 x2 0 s0
set_option maxHeartbeats 4000000 in
theorem t_X5_findLines_67 (k23 : Int → SS → Option SS) (hk23 : ∀ (x1 : Int) (s0 : SS) (r : SS), k23 x1 s0 = some r → AW LC M_X5_findLines (none, r) 23 [some (vR (some 22)), some (vI x1), none, none] [] s0) : ∀ (x1 : Int) (x2 : Int) (s0 : SS) (r : SS), g_X5_findLines_67 k23 x1 x2 s0 = some r → AW LC M_X5_findLines (none, r) 67 [some (vR (some 22)), some (vI x1), some (vI x2), none] [] s0 := by
  intro x1 x2 s0 r h
  unfold g_X5_findLines_67 at h
  refine aw_iconst dX5_findLines_67 ⟨by decide, by decide⟩ ?_
  exact (t_X5_findLines_68 k23 hk23 x1 x2 0 s0 _ h)
def g_X5_findLines_23 (k23 : Int → SS → Option SS) (x1 : Int) (s0 : SS) : Option SS :=
  if (s0 22 6) ≤ x1 then (
    g_X5_findLines_122  s0
  ) else (
    bn (f_X3_tell 28 x1 2 s0) fun y1 =>
    bn (f_X3_tell 28 x1 0 s0) fun y2 =>
    if y2 ≤ 0 then (
      g_X5_findLines_67 k23 x1 y1 s0
    ) else (
      if y1 < 0 then (
        g_X5_findLines_67 k23 x1 y1 s0
      ) else (
        if 99 < y1 then (
          g_X5_findLines_67 k23 x1 y1 s0
        ) else (
          g_X5_findLines_68 k23 x1 y1 1 s0
        )
      )
    )
  )
set_option maxHeartbeats 4000000 in
theorem t_X5_findLines_23 (k23 : Int → SS → Option SS) (hk23 : ∀ (x1 : Int) (s0 : SS) (r : SS), k23 x1 s0 = some r → AW LC M_X5_findLines (none, r) 23 [some (vR (some 22)), some (vI x1), none, none] [] s0) : ∀ (x1 : Int) (s0 : SS) (r : SS), g_X5_findLines_23 k23 x1 s0 = some r → AW LC M_X5_findLines (none, r) 23 [some (vR (some 22)), some (vI x1), none, none] [] s0 := by
  intro x1 s0 r h
  unfold g_X5_findLines_23 at h
  refine aw_iload_n dX5_findLines_23 rfl rfl ?_
  refine aw_aload_n dX5_findLines_24 rfl rfl ?_
  refine aw_getI dX5_findLines_25 fk_X5_41 pC_22 rfl ?_
  refine aw_icmp_ge (tgt := 122) dX5_findLines_28 (by decide) (fun hc => ?_) (fun hc => ?_)
  · replace h := ip hc h
    exact aw_less (ls' := [some (vR (some 22)), none, none, none]) (⟨rfl, trivial⟩) (t_X5_findLines_122   s0 _ h)
  · replace h := ic hc h
    refine aw_aload_n dX5_findLines_31 rfl rfl ?_
    refine aw_getR (t := 28) dX5_findLines_32 fk_X5_20 pC_22 rfl ?_
    refine aw_iload_n dX5_findLines_35 rfl rfl ?_
    refine aw_iconst dX5_findLines_36 ⟨by decide, by decide⟩ ?_
    obtain ⟨y1, hg1, h⟩ := bn_e h
    refine aw_V2i (M2 := M_X3_tell) dX5_findLines_37 lk_X5_101 mk_X3_tell mv_X3_tell ⟨by decide, by decide⟩ pC_28 ⟨_, _, rfl⟩ (Nat.le_of_ble_eq_true rfl) (c_X3_tell pC_28 hg1) ?_
    refine aw_istore_nA dX5_findLines_40 rfl (by decide) rfl ?_
    show AW _ _ _ 41 [some (vR (some 22)), some (vI x1), some (vI y1), none] _ _
    refine aw_aload_n dX5_findLines_41 rfl rfl ?_
    refine aw_getR (t := 28) dX5_findLines_42 fk_X5_20 pC_22 rfl ?_
    refine aw_iload_n dX5_findLines_45 rfl rfl ?_
    refine aw_iconst dX5_findLines_46 ⟨by decide, by decide⟩ ?_
    obtain ⟨y2, hg2, h⟩ := bn_e h
    refine aw_V2i (M2 := M_X3_tell) dX5_findLines_47 lk_X5_101 mk_X3_tell mv_X3_tell ⟨by decide, by decide⟩ pC_28 ⟨_, _, rfl⟩ (Nat.le_of_ble_eq_true rfl) (c_X3_tell pC_28 hg2) ?_
    refine aw_if_le (tgt := 67) dX5_findLines_50 (by decide) (fun hc => ?_) (fun hc => ?_)
    · replace h := ip hc h
      exact (t_X5_findLines_67 k23 hk23 x1 y1 s0 _ h)
    · replace h := ic hc h
      refine aw_iload_n dX5_findLines_53 rfl rfl ?_
      refine aw_if_lt (tgt := 67) dX5_findLines_54 (by decide) (fun hc => ?_) (fun hc => ?_)
      · replace h := ip hc h
        exact (t_X5_findLines_67 k23 hk23 x1 y1 s0 _ h)
      · replace h := ic hc h
        refine aw_iload_n dX5_findLines_57 rfl rfl ?_
        refine aw_bipush dX5_findLines_58 ⟨by decide, by decide⟩ (by decide) ?_
        refine aw_icmp_gt (tgt := 67) dX5_findLines_60 (by decide) (fun hc => ?_) (fun hc => ?_)
        · replace h := ip hc h
          exact (t_X5_findLines_67 k23 hk23 x1 y1 s0 _ h)
        · replace h := ic hc h
          refine aw_iconst dX5_findLines_63 ⟨by decide, by decide⟩ ?_
          refine aw_goto (tgt := 68) dX5_findLines_64 (by decide) ?_
          exact (t_X5_findLines_68 k23 hk23 x1 y1 1 s0 _ h)
def f_X5_findLines_23 : Nat → Int → SS → Option SS
  | 0 => fun _ _ => none
  | n + 1 => g_X5_findLines_23 (f_X5_findLines_23  n)
theorem s_X5_findLines_23  : ∀ (n : Nat), ∀ (x1 : Int) (s0 : SS) (r : SS), f_X5_findLines_23 n x1 s0 = some r → AW LC M_X5_findLines (none, r) 23 [some (vR (some 22)), some (vI x1), none, none] [] s0 := by
  intro n
  induction n with
  | zero =>
    intro x1 s0 r h
    cases h
  | succ n ih =>
    intro x1 s0 r h
    exact t_X5_findLines_23 (f_X5_findLines_23  n) ih x1 s0 r h
def g_X5_findLines_21  (s0 : SS) : Option SS :=
  f_X5_findLines_23  FU 0 s0
set_option maxHeartbeats 4000000 in
theorem t_X5_findLines_21  : ∀ (s0 : SS) (r : SS), g_X5_findLines_21 s0 = some r → AW LC M_X5_findLines (none, r) 21 [some (vR (some 22)), none, none, none] [] s0 := by
  intro s0 r h
  unfold g_X5_findLines_21 at h
  refine aw_iconst dX5_findLines_21 ⟨by decide, by decide⟩ ?_
  refine aw_istore_nA dX5_findLines_22 rfl (by decide) rfl ?_
  show AW _ _ _ 23 [some (vR (some 22)), some (vI 0), none, none] _ _
  exact (s_X5_findLines_23   FU 0 s0 _ h)
def g_X5_findLines_2 (k2 : Int → SS → Option SS) (x1 : Int) (s0 : SS) : Option SS :=
  if 99 < x1 then (
    g_X5_findLines_21  s0
  ) else (
    gx x1 100 <|
    sb (up s0 33 x1.toNat (-1)) fun s1 =>
    sb (wr (x1 + 1)) fun y1 =>
    k2 y1 s1
  )
set_option maxHeartbeats 4000000 in
theorem t_X5_findLines_2 (k2 : Int → SS → Option SS) (hk2 : ∀ (x1 : Int) (s0 : SS) (r : SS), k2 x1 s0 = some r → AW LC M_X5_findLines (none, r) 2 [some (vR (some 22)), some (vI x1), none, none] [] s0) : ∀ (x1 : Int) (s0 : SS) (r : SS), g_X5_findLines_2 k2 x1 s0 = some r → AW LC M_X5_findLines (none, r) 2 [some (vR (some 22)), some (vI x1), none, none] [] s0 := by
  intro x1 s0 r h
  unfold g_X5_findLines_2 at h
  refine aw_iload_n dX5_findLines_2 rfl rfl ?_
  refine aw_bipush dX5_findLines_3 ⟨by decide, by decide⟩ (by decide) ?_
  refine aw_icmp_gt (tgt := 21) dX5_findLines_5 (by decide) (fun hc => ?_) (fun hc => ?_)
  · replace h := ip hc h
    exact aw_less (ls' := [some (vR (some 22)), none, none, none]) (⟨rfl, trivial⟩) (t_X5_findLines_21   s0 _ h)
  · replace h := ic hc h
    refine aw_aload_n dX5_findLines_8 rfl rfl ?_
    refine aw_getR (t := 33) dX5_findLines_9 fk_X5_23 pC_22 rfl ?_
    refine aw_iload_n dX5_findLines_12 rfl rfl ?_
    refine aw_iconst dX5_findLines_13 ⟨by decide, by decide⟩ ?_
    obtain ⟨hg1, h⟩ := gx_e h
    refine aw_iast dX5_findLines_14 aC_33 hg1 (fun s1 e => ?_)
    replace h := sb_e h e
    clear e
    refine aw_iinc dX5_findLines_15 rfl (by decide) rfl (fun y1 e => ?_)
    replace h := sb_e h e
    clear e
    show AW _ _ _ 18 [some (vR (some 22)), some (vI y1), none, none] _ _
    refine aw_goto (tgt := 2) dX5_findLines_18 (by decide) ?_
    exact (hk2 y1 s1 _ h)
def f_X5_findLines_2 : Nat → Int → SS → Option SS
  | 0 => fun _ _ => none
  | n + 1 => g_X5_findLines_2 (f_X5_findLines_2  n)
theorem s_X5_findLines_2  : ∀ (n : Nat), ∀ (x1 : Int) (s0 : SS) (r : SS), f_X5_findLines_2 n x1 s0 = some r → AW LC M_X5_findLines (none, r) 2 [some (vR (some 22)), some (vI x1), none, none] [] s0 := by
  intro n
  induction n with
  | zero =>
    intro x1 s0 r h
    cases h
  | succ n ih =>
    intro x1 s0 r h
    exact t_X5_findLines_2 (f_X5_findLines_2  n) ih x1 s0 r h
def f_X5_findLines  (s0 : SS) : Option SS :=
  f_X5_findLines_2  FU 0 s0
set_option maxHeartbeats 4000000 in
theorem t_X5_findLines_0  : ∀ (s0 : SS) (r : SS), f_X5_findLines s0 = some r → AW LC M_X5_findLines (none, r) 0 [some (vR (some 22)), none, none, none] [] s0 := by
  intro s0 r h
  unfold f_X5_findLines at h
  refine aw_iconst dX5_findLines_0 ⟨by decide, by decide⟩ ?_
  refine aw_istore_nA dX5_findLines_1 rfl (by decide) rfl ?_
  show AW _ _ _ 2 [some (vR (some 22)), some (vI 0), none, none] _ _
  exact (s_X5_findLines_2   FU 0 s0 _ h)
theorem c_X5_findLines {s0 : SS} {s1 : SS} (h : f_X5_findLines s0 = some s1) : CT LC M_X5_findLines [vR (some 22)] s0 (none, s1) :=
  ct_of (n := 3) (by decide) (Nat.le_of_ble_eq_true rfl) (t_X5_findLines_0  s0  _ h)
def g_X5_findShrinks_96  (s0 : SS) : Option SS :=
  some s0
set_option maxHeartbeats 4000000 in
theorem t_X5_findShrinks_96  : ∀ (s0 : SS) (r : SS), g_X5_findShrinks_96 s0 = some r → AW LC M_X5_findShrinks (none, r) 96 [none, none] [] s0 := by
  intro s0 r h
  unfold g_X5_findShrinks_96 at h
  obtain rfl := Option.some.inj h
  exact aw_vret dX5_findShrinks_96 rfl
def g_X5_findShrinks_90 (k12 : Int → SS → Option SS) (x1 : Int) (s0 : SS) : Option SS :=
  sb (wr (x1 + 1)) fun y1 =>
  k12 y1 s0
set_option maxHeartbeats 4000000 in
theorem t_X5_findShrinks_90 (k12 : Int → SS → Option SS) (hk12 : ∀ (x1 : Int) (s0 : SS) (r : SS), k12 x1 s0 = some r → AW LC M_X5_findShrinks (none, r) 12 [some (vR (some 22)), some (vI x1)] [] s0) : ∀ (x1 : Int) (s0 : SS) (r : SS), g_X5_findShrinks_90 k12 x1 s0 = some r → AW LC M_X5_findShrinks (none, r) 90 [some (vR (some 22)), some (vI x1)] [] s0 := by
  intro x1 s0 r h
  unfold g_X5_findShrinks_90 at h
  refine aw_iinc dX5_findShrinks_90 rfl (by decide) rfl (fun y1 e => ?_)
  replace h := sb_e h e
  clear e
  show AW _ _ _ 93 [some (vR (some 22)), some (vI y1)] _ _
  refine aw_goto (tgt := 12) dX5_findShrinks_93 (by decide) ?_
  exact (hk12 y1 s0 _ h)
def g_X5_findShrinks_41 (k12 : Int → SS → Option SS) (x1 : Int) (s0 : SS) : Option SS :=
  gx x1 100 <|
  gx (wr (x1 - 1)) 100 <|
  if (s0 33 (wr (x1 - 1)).toNat) ≤ (s0 33 x1.toNat) then (
    g_X5_findShrinks_90 k12 x1 s0
  ) else (
    if 40 ≤ (s0 22 4) then (
      g_X5_findShrinks_90 k12 x1 s0
    ) else (
      gx (s0 22 4) 40 <|
      sb (up s0 34 (s0 22 4).toNat x1) fun s1 =>
      sb (up s1 22 4 (wr ((s1 22 4) + 1))) fun s2 =>
      g_X5_findShrinks_90 k12 x1 s2
    )
  )
set_option maxHeartbeats 4000000 in
theorem t_X5_findShrinks_41 (k12 : Int → SS → Option SS) (hk12 : ∀ (x1 : Int) (s0 : SS) (r : SS), k12 x1 s0 = some r → AW LC M_X5_findShrinks (none, r) 12 [some (vR (some 22)), some (vI x1)] [] s0) : ∀ (x1 : Int) (s0 : SS) (r : SS), g_X5_findShrinks_41 k12 x1 s0 = some r → AW LC M_X5_findShrinks (none, r) 41 [some (vR (some 22)), some (vI x1)] [] s0 := by
  intro x1 s0 r h
  unfold g_X5_findShrinks_41 at h
  refine aw_aload_n dX5_findShrinks_41 rfl rfl ?_
  refine aw_getR (t := 33) dX5_findShrinks_42 fk_X5_23 pC_22 rfl ?_
  refine aw_iload_n dX5_findShrinks_45 rfl rfl ?_
  obtain ⟨hg1, h⟩ := gx_e h
  refine aw_iald dX5_findShrinks_46 aC_33 hg1 ?_
  refine aw_aload_n dX5_findShrinks_47 rfl rfl ?_
  refine aw_getR (t := 33) dX5_findShrinks_48 fk_X5_23 pC_22 rfl ?_
  refine aw_iload_n dX5_findShrinks_51 rfl rfl ?_
  refine aw_iconst dX5_findShrinks_52 ⟨by decide, by decide⟩ ?_
  refine aw_isub dX5_findShrinks_53 ?_
  obtain ⟨hg2, h⟩ := gx_e h
  refine aw_iald dX5_findShrinks_54 aC_33 hg2 ?_
  refine aw_icmp_ge (tgt := 90) dX5_findShrinks_55 (by decide) (fun hc => ?_) (fun hc => ?_)
  · replace h := ip hc h
    exact (t_X5_findShrinks_90 k12 hk12 x1 s0 _ h)
  · replace h := ic hc h
    refine aw_aload_n dX5_findShrinks_58 rfl rfl ?_
    refine aw_getI dX5_findShrinks_59 fk_X5_108 pC_22 rfl ?_
    refine aw_aload_n dX5_findShrinks_62 rfl rfl ?_
    refine aw_getR (t := 34) dX5_findShrinks_63 fk_X5_27 pC_22 rfl ?_
    refine aw_alen dX5_findShrinks_66 aC_34 (by decide) ⟨by decide, by decide⟩ ?_
    refine aw_icmp_ge (tgt := 90) dX5_findShrinks_67 (by decide) (fun hc => ?_) (fun hc => ?_)
    · replace h := ip hc h
      exact (t_X5_findShrinks_90 k12 hk12 x1 s0 _ h)
    · replace h := ic hc h
      refine aw_aload_n dX5_findShrinks_70 rfl rfl ?_
      refine aw_getR (t := 34) dX5_findShrinks_71 fk_X5_27 pC_22 rfl ?_
      refine aw_aload_n dX5_findShrinks_74 rfl rfl ?_
      refine aw_getI dX5_findShrinks_75 fk_X5_108 pC_22 rfl ?_
      refine aw_iload_n dX5_findShrinks_78 rfl rfl ?_
      obtain ⟨hg3, h⟩ := gx_e h
      refine aw_iast dX5_findShrinks_79 aC_34 hg3 (fun s1 e => ?_)
      replace h := sb_e h e
      clear e
      refine aw_aload_n dX5_findShrinks_80 rfl rfl ?_
      refine aw_dup dX5_findShrinks_81 rfl ?_
      refine aw_getI dX5_findShrinks_82 fk_X5_108 pC_22 rfl ?_
      refine aw_iconst dX5_findShrinks_85 ⟨by decide, by decide⟩ ?_
      refine aw_iadd dX5_findShrinks_86 ?_
      refine aw_put dX5_findShrinks_87 fk_X5_108 pC_22 rfl ft_5_4 (nar_int _) (fun s2 e => ?_)
      replace h := sb_e h e
      clear e
      exact (t_X5_findShrinks_90 k12 hk12 x1 s2 _ h)
def g_X5_findShrinks_12 (k12 : Int → SS → Option SS) (x1 : Int) (s0 : SS) : Option SS :=
  if 99 < x1 then (
    g_X5_findShrinks_96  s0
  ) else (
    if (s0 22 5) = (-1) then (
      gx x1 100 <|
      if (s0 33 x1.toNat) = (-1) then (
        g_X5_findShrinks_41 k12 x1 s0
      ) else (
        sb (up s0 22 5 x1) fun s1 =>
        g_X5_findShrinks_41 k12 x1 s1
      )
    ) else (
      g_X5_findShrinks_41 k12 x1 s0
    )
  )
set_option maxHeartbeats 4000000 in
theorem t_X5_findShrinks_12 (k12 : Int → SS → Option SS) (hk12 : ∀ (x1 : Int) (s0 : SS) (r : SS), k12 x1 s0 = some r → AW LC M_X5_findShrinks (none, r) 12 [some (vR (some 22)), some (vI x1)] [] s0) : ∀ (x1 : Int) (s0 : SS) (r : SS), g_X5_findShrinks_12 k12 x1 s0 = some r → AW LC M_X5_findShrinks (none, r) 12 [some (vR (some 22)), some (vI x1)] [] s0 := by
  intro x1 s0 r h
  unfold g_X5_findShrinks_12 at h
  refine aw_iload_n dX5_findShrinks_12 rfl rfl ?_
  refine aw_bipush dX5_findShrinks_13 ⟨by decide, by decide⟩ (by decide) ?_
  refine aw_icmp_gt (tgt := 96) dX5_findShrinks_15 (by decide) (fun hc => ?_) (fun hc => ?_)
  · replace h := ip hc h
    exact aw_less (ls' := [none, none]) (trivial) (t_X5_findShrinks_96   s0 _ h)
  · replace h := ic hc h
    refine aw_aload_n dX5_findShrinks_18 rfl rfl ?_
    refine aw_getI dX5_findShrinks_19 fk_X5_30 pC_22 rfl ?_
    refine aw_iconst dX5_findShrinks_22 ⟨by decide, by decide⟩ ?_
    refine aw_icmp_ne (tgt := 41) dX5_findShrinks_23 (by decide) (fun hc => ?_) (fun hc => ?_)
    rotate_left
    · replace h := ip hc h
      refine aw_aload_n dX5_findShrinks_26 rfl rfl ?_
      refine aw_getR (t := 33) dX5_findShrinks_27 fk_X5_23 pC_22 rfl ?_
      refine aw_iload_n dX5_findShrinks_30 rfl rfl ?_
      obtain ⟨hg1, h⟩ := gx_e h
      refine aw_iald dX5_findShrinks_31 aC_33 hg1 ?_
      refine aw_iconst dX5_findShrinks_32 ⟨by decide, by decide⟩ ?_
      refine aw_icmp_eq (tgt := 41) dX5_findShrinks_33 (by decide) (fun hc => ?_) (fun hc => ?_)
      · replace h := ip hc h
        exact (t_X5_findShrinks_41 k12 hk12 x1 s0 _ h)
      · replace h := ic hc h
        refine aw_aload_n dX5_findShrinks_36 rfl rfl ?_
        refine aw_iload_n dX5_findShrinks_37 rfl rfl ?_
        refine aw_put dX5_findShrinks_38 fk_X5_30 pC_22 rfl ft_5_5 (nar_int _) (fun s1 e => ?_)
        replace h := sb_e h e
        clear e
        exact (t_X5_findShrinks_41 k12 hk12 x1 s1 _ h)
    · replace h := ic hc h
      exact (t_X5_findShrinks_41 k12 hk12 x1 s0 _ h)
def f_X5_findShrinks_12 : Nat → Int → SS → Option SS
  | 0 => fun _ _ => none
  | n + 1 => g_X5_findShrinks_12 (f_X5_findShrinks_12  n)
theorem s_X5_findShrinks_12  : ∀ (n : Nat), ∀ (x1 : Int) (s0 : SS) (r : SS), f_X5_findShrinks_12 n x1 s0 = some r → AW LC M_X5_findShrinks (none, r) 12 [some (vR (some 22)), some (vI x1)] [] s0 := by
  intro n
  induction n with
  | zero =>
    intro x1 s0 r h
    cases h
  | succ n ih =>
    intro x1 s0 r h
    exact t_X5_findShrinks_12 (f_X5_findShrinks_12  n) ih x1 s0 r h
def f_X5_findShrinks  (s0 : SS) : Option SS :=
  sb (up s0 22 4 0) fun s1 =>
  sb (up s1 22 5 (-1)) fun s2 =>
  f_X5_findShrinks_12  FU 1 s2
set_option maxHeartbeats 4000000 in
theorem t_X5_findShrinks_0  : ∀ (s0 : SS) (r : SS), f_X5_findShrinks s0 = some r → AW LC M_X5_findShrinks (none, r) 0 [some (vR (some 22)), none] [] s0 := by
  intro s0 r h
  unfold f_X5_findShrinks at h
  refine aw_aload_n dX5_findShrinks_0 rfl rfl ?_
  refine aw_iconst dX5_findShrinks_1 ⟨by decide, by decide⟩ ?_
  refine aw_put dX5_findShrinks_2 fk_X5_108 pC_22 rfl ft_5_4 (nar_int _) (fun s1 e => ?_)
  replace h := sb_e h e
  clear e
  refine aw_aload_n dX5_findShrinks_5 rfl rfl ?_
  refine aw_iconst dX5_findShrinks_6 ⟨by decide, by decide⟩ ?_
  refine aw_put dX5_findShrinks_7 fk_X5_30 pC_22 rfl ft_5_5 (nar_int _) (fun s2 e => ?_)
  replace h := sb_e h e
  clear e
  refine aw_iconst dX5_findShrinks_10 ⟨by decide, by decide⟩ ?_
  refine aw_istore_nA dX5_findShrinks_11 rfl (by decide) rfl ?_
  show AW _ _ _ 12 [some (vR (some 22)), some (vI 1)] _ _
  exact (s_X5_findShrinks_12   FU 1 s2 _ h)
theorem c_X5_findShrinks {s0 : SS} {s1 : SS} (h : f_X5_findShrinks s0 = some s1) : CT LC M_X5_findShrinks [vR (some 22)] s0 (none, s1) :=
  ct_of (n := 1) (by decide) (Nat.le_of_ble_eq_true rfl) (t_X5_findShrinks_0  s0  _ h)
def g_X5_make_87  (s0 : SS) : Option SS :=
  bn (f_X5_findLines s0) fun s1 =>
  bn (f_X5_findShrinks s1) fun s2 =>
  some s2
set_option maxHeartbeats 4000000 in
theorem t_X5_make_87  : ∀ (s0 : SS) (r : SS), g_X5_make_87 s0 = some r → AW LC M_X5_make (none, r) 87 [some (vR (some 22)), none, none] [] s0 := by
  intro s0 r h
  unfold g_X5_make_87 at h
  refine aw_aload_n dX5_make_87 rfl rfl ?_
  obtain ⟨s1, hg1, h⟩ := bn_e h
  refine aw_V0v (M2 := M_X5_findLines) dX5_make_88 lk_X5_64 mk_X5_findLines mv_X5_findLines ⟨by decide, by decide⟩ pC_22 ⟨_, _, rfl⟩ (Nat.le_of_ble_eq_true rfl) (c_X5_findLines  hg1) ?_
  refine aw_aload_n dX5_make_91 rfl rfl ?_
  obtain ⟨s2, hg2, h⟩ := bn_e h
  refine aw_V0v (M2 := M_X5_findShrinks) dX5_make_92 lk_X5_67 mk_X5_findShrinks mv_X5_findShrinks ⟨by decide, by decide⟩ pC_22 ⟨_, _, rfl⟩ (Nat.le_of_ble_eq_true rfl) (c_X5_findShrinks  hg2) ?_
  obtain rfl := Option.some.inj h
  exact aw_vret dX5_make_95 rfl
def g_X5_make_23 (k23 : Int → SS → Option SS) (x2 : Int) (s0 : SS) : Option SS :=
  if (s0 22 6) ≤ x2 then (
    g_X5_make_87  s0
  ) else (
    bn (f_X5_shapeParts x2 s0) fun s1 =>
    gx 0 40 <|
    gx 0 40 <|
    gx 0 40 <|
    gx 0 40 <|
    bn (f_X3_set 28 x2 (s1 24 (0 : Int).toNat) (s1 25 (0 : Int).toNat) (s1 26 (0 : Int).toNat) (s1 27 (0 : Int).toNat) s1) fun s2 =>
    sb (wr (x2 + 1)) fun y1 =>
    k23 y1 s2
  )
set_option maxHeartbeats 4000000 in
theorem t_X5_make_23 (k23 : Int → SS → Option SS) (hk23 : ∀ (x2 : Int) (s0 : SS) (r : SS), k23 x2 s0 = some r → AW LC M_X5_make (none, r) 23 [some (vR (some 22)), some (vR (some 1)), some (vI x2)] [] s0) : ∀ (x2 : Int) (s0 : SS) (r : SS), g_X5_make_23 k23 x2 s0 = some r → AW LC M_X5_make (none, r) 23 [some (vR (some 22)), some (vR (some 1)), some (vI x2)] [] s0 := by
  intro x2 s0 r h
  unfold g_X5_make_23 at h
  refine aw_iload_n dX5_make_23 rfl rfl ?_
  refine aw_aload_n dX5_make_24 rfl rfl ?_
  refine aw_getI dX5_make_25 fk_X5_41 pC_22 rfl ?_
  refine aw_icmp_ge (tgt := 87) dX5_make_28 (by decide) (fun hc => ?_) (fun hc => ?_)
  · replace h := ip hc h
    exact aw_less (ls' := [some (vR (some 22)), none, none]) (⟨rfl, trivial⟩) (t_X5_make_87   s0 _ h)
  · replace h := ic hc h
    refine aw_aload_n dX5_make_31 rfl rfl ?_
    refine aw_aload_n dX5_make_32 rfl rfl ?_
    refine aw_iload_n dX5_make_33 rfl rfl ?_
    obtain ⟨s1, hg1, h⟩ := bn_e h
    refine aw_V2v (M2 := M_X5_shapeParts) dX5_make_34 lk_X5_44 mk_X5_shapeParts mv_X5_shapeParts ⟨by decide, by decide⟩ pC_22 ⟨_, _, rfl⟩ (Nat.le_of_ble_eq_true rfl) (c_X5_shapeParts  hg1) ?_
    refine aw_aload_n dX5_make_37 rfl rfl ?_
    refine aw_getR (t := 28) dX5_make_38 fk_X5_20 pC_22 rfl ?_
    refine aw_iload_n dX5_make_41 rfl rfl ?_
    refine aw_aload_n dX5_make_42 rfl rfl ?_
    refine aw_getR (t := 23) dX5_make_43 fk_X5_14 pC_22 rfl ?_
    refine aw_getR (t := 24) dX5_make_46 fk_X5_48 pC_23 rfl ?_
    refine aw_iconst dX5_make_49 ⟨by decide, by decide⟩ ?_
    obtain ⟨hg2, h⟩ := gx_e h
    refine aw_iald dX5_make_50 aC_24 hg2 ?_
    refine aw_aload_n dX5_make_51 rfl rfl ?_
    refine aw_getR (t := 23) dX5_make_52 fk_X5_14 pC_22 rfl ?_
    refine aw_getR (t := 25) dX5_make_55 fk_X5_51 pC_23 rfl ?_
    refine aw_iconst dX5_make_58 ⟨by decide, by decide⟩ ?_
    obtain ⟨hg3, h⟩ := gx_e h
    refine aw_iald dX5_make_59 aC_25 hg3 ?_
    refine aw_aload_n dX5_make_60 rfl rfl ?_
    refine aw_getR (t := 23) dX5_make_61 fk_X5_14 pC_22 rfl ?_
    refine aw_getR (t := 26) dX5_make_64 fk_X5_54 pC_23 rfl ?_
    refine aw_iconst dX5_make_67 ⟨by decide, by decide⟩ ?_
    obtain ⟨hg4, h⟩ := gx_e h
    refine aw_iald dX5_make_68 aC_26 hg4 ?_
    refine aw_aload_n dX5_make_69 rfl rfl ?_
    refine aw_getR (t := 23) dX5_make_70 fk_X5_14 pC_22 rfl ?_
    refine aw_getR (t := 27) dX5_make_73 fk_X5_57 pC_23 rfl ?_
    refine aw_iconst dX5_make_76 ⟨by decide, by decide⟩ ?_
    obtain ⟨hg5, h⟩ := gx_e h
    refine aw_iald dX5_make_77 aC_27 hg5 ?_
    obtain ⟨s2, hg6, h⟩ := bn_e h
    refine aw_V5v (M2 := M_X3_set) dX5_make_78 lk_X5_60 mk_X3_set mv_X3_set ⟨by decide, by decide⟩ pC_28 ⟨_, _, rfl⟩ (Nat.le_of_ble_eq_true rfl) (c_X3_set pC_28 hg6) ?_
    refine aw_iinc dX5_make_81 rfl (by decide) rfl (fun y1 e => ?_)
    replace h := sb_e h e
    clear e
    show AW _ _ _ 84 [some (vR (some 22)), some (vR (some 1)), some (vI y1)] _ _
    refine aw_goto (tgt := 23) dX5_make_84 (by decide) ?_
    exact (hk23 y1 s2 _ h)
def f_X5_make_23 : Nat → Int → SS → Option SS
  | 0 => fun _ _ => none
  | n + 1 => g_X5_make_23 (f_X5_make_23  n)
theorem s_X5_make_23  : ∀ (n : Nat), ∀ (x2 : Int) (s0 : SS) (r : SS), f_X5_make_23 n x2 s0 = some r → AW LC M_X5_make (none, r) 23 [some (vR (some 22)), some (vR (some 1)), some (vI x2)] [] s0 := by
  intro n
  induction n with
  | zero =>
    intro x2 s0 r h
    cases h
  | succ n ih =>
    intro x2 s0 r h
    exact t_X5_make_23 (f_X5_make_23  n) ih x2 s0 r h
def g_X5_make_18 (z0 : Int) (s0 : SS) : Option SS :=
  sb (up s0 22 6 z0) fun s1 =>
  f_X5_make_23  FU 0 s1
set_option maxHeartbeats 4000000 in
theorem t_X5_make_18  : ∀ (z0 : Int) (s0 : SS) (r : SS), g_X5_make_18 z0 s0 = some r → AW LC M_X5_make (none, r) 18 [some (vR (some 22)), some (vR (some 1)), none] [vI z0, vR (some 22)] s0 := by
  intro z0 s0 r h
  unfold g_X5_make_18 at h
  refine aw_put dX5_make_18 fk_X5_41 pC_22 rfl ft_5_6 (nar_int _) (fun s1 e => ?_)
  replace h := sb_e h e
  clear e
  refine aw_iconst dX5_make_21 ⟨by decide, by decide⟩ ?_
  refine aw_istore_nA dX5_make_22 rfl (by decide) rfl ?_
  show AW _ _ _ 23 [some (vR (some 22)), some (vR (some 1)), some (vI 0)] _ _
  exact (s_X5_make_23   FU 0 s1 _ h)
def f_X5_make  (s0 : SS) : Option SS :=
  if (s0 1 9) = 0 then (
    g_X5_make_18  0 s0
  ) else (
    g_X5_make_18  (i_shl 1 (s0 1 10)) s0
  )
set_option maxHeartbeats 4000000 in
theorem t_X5_make_0  : ∀ (s0 : SS) (r : SS), f_X5_make s0 = some r → AW LC M_X5_make (none, r) 0 [some (vR (some 22)), some (vR (some 1)), none] [] s0 := by
  intro s0 r h
  unfold f_X5_make at h
  refine aw_aload_n dX5_make_0 rfl rfl ?_
  refine aw_aload_n dX5_make_1 rfl rfl ?_
  refine aw_getI dX5_make_2 fk_X5_34 pC_1 rfl ?_
  refine aw_if_ne (tgt := 12) dX5_make_5 (by decide) (fun hc => ?_) (fun hc => ?_)
  rotate_left
  · replace h := ip hc h
    refine aw_iconst dX5_make_8 ⟨by decide, by decide⟩ ?_
    refine aw_goto (tgt := 18) dX5_make_9 (by decide) ?_
    exact (t_X5_make_18   0 s0 _ h)
  · replace h := ic hc h
    refine aw_iconst dX5_make_12 ⟨by decide, by decide⟩ ?_
    refine aw_aload_n dX5_make_13 rfl rfl ?_
    refine aw_getI dX5_make_14 fk_X5_38 pC_1 rfl ?_
    refine aw_ishl dX5_make_17 ?_
    exact (t_X5_make_18   (i_shl 1 (s0 1 10)) s0 _ h)
theorem c_X5_make {s0 : SS} {s1 : SS} (h : f_X5_make s0 = some s1) : CT LC M_X5_make [vR (some 22), vR (some 1)] s0 (none, s1) :=
  ct_of (n := 1) (by decide) (Nat.le_of_ble_eq_true rfl) (t_X5_make_0  s0  _ h)
def f_X6_readDoc  (s0 : SS) : Option SS :=
  bn (f_X0_parse s0) fun s1 =>
  bn (f_X5_make s1) fun s2 =>
  some s2
set_option maxHeartbeats 4000000 in
theorem t_X6_readDoc_0  : ∀ (s0 : SS) (r : SS), f_X6_readDoc s0 = some r → AW LC M_X6_readDoc (none, r) 0 [some (vR (some 0))] [] s0 := by
  intro s0 r h
  unfold f_X6_readDoc at h
  refine aw_aload_n dX6_readDoc_0 rfl rfl ?_
  refine aw_getR (t := 1) dX6_readDoc_1 fk_X6_10 pC_0 rfl ?_
  obtain ⟨s1, hg1, h⟩ := bn_e h
  refine aw_V0v (M2 := M_X0_parse) dX6_readDoc_4 lk_X6_257 mk_X0_parse mv_X0_parse ⟨by decide, by decide⟩ pC_1 ⟨_, _, rfl⟩ (Nat.le_of_ble_eq_true rfl) (c_X0_parse  hg1) ?_
  refine aw_aload_n dX6_readDoc_7 rfl rfl ?_
  refine aw_getR (t := 22) dX6_readDoc_8 fk_X6_35 pC_0 rfl ?_
  refine aw_aload_n dX6_readDoc_11 rfl rfl ?_
  refine aw_getR (t := 1) dX6_readDoc_12 fk_X6_10 pC_0 rfl ?_
  obtain ⟨s2, hg2, h⟩ := bn_e h
  refine aw_V1v (M2 := M_X5_make) dX6_readDoc_15 lk_X6_260 mk_X5_make mv_X5_make ⟨by decide, by decide⟩ pC_22 ⟨_, _, rfl⟩ (Nat.le_of_ble_eq_true rfl) (c_X5_make  hg2) ?_
  obtain rfl := Option.some.inj h
  exact aw_vret dX6_readDoc_18 rfl
theorem c_X6_readDoc {s0 : SS} {s1 : SS} (h : f_X6_readDoc s0 = some s1) : CT LC M_X6_readDoc [vR (some 0)] s0 (none, s1) :=
  ct_of (n := 0) (by decide) (Nat.le_of_ble_eq_true rfl) (t_X6_readDoc_0  s0  _ h)
def g_X1_trialPlace_39 (z0 : Int) (s0 : SS) : Option Int :=
  some z0
set_option maxHeartbeats 4000000 in
theorem t_X1_trialPlace_39  : ∀ (z0 : Int) (s0 : SS) (r : Int), g_X1_trialPlace_39 z0 s0 = some r → AW LC M_X1_trialPlace (some (vI r), s0) 39 [none, none] [vI z0] s0 := by
  intro z0 s0 r h
  unfold g_X1_trialPlace_39 at h
  obtain rfl := Option.some.inj h
  exact aw_iret dX1_trialPlace_39 rfl
def g_X1_trialPlace_38  (s0 : SS) : Option Int :=
  g_X1_trialPlace_39  (-1) s0
set_option maxHeartbeats 4000000 in
theorem t_X1_trialPlace_38  : ∀ (s0 : SS) (r : Int), g_X1_trialPlace_38 s0 = some r → AW LC M_X1_trialPlace (some (vI r), s0) 38 [none, none] [] s0 := by
  intro s0 r h
  unfold g_X1_trialPlace_38 at h
  refine aw_iconst dX1_trialPlace_38 ⟨by decide, by decide⟩ ?_
  exact (t_X1_trialPlace_39   (-1) s0 _ h)
def f_X1_trialPlace (x1 : Int) (s0 : SS) : Option Int :=
  if x1 < 0 then (
    g_X1_trialPlace_38  s0
  ) else (
    if 40 ≤ x1 then (
      g_X1_trialPlace_38  s0
    ) else (
      gx x1 40 <|
      if 64 ≤ (s0 16 x1.toNat) then (
        g_X1_trialPlace_38  s0
      ) else (
        gx x1 40 <|
        g_X1_trialPlace_39  (wr ((wr (x1 * 64)) + (s0 16 x1.toNat))) s0
      )
    )
  )
set_option maxHeartbeats 4000000 in
theorem t_X1_trialPlace_0  : ∀ (x1 : Int) (s0 : SS) (r : Int), f_X1_trialPlace x1 s0 = some r → AW LC M_X1_trialPlace (some (vI r), s0) 0 [some (vR (some 10)), some (vI x1)] [] s0 := by
  intro x1 s0 r h
  unfold f_X1_trialPlace at h
  refine aw_iload_n dX1_trialPlace_0 rfl rfl ?_
  refine aw_if_lt (tgt := 38) dX1_trialPlace_1 (by decide) (fun hc => ?_) (fun hc => ?_)
  · replace h := ip hc h
    exact aw_less (ls' := [none, none]) (trivial) (t_X1_trialPlace_38   s0 _ h)
  · replace h := ic hc h
    refine aw_iload_n dX1_trialPlace_4 rfl rfl ?_
    refine aw_aload_n dX1_trialPlace_5 rfl rfl ?_
    refine aw_getR (t := 16) dX1_trialPlace_6 fk_X1_20 pC_10 rfl ?_
    refine aw_alen dX1_trialPlace_9 aC_16 (by decide) ⟨by decide, by decide⟩ ?_
    refine aw_icmp_ge (tgt := 38) dX1_trialPlace_10 (by decide) (fun hc => ?_) (fun hc => ?_)
    · replace h := ip hc h
      exact aw_less (ls' := [none, none]) (trivial) (t_X1_trialPlace_38   s0 _ h)
    · replace h := ic hc h
      refine aw_aload_n dX1_trialPlace_13 rfl rfl ?_
      refine aw_getR (t := 16) dX1_trialPlace_14 fk_X1_20 pC_10 rfl ?_
      refine aw_iload_n dX1_trialPlace_17 rfl rfl ?_
      obtain ⟨hg1, h⟩ := gx_e h
      refine aw_iald dX1_trialPlace_18 aC_16 hg1 ?_
      refine aw_bipush dX1_trialPlace_19 ⟨by decide, by decide⟩ (by decide) ?_
      refine aw_icmp_ge (tgt := 38) dX1_trialPlace_21 (by decide) (fun hc => ?_) (fun hc => ?_)
      · replace h := ip hc h
        exact aw_less (ls' := [none, none]) (trivial) (t_X1_trialPlace_38   s0 _ h)
      · replace h := ic hc h
        refine aw_iload_n dX1_trialPlace_24 rfl rfl ?_
        refine aw_bipush dX1_trialPlace_25 ⟨by decide, by decide⟩ (by decide) ?_
        refine aw_imul dX1_trialPlace_27 ?_
        refine aw_aload_n dX1_trialPlace_28 rfl rfl ?_
        refine aw_getR (t := 16) dX1_trialPlace_29 fk_X1_20 pC_10 rfl ?_
        refine aw_iload_n dX1_trialPlace_32 rfl rfl ?_
        obtain ⟨hg2, h⟩ := gx_e h
        refine aw_iald dX1_trialPlace_33 aC_16 hg2 ?_
        refine aw_iadd dX1_trialPlace_34 ?_
        refine aw_goto (tgt := 39) dX1_trialPlace_35 (by decide) ?_
        exact aw_less (ls' := [none, none]) (trivial) (t_X1_trialPlace_39   (wr ((wr (x1 * 64)) + (s0 16 x1.toNat))) s0 _ h)
theorem c_X1_trialPlace {x1 : Int} {s0 : SS} {y : Int} (h : f_X1_trialPlace x1 s0 = some y) : CT LC M_X1_trialPlace [vR (some 10), vI x1] s0 (some (vI y), s0) :=
  ct_of (n := 0) (by decide) (Nat.le_of_ble_eq_true rfl) (t_X1_trialPlace_0 x1 s0  _ h)
