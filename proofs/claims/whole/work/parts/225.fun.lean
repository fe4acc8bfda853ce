def g_X7_digest_311 (x1 : Int) (s0 : SS) : Option (Int × SS) :=
  cb (f_X7_enoughOf s0) fun y1 s1 =>
  sb (wl ((wl (31 * x1)) + y1)) fun y2 =>
  cb (f_X7_shrinksOf (-1) s1) fun y3 s2 =>
  sb (wl ((wl (31 * y2)) + y3)) fun y4 =>
  cb (f_X7_shrinksOf 0 s2) fun y5 s3 =>
  sb (wl ((wl (31 * y4)) + y5)) fun y6 =>
  cb (f_X7_shrinksOf 1 s3) fun y7 s4 =>
  sb (wl ((wl (31 * y6)) + y7)) fun y8 =>
  cb (f_X7_spareOf s4) fun y9 s5 =>
  some (wl ((wl (31 * y8)) + y9), s5)
set_option maxHeartbeats 4000000 in
theorem t_X7_digest_311  : ∀ (x1 : Int) (s0 : SS) (r : (Int × SS)), g_X7_digest_311 x1 s0 = some r → AW LM M_X7_digest (some (vL r.1), r.2) 311 [some (vR (some 0)), some (vL x1), none, none, none, none] [] s0 := by
  intro x1 s0 r h
  unfold g_X7_digest_311 at h
  refine aw_ldc2 (n := 31) dX7_digest_311 cl_X7_295 ⟨by decide, by decide⟩ (by decide) ?_
  refine aw_lload_n dX7_digest_314 rfl rfl ?_
  refine aw_lmul dX7_digest_315 ?_
  refine aw_aload_n dX7_digest_316 rfl rfl ?_
  obtain ⟨y1, s1, hg1, h⟩ := cb_e h
  refine aw_V0i (M2 := M_X7_enoughOf) dX7_digest_317 lk_X7_255 mk_X7_enoughOf mv_X7_enoughOf ⟨by decide, by decide⟩ pM_0 ⟨_, _, rfl⟩ (Nat.le_of_ble_eq_true rfl) (c_X7_enoughOf  hg1) ?_
  refine aw_i2l dX7_digest_320 ?_
  refine aw_ladd dX7_digest_321 ?_
  refine aw_lstore_n dX7_digest_322 rfl (by decide) rfl (fun y2 e => ?_)
  replace h := sb_e h e
  clear e
  show AW _ _ _ 323 [some (vR (some 0)), some (vL y2), none, none, none, none] _ _
  refine aw_ldc2 (n := 31) dX7_digest_323 cl_X7_295 ⟨by decide, by decide⟩ (by decide) ?_
  refine aw_lload_n dX7_digest_326 rfl rfl ?_
  refine aw_lmul dX7_digest_327 ?_
  refine aw_aload_n dX7_digest_328 rfl rfl ?_
  refine aw_iconst dX7_digest_329 ⟨by decide, by decide⟩ ?_
  obtain ⟨y3, s2, hg2, h⟩ := cb_e h
  refine aw_V1i (M2 := M_X7_shrinksOf) dX7_digest_330 lk_X7_261 mk_X7_shrinksOf mv_X7_shrinksOf ⟨by decide, by decide⟩ pM_0 ⟨_, _, rfl⟩ (Nat.le_of_ble_eq_true rfl) (c_X7_shrinksOf  hg2) ?_
  refine aw_i2l dX7_digest_333 ?_
  refine aw_ladd dX7_digest_334 ?_
  refine aw_lstore_n dX7_digest_335 rfl (by decide) rfl (fun y4 e => ?_)
  replace h := sb_e h e
  clear e
  show AW _ _ _ 336 [some (vR (some 0)), some (vL y4), none, none, none, none] _ _
  refine aw_ldc2 (n := 31) dX7_digest_336 cl_X7_295 ⟨by decide, by decide⟩ (by decide) ?_
  refine aw_lload_n dX7_digest_339 rfl rfl ?_
  refine aw_lmul dX7_digest_340 ?_
  refine aw_aload_n dX7_digest_341 rfl rfl ?_
  refine aw_iconst dX7_digest_342 ⟨by decide, by decide⟩ ?_
  obtain ⟨y5, s3, hg3, h⟩ := cb_e h
  refine aw_V1i (M2 := M_X7_shrinksOf) dX7_digest_343 lk_X7_261 mk_X7_shrinksOf mv_X7_shrinksOf ⟨by decide, by decide⟩ pM_0 ⟨_, _, rfl⟩ (Nat.le_of_ble_eq_true rfl) (c_X7_shrinksOf  hg3) ?_
  refine aw_i2l dX7_digest_346 ?_
  refine aw_ladd dX7_digest_347 ?_
  refine aw_lstore_n dX7_digest_348 rfl (by decide) rfl (fun y6 e => ?_)
  replace h := sb_e h e
  clear e
  show AW _ _ _ 349 [some (vR (some 0)), some (vL y6), none, none, none, none] _ _
  refine aw_ldc2 (n := 31) dX7_digest_349 cl_X7_295 ⟨by decide, by decide⟩ (by decide) ?_
  refine aw_lload_n dX7_digest_352 rfl rfl ?_
  refine aw_lmul dX7_digest_353 ?_
  refine aw_aload_n dX7_digest_354 rfl rfl ?_
  refine aw_iconst dX7_digest_355 ⟨by decide, by decide⟩ ?_
  obtain ⟨y7, s4, hg4, h⟩ := cb_e h
  refine aw_V1i (M2 := M_X7_shrinksOf) dX7_digest_356 lk_X7_261 mk_X7_shrinksOf mv_X7_shrinksOf ⟨by decide, by decide⟩ pM_0 ⟨_, _, rfl⟩ (Nat.le_of_ble_eq_true rfl) (c_X7_shrinksOf  hg4) ?_
  refine aw_i2l dX7_digest_359 ?_
  refine aw_ladd dX7_digest_360 ?_
  refine aw_lstore_n dX7_digest_361 rfl (by decide) rfl (fun y8 e => ?_)
  replace h := sb_e h e
  clear e
  show AW _ _ _ 362 [some (vR (some 0)), some (vL y8), none, none, none, none] _ _
  refine aw_ldc2 (n := 31) dX7_digest_362 cl_X7_295 ⟨by decide, by decide⟩ (by decide) ?_
  refine aw_lload_n dX7_digest_365 rfl rfl ?_
  refine aw_lmul dX7_digest_366 ?_
  refine aw_aload_n dX7_digest_367 rfl rfl ?_
  obtain ⟨y9, s5, hg5, h⟩ := cb_e h
  refine aw_V0i (M2 := M_X7_spareOf) dX7_digest_368 lk_X7_273 mk_X7_spareOf mv_X7_spareOf ⟨by decide, by decide⟩ pM_0 ⟨_, _, rfl⟩ (Nat.le_of_ble_eq_true rfl) (c_X7_spareOf  hg5) ?_
  refine aw_i2l dX7_digest_371 ?_
  refine aw_ladd dX7_digest_372 ?_
  obtain rfl := Option.some.inj h
  exact aw_lret dX7_digest_373 rfl
def g_X7_digest_285 (k285 : Int → Int → SS → Option (Int × SS)) (x1 : Int) (x4 : Int) (s0 : SS) : Option (Int × SS) :=
  if 3 ≤ x4 then (
    g_X7_digest_311  x1 s0
  ) else (
    cb (f_X7_hasteOf x4 s0) fun y1 s1 =>
    sb (wl ((wl (31 * x1)) + y1)) fun y2 =>
    sb (wr (x4 + 1)) fun y3 =>
    k285 y2 y3 s1
  )
set_option maxHeartbeats 4000000 in
theorem t_X7_digest_285 (k285 : Int → Int → SS → Option (Int × SS)) (hk285 : ∀ (x1 : Int) (x4 : Int) (s0 : SS) (r : (Int × SS)), k285 x1 x4 s0 = some r → AW LM M_X7_digest (some (vL r.1), r.2) 285 [some (vR (some 0)), some (vL x1), none, none, some (vI x4), none] [] s0) : ∀ (x1 : Int) (x4 : Int) (s0 : SS) (r : (Int × SS)), g_X7_digest_285 k285 x1 x4 s0 = some r → AW LM M_X7_digest (some (vL r.1), r.2) 285 [some (vR (some 0)), some (vL x1), none, none, some (vI x4), none] [] s0 := by
  intro x1 x4 s0 r h
  unfold g_X7_digest_285 at h
  refine aw_iload dX7_digest_285 rfl ?_
  refine aw_iconst dX7_digest_287 ⟨by decide, by decide⟩ ?_
  refine aw_icmp_ge (tgt := 311) dX7_digest_288 (by decide) (fun hc => ?_) (fun hc => ?_)
  · replace h := ip hc h
    exact aw_less (ls' := [some (vR (some 0)), some (vL x1), none, none, none, none]) (⟨rfl, ⟨rfl, trivial⟩⟩) (t_X7_digest_311   x1 s0 _ h)
  · replace h := ic hc h
    refine aw_ldc2 (n := 31) dX7_digest_291 cl_X7_295 ⟨by decide, by decide⟩ (by decide) ?_
    refine aw_lload_n dX7_digest_294 rfl rfl ?_
    refine aw_lmul dX7_digest_295 ?_
    refine aw_aload_n dX7_digest_296 rfl rfl ?_
    refine aw_iload dX7_digest_297 rfl ?_
    obtain ⟨y1, s1, hg1, h⟩ := cb_e h
    refine aw_V1i (M2 := M_X7_hasteOf) dX7_digest_299 lk_X7_249 mk_X7_hasteOf mv_X7_hasteOf ⟨by decide, by decide⟩ pM_0 ⟨_, _, rfl⟩ (Nat.le_of_ble_eq_true rfl) (c_X7_hasteOf  hg1) ?_
    refine aw_i2l dX7_digest_302 ?_
    refine aw_ladd dX7_digest_303 ?_
    refine aw_lstore_n dX7_digest_304 rfl (by decide) rfl (fun y2 e => ?_)
    replace h := sb_e h e
    clear e
    show AW _ _ _ 305 [some (vR (some 0)), some (vL y2), none, none, some (vI x4), none] _ _
    refine aw_iinc dX7_digest_305 rfl (by decide) rfl (fun y3 e => ?_)
    replace h := sb_e h e
    clear e
    show AW _ _ _ 308 [some (vR (some 0)), some (vL y2), none, none, some (vI y3), none] _ _
    refine aw_goto (tgt := 285) dX7_digest_308 (by decide) ?_
    exact (hk285 y2 y3 s1 _ h)
def f_X7_digest_285 : Nat → Int → Int → SS → Option (Int × SS)
  | 0 => fun _ _ _ => none
  | n + 1 => g_X7_digest_285 (f_X7_digest_285  n)
theorem s_X7_digest_285  : ∀ (n : Nat), ∀ (x1 : Int) (x4 : Int) (s0 : SS) (r : (Int × SS)), f_X7_digest_285 n x1 x4 s0 = some r → AW LM M_X7_digest (some (vL r.1), r.2) 285 [some (vR (some 0)), some (vL x1), none, none, some (vI x4), none] [] s0 := by
  intro n
  induction n with
  | zero =>
    intro x1 x4 s0 r h
    cases h
  | succ n ih =>
    intro x1 x4 s0 r h
    exact t_X7_digest_285 (f_X7_digest_285  n) ih x1 x4 s0 r h
def g_X7_digest_282 (x1 : Int) (s0 : SS) : Option (Int × SS) :=
  f_X7_digest_285  FU x1 0 s0
set_option maxHeartbeats 4000000 in
theorem t_X7_digest_282  : ∀ (x1 : Int) (s0 : SS) (r : (Int × SS)), g_X7_digest_282 x1 s0 = some r → AW LM M_X7_digest (some (vL r.1), r.2) 282 [some (vR (some 0)), some (vL x1), none, none, none, none] [] s0 := by
  intro x1 s0 r h
  unfold g_X7_digest_282 at h
  refine aw_iconst dX7_digest_282 ⟨by decide, by decide⟩ ?_
  refine aw_istoreA dX7_digest_283 (by decide) rfl ?_
  show AW _ _ _ 285 [some (vR (some 0)), some (vL x1), none, none, some (vI 0), none] _ _
  exact (s_X7_digest_285   FU x1 0 s0 _ h)
def g_X7_digest_276 (k238 : Int → Int → SS → Option (Int × SS)) (x1 : Int) (x4 : Int) (s0 : SS) : Option (Int × SS) :=
  sb (wr (x4 + 1)) fun y1 =>
  k238 x1 y1 s0
set_option maxHeartbeats 4000000 in
theorem t_X7_digest_276 (k238 : Int → Int → SS → Option (Int × SS)) (hk238 : ∀ (x1 : Int) (x4 : Int) (s0 : SS) (r : (Int × SS)), k238 x1 x4 s0 = some r → AW LM M_X7_digest (some (vL r.1), r.2) 238 [some (vR (some 0)), some (vL x1), none, none, some (vI x4), none] [] s0) : ∀ (x1 : Int) (x4 : Int) (s0 : SS) (r : (Int × SS)), g_X7_digest_276 k238 x1 x4 s0 = some r → AW LM M_X7_digest (some (vL r.1), r.2) 276 [some (vR (some 0)), some (vL x1), none, none, some (vI x4), none] [] s0 := by
  intro x1 x4 s0 r h
  unfold g_X7_digest_276 at h
  refine aw_iinc dX7_digest_276 rfl (by decide) rfl (fun y1 e => ?_)
  replace h := sb_e h e
  clear e
  show AW _ _ _ 279 [some (vR (some 0)), some (vL x1), none, none, some (vI y1), none] _ _
  refine aw_goto (tgt := 238) dX7_digest_279 (by decide) ?_
  exact (hk238 x1 y1 s0 _ h)
def g_X7_digest_248 (k238 : Int → Int → SS → Option (Int × SS)) (k248 : Int → Int → Int → SS → Option (Int × SS)) (x1 : Int) (x4 : Int) (x5 : Int) (s0 : SS) : Option (Int × SS) :=
  if 3 ≤ x5 then (
    g_X7_digest_276 k238 x1 x4 s0
  ) else (
    cb (f_X7_wayFor x4 x5 s0) fun y1 s1 =>
    sb (wl ((wl (31 * x1)) + y1)) fun y2 =>
    sb (wr (x5 + 1)) fun y3 =>
    k248 y2 x4 y3 s1
  )
set_option maxHeartbeats 4000000 in
theorem t_X7_digest_248 (k238 : Int → Int → SS → Option (Int × SS)) (k248 : Int → Int → Int → SS → Option (Int × SS)) (hk238 : ∀ (x1 : Int) (x4 : Int) (s0 : SS) (r : (Int × SS)), k238 x1 x4 s0 = some r → AW LM M_X7_digest (some (vL r.1), r.2) 238 [some (vR (some 0)), some (vL x1), none, none, some (vI x4), none] [] s0) (hk248 : ∀ (x1 : Int) (x4 : Int) (x5 : Int) (s0 : SS) (r : (Int × SS)), k248 x1 x4 x5 s0 = some r → AW LM M_X7_digest (some (vL r.1), r.2) 248 [some (vR (some 0)), some (vL x1), none, none, some (vI x4), some (vI x5)] [] s0) : ∀ (x1 : Int) (x4 : Int) (x5 : Int) (s0 : SS) (r : (Int × SS)), g_X7_digest_248 k238 k248 x1 x4 x5 s0 = some r → AW LM M_X7_digest (some (vL r.1), r.2) 248 [some (vR (some 0)), some (vL x1), none, none, some (vI x4), some (vI x5)] [] s0 := by
  intro x1 x4 x5 s0 r h
  unfold g_X7_digest_248 at h
  refine aw_iload dX7_digest_248 rfl ?_
  refine aw_iconst dX7_digest_250 ⟨by decide, by decide⟩ ?_
  refine aw_icmp_ge (tgt := 276) dX7_digest_251 (by decide) (fun hc => ?_) (fun hc => ?_)
  · replace h := ip hc h
    exact aw_less (ls' := [some (vR (some 0)), some (vL x1), none, none, some (vI x4), none]) (⟨rfl, ⟨rfl, ⟨rfl, trivial⟩⟩⟩) (t_X7_digest_276 k238 hk238 x1 x4 s0 _ h)
  · replace h := ic hc h
    refine aw_ldc2 (n := 31) dX7_digest_254 cl_X7_295 ⟨by decide, by decide⟩ (by decide) ?_
    refine aw_lload_n dX7_digest_257 rfl rfl ?_
    refine aw_lmul dX7_digest_258 ?_
    refine aw_aload_n dX7_digest_259 rfl rfl ?_
    refine aw_iload dX7_digest_260 rfl ?_
    refine aw_iload dX7_digest_262 rfl ?_
    obtain ⟨y1, s1, hg1, h⟩ := cb_e h
    refine aw_V2i (M2 := M_X7_wayFor) dX7_digest_264 lk_X7_218 mk_X7_wayFor mv_X7_wayFor ⟨by decide, by decide⟩ pM_0 ⟨_, _, rfl⟩ (Nat.le_of_ble_eq_true rfl) (c_X7_wayFor  hg1) ?_
    refine aw_i2l dX7_digest_267 ?_
    refine aw_ladd dX7_digest_268 ?_
    refine aw_lstore_n dX7_digest_269 rfl (by decide) rfl (fun y2 e => ?_)
    replace h := sb_e h e
    clear e
    show AW _ _ _ 270 [some (vR (some 0)), some (vL y2), none, none, some (vI x4), some (vI x5)] _ _
    refine aw_iinc dX7_digest_270 rfl (by decide) rfl (fun y3 e => ?_)
    replace h := sb_e h e
    clear e
    show AW _ _ _ 273 [some (vR (some 0)), some (vL y2), none, none, some (vI x4), some (vI y3)] _ _
    refine aw_goto (tgt := 248) dX7_digest_273 (by decide) ?_
    exact (hk248 y2 x4 y3 s1 _ h)
def f_X7_digest_248 (k238 : Int → Int → SS → Option (Int × SS)) : Nat → Int → Int → Int → SS → Option (Int × SS)
  | 0 => fun _ _ _ _ => none
  | n + 1 => g_X7_digest_248 k238 (f_X7_digest_248 k238 n)
theorem s_X7_digest_248 (k238 : Int → Int → SS → Option (Int × SS)) (hk238 : ∀ (x1 : Int) (x4 : Int) (s0 : SS) (r : (Int × SS)), k238 x1 x4 s0 = some r → AW LM M_X7_digest (some (vL r.1), r.2) 238 [some (vR (some 0)), some (vL x1), none, none, some (vI x4), none] [] s0) : ∀ (n : Nat), ∀ (x1 : Int) (x4 : Int) (x5 : Int) (s0 : SS) (r : (Int × SS)), f_X7_digest_248 k238 n x1 x4 x5 s0 = some r → AW LM M_X7_digest (some (vL r.1), r.2) 248 [some (vR (some 0)), some (vL x1), none, none, some (vI x4), some (vI x5)] [] s0 := by
  intro n
  induction n with
  | zero =>
    intro x1 x4 x5 s0 r h
    cases h
  | succ n ih =>
    intro x1 x4 x5 s0 r h
    exact t_X7_digest_248 k238 (f_X7_digest_248 k238 n) hk238 ih x1 x4 x5 s0 r h
def g_X7_digest_238 (k238 : Int → Int → SS → Option (Int × SS)) (x1 : Int) (x4 : Int) (s0 : SS) : Option (Int × SS) :=
  if 64 ≤ x4 then (
    g_X7_digest_282  x1 s0
  ) else (
    f_X7_digest_248 k238 FU x1 x4 0 s0
  )
set_option maxHeartbeats 4000000 in
theorem t_X7_digest_238 (k238 : Int → Int → SS → Option (Int × SS)) (hk238 : ∀ (x1 : Int) (x4 : Int) (s0 : SS) (r : (Int × SS)), k238 x1 x4 s0 = some r → AW LM M_X7_digest (some (vL r.1), r.2) 238 [some (vR (some 0)), some (vL x1), none, none, some (vI x4), none] [] s0) : ∀ (x1 : Int) (x4 : Int) (s0 : SS) (r : (Int × SS)), g_X7_digest_238 k238 x1 x4 s0 = some r → AW LM M_X7_digest (some (vL r.1), r.2) 238 [some (vR (some 0)), some (vL x1), none, none, some (vI x4), none] [] s0 := by
  intro x1 x4 s0 r h
  unfold g_X7_digest_238 at h
  refine aw_iload dX7_digest_238 rfl ?_
  refine aw_bipush dX7_digest_240 ⟨by decide, by decide⟩ (by decide) ?_
  refine aw_icmp_ge (tgt := 282) dX7_digest_242 (by decide) (fun hc => ?_) (fun hc => ?_)
  · replace h := ip hc h
    exact aw_less (ls' := [some (vR (some 0)), some (vL x1), none, none, none, none]) (⟨rfl, ⟨rfl, trivial⟩⟩) (t_X7_digest_282   x1 s0 _ h)
  · replace h := ic hc h
    refine aw_iconst dX7_digest_245 ⟨by decide, by decide⟩ ?_
    refine aw_istoreA dX7_digest_246 (by decide) rfl ?_
    show AW _ _ _ 248 [some (vR (some 0)), some (vL x1), none, none, some (vI x4), some (vI 0)] _ _
    exact (s_X7_digest_248 k238 hk238 FU x1 x4 0 s0 _ h)
def f_X7_digest_238 : Nat → Int → Int → SS → Option (Int × SS)
  | 0 => fun _ _ _ => none
  | n + 1 => g_X7_digest_238 (f_X7_digest_238  n)
theorem s_X7_digest_238  : ∀ (n : Nat), ∀ (x1 : Int) (x4 : Int) (s0 : SS) (r : (Int × SS)), f_X7_digest_238 n x1 x4 s0 = some r → AW LM M_X7_digest (some (vL r.1), r.2) 238 [some (vR (some 0)), some (vL x1), none, none, some (vI x4), none] [] s0 := by
  intro n
  induction n with
  | zero =>
    intro x1 x4 s0 r h
    cases h
  | succ n ih =>
    intro x1 x4 s0 r h
    exact t_X7_digest_238 (f_X7_digest_238  n) ih x1 x4 s0 r h
def g_X7_digest_235 (x1 : Int) (s0 : SS) : Option (Int × SS) :=
  f_X7_digest_238  FU x1 0 s0
set_option maxHeartbeats 4000000 in
theorem t_X7_digest_235  : ∀ (x1 : Int) (s0 : SS) (r : (Int × SS)), g_X7_digest_235 x1 s0 = some r → AW LM M_X7_digest (some (vL r.1), r.2) 235 [some (vR (some 0)), some (vL x1), none, none, none, none] [] s0 := by
  intro x1 s0 r h
  unfold g_X7_digest_235 at h
  refine aw_iconst dX7_digest_235 ⟨by decide, by decide⟩ ?_
  refine aw_istoreA dX7_digest_236 (by decide) rfl ?_
  show AW _ _ _ 238 [some (vR (some 0)), some (vL x1), none, none, some (vI 0), none] _ _
  exact (s_X7_digest_238   FU x1 0 s0 _ h)
def g_X7_digest_177 (k177 : Int → Int → SS → Option (Int × SS)) (x1 : Int) (x4 : Int) (s0 : SS) : Option (Int × SS) :=
  if 10 ≤ x4 then (
    g_X7_digest_235  x1 s0
  ) else (
    cb (f_X7_lineOf x4 (-1) s0) fun y1 s1 =>
    sb (wl ((wl (31 * x1)) + y1)) fun y2 =>
    cb (f_X7_lineOf x4 0 s1) fun y3 s2 =>
    sb (wl ((wl (31 * y2)) + y3)) fun y4 =>
    cb (f_X7_lineOf x4 5 s2) fun y5 s3 =>
    sb (wl ((wl (31 * y4)) + y5)) fun y6 =>
    sb (wr (x4 + 1)) fun y7 =>
    k177 y6 y7 s3
  )
set_option maxHeartbeats 4000000 in
theorem t_X7_digest_177 (k177 : Int → Int → SS → Option (Int × SS)) (hk177 : ∀ (x1 : Int) (x4 : Int) (s0 : SS) (r : (Int × SS)), k177 x1 x4 s0 = some r → AW LM M_X7_digest (some (vL r.1), r.2) 177 [some (vR (some 0)), some (vL x1), none, none, some (vI x4), none] [] s0) : ∀ (x1 : Int) (x4 : Int) (s0 : SS) (r : (Int × SS)), g_X7_digest_177 k177 x1 x4 s0 = some r → AW LM M_X7_digest (some (vL r.1), r.2) 177 [some (vR (some 0)), some (vL x1), none, none, some (vI x4), none] [] s0 := by
  intro x1 x4 s0 r h
  unfold g_X7_digest_177 at h
  refine aw_iload dX7_digest_177 rfl ?_
  refine aw_bipush dX7_digest_179 ⟨by decide, by decide⟩ (by decide) ?_
  refine aw_icmp_ge (tgt := 235) dX7_digest_181 (by decide) (fun hc => ?_) (fun hc => ?_)
  · replace h := ip hc h
    exact aw_less (ls' := [some (vR (some 0)), some (vL x1), none, none, none, none]) (⟨rfl, ⟨rfl, trivial⟩⟩) (t_X7_digest_235   x1 s0 _ h)
  · replace h := ic hc h
    refine aw_ldc2 (n := 31) dX7_digest_184 cl_X7_295 ⟨by decide, by decide⟩ (by decide) ?_
    refine aw_lload_n dX7_digest_187 rfl rfl ?_
    refine aw_lmul dX7_digest_188 ?_
    refine aw_aload_n dX7_digest_189 rfl rfl ?_
    refine aw_iload dX7_digest_190 rfl ?_
    refine aw_iconst dX7_digest_192 ⟨by decide, by decide⟩ ?_
    obtain ⟨y1, s1, hg1, h⟩ := cb_e h
    refine aw_V2i (M2 := M_X7_lineOf) dX7_digest_193 lk_X7_237 mk_X7_lineOf mv_X7_lineOf ⟨by decide, by decide⟩ pM_0 ⟨_, _, rfl⟩ (Nat.le_of_ble_eq_true rfl) (c_X7_lineOf  hg1) ?_
    refine aw_i2l dX7_digest_196 ?_
    refine aw_ladd dX7_digest_197 ?_
    refine aw_lstore_n dX7_digest_198 rfl (by decide) rfl (fun y2 e => ?_)
    replace h := sb_e h e
    clear e
    show AW _ _ _ 199 [some (vR (some 0)), some (vL y2), none, none, some (vI x4), none] _ _
    refine aw_ldc2 (n := 31) dX7_digest_199 cl_X7_295 ⟨by decide, by decide⟩ (by decide) ?_
    refine aw_lload_n dX7_digest_202 rfl rfl ?_
    refine aw_lmul dX7_digest_203 ?_
    refine aw_aload_n dX7_digest_204 rfl rfl ?_
    refine aw_iload dX7_digest_205 rfl ?_
    refine aw_iconst dX7_digest_207 ⟨by decide, by decide⟩ ?_
    obtain ⟨y3, s2, hg2, h⟩ := cb_e h
    refine aw_V2i (M2 := M_X7_lineOf) dX7_digest_208 lk_X7_237 mk_X7_lineOf mv_X7_lineOf ⟨by decide, by decide⟩ pM_0 ⟨_, _, rfl⟩ (Nat.le_of_ble_eq_true rfl) (c_X7_lineOf  hg2) ?_
    refine aw_i2l dX7_digest_211 ?_
    refine aw_ladd dX7_digest_212 ?_
    refine aw_lstore_n dX7_digest_213 rfl (by decide) rfl (fun y4 e => ?_)
    replace h := sb_e h e
    clear e
    show AW _ _ _ 214 [some (vR (some 0)), some (vL y4), none, none, some (vI x4), none] _ _
    refine aw_ldc2 (n := 31) dX7_digest_214 cl_X7_295 ⟨by decide, by decide⟩ (by decide) ?_
    refine aw_lload_n dX7_digest_217 rfl rfl ?_
    refine aw_lmul dX7_digest_218 ?_
    refine aw_aload_n dX7_digest_219 rfl rfl ?_
    refine aw_iload dX7_digest_220 rfl ?_
    refine aw_iconst dX7_digest_222 ⟨by decide, by decide⟩ ?_
    obtain ⟨y5, s3, hg3, h⟩ := cb_e h
    refine aw_V2i (M2 := M_X7_lineOf) dX7_digest_223 lk_X7_237 mk_X7_lineOf mv_X7_lineOf ⟨by decide, by decide⟩ pM_0 ⟨_, _, rfl⟩ (Nat.le_of_ble_eq_true rfl) (c_X7_lineOf  hg3) ?_
    refine aw_i2l dX7_digest_226 ?_
    refine aw_ladd dX7_digest_227 ?_
    refine aw_lstore_n dX7_digest_228 rfl (by decide) rfl (fun y6 e => ?_)
    replace h := sb_e h e
    clear e
    show AW _ _ _ 229 [some (vR (some 0)), some (vL y6), none, none, some (vI x4), none] _ _
    refine aw_iinc dX7_digest_229 rfl (by decide) rfl (fun y7 e => ?_)
    replace h := sb_e h e
    clear e
    show AW _ _ _ 232 [some (vR (some 0)), some (vL y6), none, none, some (vI y7), none] _ _
    refine aw_goto (tgt := 177) dX7_digest_232 (by decide) ?_
    exact (hk177 y6 y7 s3 _ h)
def f_X7_digest_177 : Nat → Int → Int → SS → Option (Int × SS)
  | 0 => fun _ _ _ => none
  | n + 1 => g_X7_digest_177 (f_X7_digest_177  n)
theorem s_X7_digest_177  : ∀ (n : Nat), ∀ (x1 : Int) (x4 : Int) (s0 : SS) (r : (Int × SS)), f_X7_digest_177 n x1 x4 s0 = some r → AW LM M_X7_digest (some (vL r.1), r.2) 177 [some (vR (some 0)), some (vL x1), none, none, some (vI x4), none] [] s0 := by
  intro n
  induction n with
  | zero =>
    intro x1 x4 s0 r h
    cases h
  | succ n ih =>
    intro x1 x4 s0 r h
    exact t_X7_digest_177 (f_X7_digest_177  n) ih x1 x4 s0 r h
def g_X7_digest_174 (x1 : Int) (s0 : SS) : Option (Int × SS) :=
  f_X7_digest_177  FU x1 0 s0
set_option maxHeartbeats 4000000 in
theorem t_X7_digest_174  : ∀ (x1 : Int) (s0 : SS) (r : (Int × SS)), g_X7_digest_174 x1 s0 = some r → AW LM M_X7_digest (some (vL r.1), r.2) 174 [some (vR (some 0)), some (vL x1), none, none, none, none] [] s0 := by
  intro x1 s0 r h
  unfold g_X7_digest_174 at h
  refine aw_iconst dX7_digest_174 ⟨by decide, by decide⟩ ?_
  refine aw_istoreA dX7_digest_175 (by decide) rfl ?_
  show AW _ _ _ 177 [some (vR (some 0)), some (vL x1), none, none, some (vI 0), none] _ _
  exact (s_X7_digest_177   FU x1 0 s0 _ h)
def g_X7_digest_148 (k148 : Int → Int → SS → Option (Int × SS)) (x1 : Int) (x4 : Int) (s0 : SS) : Option (Int × SS) :=
  if 5 ≤ x4 then (
    g_X7_digest_174  x1 s0
  ) else (
    cb (f_X7_bestOf x4 s0) fun y1 s1 =>
    sb (wl ((wl (31 * x1)) + y1)) fun y2 =>
    sb (wr (x4 + 1)) fun y3 =>
    k148 y2 y3 s1
  )
set_option maxHeartbeats 4000000 in
theorem t_X7_digest_148 (k148 : Int → Int → SS → Option (Int × SS)) (hk148 : ∀ (x1 : Int) (x4 : Int) (s0 : SS) (r : (Int × SS)), k148 x1 x4 s0 = some r → AW LM M_X7_digest (some (vL r.1), r.2) 148 [some (vR (some 0)), some (vL x1), none, none, some (vI x4), none] [] s0) : ∀ (x1 : Int) (x4 : Int) (s0 : SS) (r : (Int × SS)), g_X7_digest_148 k148 x1 x4 s0 = some r → AW LM M_X7_digest (some (vL r.1), r.2) 148 [some (vR (some 0)), some (vL x1), none, none, some (vI x4), none] [] s0 := by
  intro x1 x4 s0 r h
  unfold g_X7_digest_148 at h
  refine aw_iload dX7_digest_148 rfl ?_
  refine aw_iconst dX7_digest_150 ⟨by decide, by decide⟩ ?_
  refine aw_icmp_ge (tgt := 174) dX7_digest_151 (by decide) (fun hc => ?_) (fun hc => ?_)
  · replace h := ip hc h
    exact aw_less (ls' := [some (vR (some 0)), some (vL x1), none, none, none, none]) (⟨rfl, ⟨rfl, trivial⟩⟩) (t_X7_digest_174   x1 s0 _ h)
  · replace h := ic hc h
    refine aw_ldc2 (n := 31) dX7_digest_154 cl_X7_295 ⟨by decide, by decide⟩ (by decide) ?_
    refine aw_lload_n dX7_digest_157 rfl rfl ?_
    refine aw_lmul dX7_digest_158 ?_
    refine aw_aload_n dX7_digest_159 rfl rfl ?_
    refine aw_iload dX7_digest_160 rfl ?_
    obtain ⟨y1, s1, hg1, h⟩ := cb_e h
    refine aw_V1i (M2 := M_X7_bestOf) dX7_digest_162 lk_X7_206 mk_X7_bestOf mv_X7_bestOf ⟨by decide, by decide⟩ pM_0 ⟨_, _, rfl⟩ (Nat.le_of_ble_eq_true rfl) (c_X7_bestOf  hg1) ?_
    refine aw_i2l dX7_digest_165 ?_
    refine aw_ladd dX7_digest_166 ?_
    refine aw_lstore_n dX7_digest_167 rfl (by decide) rfl (fun y2 e => ?_)
    replace h := sb_e h e
    clear e
    show AW _ _ _ 168 [some (vR (some 0)), some (vL y2), none, none, some (vI x4), none] _ _
    refine aw_iinc dX7_digest_168 rfl (by decide) rfl (fun y3 e => ?_)
    replace h := sb_e h e
    clear e
    show AW _ _ _ 171 [some (vR (some 0)), some (vL y2), none, none, some (vI y3), none] _ _
    refine aw_goto (tgt := 148) dX7_digest_171 (by decide) ?_
    exact (hk148 y2 y3 s1 _ h)
def f_X7_digest_148 : Nat → Int → Int → SS → Option (Int × SS)
  | 0 => fun _ _ _ => none
  | n + 1 => g_X7_digest_148 (f_X7_digest_148  n)
theorem s_X7_digest_148  : ∀ (n : Nat), ∀ (x1 : Int) (x4 : Int) (s0 : SS) (r : (Int × SS)), f_X7_digest_148 n x1 x4 s0 = some r → AW LM M_X7_digest (some (vL r.1), r.2) 148 [some (vR (some 0)), some (vL x1), none, none, some (vI x4), none] [] s0 := by
  intro n
  induction n with
  | zero =>
    intro x1 x4 s0 r h
    cases h
  | succ n ih =>
    intro x1 x4 s0 r h
    exact t_X7_digest_148 (f_X7_digest_148  n) ih x1 x4 s0 r h
def g_X7_digest_119 (x1 : Int) (s0 : SS) : Option (Int × SS) :=
  cb (f_X7_triedOf 0 s0) fun y1 s1 =>
  sb (wl ((wl (31 * x1)) + y1)) fun y2 =>
  cb (f_X7_triedOf 1 s1) fun y3 s2 =>
  sb (wl ((wl (31 * y2)) + y3)) fun y4 =>
  f_X7_digest_148  FU y4 0 s2
set_option maxHeartbeats 4000000 in
theorem t_X7_digest_119  : ∀ (x1 : Int) (s0 : SS) (r : (Int × SS)), g_X7_digest_119 x1 s0 = some r → AW LM M_X7_digest (some (vL r.1), r.2) 119 [some (vR (some 0)), some (vL x1), none, none, none, none] [] s0 := by
  intro x1 s0 r h
  unfold g_X7_digest_119 at h
  refine aw_ldc2 (n := 31) dX7_digest_119 cl_X7_295 ⟨by decide, by decide⟩ (by decide) ?_
  refine aw_lload_n dX7_digest_122 rfl rfl ?_
  refine aw_lmul dX7_digest_123 ?_
  refine aw_aload_n dX7_digest_124 rfl rfl ?_
  refine aw_iconst dX7_digest_125 ⟨by decide, by decide⟩ ?_
  obtain ⟨y1, s1, hg1, h⟩ := cb_e h
  refine aw_V1i (M2 := M_X7_triedOf) dX7_digest_126 lk_X7_190 mk_X7_triedOf mv_X7_triedOf ⟨by decide, by decide⟩ pM_0 ⟨_, _, rfl⟩ (Nat.le_of_ble_eq_true rfl) (c_X7_triedOf  hg1) ?_
  refine aw_i2l dX7_digest_129 ?_
  refine aw_ladd dX7_digest_130 ?_
  refine aw_lstore_n dX7_digest_131 rfl (by decide) rfl (fun y2 e => ?_)
  replace h := sb_e h e
  clear e
  show AW _ _ _ 132 [some (vR (some 0)), some (vL y2), none, none, none, none] _ _
  refine aw_ldc2 (n := 31) dX7_digest_132 cl_X7_295 ⟨by decide, by decide⟩ (by decide) ?_
  refine aw_lload_n dX7_digest_135 rfl rfl ?_
  refine aw_lmul dX7_digest_136 ?_
  refine aw_aload_n dX7_digest_137 rfl rfl ?_
  refine aw_iconst dX7_digest_138 ⟨by decide, by decide⟩ ?_
  obtain ⟨y3, s2, hg2, h⟩ := cb_e h
  refine aw_V1i (M2 := M_X7_triedOf) dX7_digest_139 lk_X7_190 mk_X7_triedOf mv_X7_triedOf ⟨by decide, by decide⟩ pM_0 ⟨_, _, rfl⟩ (Nat.le_of_ble_eq_true rfl) (c_X7_triedOf  hg2) ?_
  refine aw_i2l dX7_digest_142 ?_
  refine aw_ladd dX7_digest_143 ?_
  refine aw_lstore_n dX7_digest_144 rfl (by decide) rfl (fun y4 e => ?_)
  replace h := sb_e h e
  clear e
  show AW _ _ _ 145 [some (vR (some 0)), some (vL y4), none, none, none, none] _ _
  refine aw_iconst dX7_digest_145 ⟨by decide, by decide⟩ ?_
  refine aw_istoreA dX7_digest_146 (by decide) rfl ?_
  show AW _ _ _ 148 [some (vR (some 0)), some (vL y4), none, none, some (vI 0), none] _ _
  exact (s_X7_digest_148   FU y4 0 s2 _ h)
def g_X7_digest_113 (k74 : Int → Int → SS → Option (Int × SS)) (x1 : Int) (x4 : Int) (s0 : SS) : Option (Int × SS) :=
  sb (wr (x4 + 1)) fun y1 =>
  k74 x1 y1 s0
set_option maxHeartbeats 4000000 in
theorem t_X7_digest_113 (k74 : Int → Int → SS → Option (Int × SS)) (hk74 : ∀ (x1 : Int) (x4 : Int) (s0 : SS) (r : (Int × SS)), k74 x1 x4 s0 = some r → AW LM M_X7_digest (some (vL r.1), r.2) 74 [some (vR (some 0)), some (vL x1), none, none, some (vI x4), none] [] s0) : ∀ (x1 : Int) (x4 : Int) (s0 : SS) (r : (Int × SS)), g_X7_digest_113 k74 x1 x4 s0 = some r → AW LM M_X7_digest (some (vL r.1), r.2) 113 [some (vR (some 0)), some (vL x1), none, none, some (vI x4), none] [] s0 := by
  intro x1 x4 s0 r h
  unfold g_X7_digest_113 at h
  refine aw_iinc dX7_digest_113 rfl (by decide) rfl (fun y1 e => ?_)
  replace h := sb_e h e
  clear e
  show AW _ _ _ 116 [some (vR (some 0)), some (vL x1), none, none, some (vI y1), none] _ _
  refine aw_goto (tgt := 74) dX7_digest_116 (by decide) ?_
  exact (hk74 x1 y1 s0 _ h)
def g_X7_digest_84 (k74 : Int → Int → SS → Option (Int × SS)) (k84 : Int → Int → Int → SS → Option (Int × SS)) (x1 : Int) (x4 : Int) (x5 : Int) (s0 : SS) : Option (Int × SS) :=
  if 4 ≤ x5 then (
    g_X7_digest_113 k74 x1 x4 s0
  ) else (
    cb (f_X7_frontier 0 x4 x5 s0) fun y1 s1 =>
    sb (wl ((wl (31 * x1)) + y1)) fun y2 =>
    sb (wr (x5 + 1)) fun y3 =>
    k84 y2 x4 y3 s1
  )
set_option maxHeartbeats 4000000 in
theorem t_X7_digest_84 (k74 : Int → Int → SS → Option (Int × SS)) (k84 : Int → Int → Int → SS → Option (Int × SS)) (hk74 : ∀ (x1 : Int) (x4 : Int) (s0 : SS) (r : (Int × SS)), k74 x1 x4 s0 = some r → AW LM M_X7_digest (some (vL r.1), r.2) 74 [some (vR (some 0)), some (vL x1), none, none, some (vI x4), none] [] s0) (hk84 : ∀ (x1 : Int) (x4 : Int) (x5 : Int) (s0 : SS) (r : (Int × SS)), k84 x1 x4 x5 s0 = some r → AW LM M_X7_digest (some (vL r.1), r.2) 84 [some (vR (some 0)), some (vL x1), none, none, some (vI x4), some (vI x5)] [] s0) : ∀ (x1 : Int) (x4 : Int) (x5 : Int) (s0 : SS) (r : (Int × SS)), g_X7_digest_84 k74 k84 x1 x4 x5 s0 = some r → AW LM M_X7_digest (some (vL r.1), r.2) 84 [some (vR (some 0)), some (vL x1), none, none, some (vI x4), some (vI x5)] [] s0 := by
  intro x1 x4 x5 s0 r h
  unfold g_X7_digest_84 at h
  refine aw_iload dX7_digest_84 rfl ?_
  refine aw_iconst dX7_digest_86 ⟨by decide, by decide⟩ ?_
  refine aw_icmp_ge (tgt := 113) dX7_digest_87 (by decide) (fun hc => ?_) (fun hc => ?_)
  · replace h := ip hc h
    exact aw_less (ls' := [some (vR (some 0)), some (vL x1), none, none, some (vI x4), none]) (⟨rfl, ⟨rfl, ⟨rfl, trivial⟩⟩⟩) (t_X7_digest_113 k74 hk74 x1 x4 s0 _ h)
  · replace h := ic hc h
    refine aw_ldc2 (n := 31) dX7_digest_90 cl_X7_295 ⟨by decide, by decide⟩ (by decide) ?_
    refine aw_lload_n dX7_digest_93 rfl rfl ?_
    refine aw_lmul dX7_digest_94 ?_
    refine aw_aload_n dX7_digest_95 rfl rfl ?_
    refine aw_iconst dX7_digest_96 ⟨by decide, by decide⟩ ?_
    refine aw_iload dX7_digest_97 rfl ?_
    refine aw_iload dX7_digest_99 rfl ?_
    obtain ⟨y1, s1, hg1, h⟩ := cb_e h
    refine aw_V3i (M2 := M_X7_frontier) dX7_digest_101 lk_X7_300 mk_X7_frontier mv_X7_frontier ⟨by decide, by decide⟩ pM_0 ⟨_, _, rfl⟩ (Nat.le_of_ble_eq_true rfl) (c_X7_frontier  hg1) ?_
    refine aw_i2l dX7_digest_104 ?_
    refine aw_ladd dX7_digest_105 ?_
    refine aw_lstore_n dX7_digest_106 rfl (by decide) rfl (fun y2 e => ?_)
    replace h := sb_e h e
    clear e
    show AW _ _ _ 107 [some (vR (some 0)), some (vL y2), none, none, some (vI x4), some (vI x5)] _ _
    refine aw_iinc dX7_digest_107 rfl (by decide) rfl (fun y3 e => ?_)
    replace h := sb_e h e
    clear e
    show AW _ _ _ 110 [some (vR (some 0)), some (vL y2), none, none, some (vI x4), some (vI y3)] _ _
    refine aw_goto (tgt := 84) dX7_digest_110 (by decide) ?_
    exact (hk84 y2 x4 y3 s1 _ h)
def f_X7_digest_84 (k74 : Int → Int → SS → Option (Int × SS)) : Nat → Int → Int → Int → SS → Option (Int × SS)
  | 0 => fun _ _ _ _ => none
  | n + 1 => g_X7_digest_84 k74 (f_X7_digest_84 k74 n)
theorem s_X7_digest_84 (k74 : Int → Int → SS → Option (Int × SS)) (hk74 : ∀ (x1 : Int) (x4 : Int) (s0 : SS) (r : (Int × SS)), k74 x1 x4 s0 = some r → AW LM M_X7_digest (some (vL r.1), r.2) 74 [some (vR (some 0)), some (vL x1), none, none, some (vI x4), none] [] s0) : ∀ (n : Nat), ∀ (x1 : Int) (x4 : Int) (x5 : Int) (s0 : SS) (r : (Int × SS)), f_X7_digest_84 k74 n x1 x4 x5 s0 = some r → AW LM M_X7_digest (some (vL r.1), r.2) 84 [some (vR (some 0)), some (vL x1), none, none, some (vI x4), some (vI x5)] [] s0 := by
  intro n
  induction n with
  | zero =>
    intro x1 x4 x5 s0 r h
    cases h
  | succ n ih =>
    intro x1 x4 x5 s0 r h
    exact t_X7_digest_84 k74 (f_X7_digest_84 k74 n) hk74 ih x1 x4 x5 s0 r h
def g_X7_digest_74 (k74 : Int → Int → SS → Option (Int × SS)) (x1 : Int) (x4 : Int) (s0 : SS) : Option (Int × SS) :=
  if 8 ≤ x4 then (
    g_X7_digest_119  x1 s0
  ) else (
    f_X7_digest_84 k74 FU x1 x4 0 s0
  )
set_option maxHeartbeats 4000000 in
theorem t_X7_digest_74 (k74 : Int → Int → SS → Option (Int × SS)) (hk74 : ∀ (x1 : Int) (x4 : Int) (s0 : SS) (r : (Int × SS)), k74 x1 x4 s0 = some r → AW LM M_X7_digest (some (vL r.1), r.2) 74 [some (vR (some 0)), some (vL x1), none, none, some (vI x4), none] [] s0) : ∀ (x1 : Int) (x4 : Int) (s0 : SS) (r : (Int × SS)), g_X7_digest_74 k74 x1 x4 s0 = some r → AW LM M_X7_digest (some (vL r.1), r.2) 74 [some (vR (some 0)), some (vL x1), none, none, some (vI x4), none] [] s0 := by
  intro x1 x4 s0 r h
  unfold g_X7_digest_74 at h
  refine aw_iload dX7_digest_74 rfl ?_
  refine aw_bipush dX7_digest_76 ⟨by decide, by decide⟩ (by decide) ?_
  refine aw_icmp_ge (tgt := 119) dX7_digest_78 (by decide) (fun hc => ?_) (fun hc => ?_)
  · replace h := ip hc h
    exact aw_less (ls' := [some (vR (some 0)), some (vL x1), none, none, none, none]) (⟨rfl, ⟨rfl, trivial⟩⟩) (t_X7_digest_119   x1 s0 _ h)
  · replace h := ic hc h
    refine aw_iconst dX7_digest_81 ⟨by decide, by decide⟩ ?_
    refine aw_istoreA dX7_digest_82 (by decide) rfl ?_
    show AW _ _ _ 84 [some (vR (some 0)), some (vL x1), none, none, some (vI x4), some (vI 0)] _ _
    exact (s_X7_digest_84 k74 hk74 FU x1 x4 0 s0 _ h)
def f_X7_digest_74 : Nat → Int → Int → SS → Option (Int × SS)
  | 0 => fun _ _ _ => none
  | n + 1 => g_X7_digest_74 (f_X7_digest_74  n)
theorem s_X7_digest_74  : ∀ (n : Nat), ∀ (x1 : Int) (x4 : Int) (s0 : SS) (r : (Int × SS)), f_X7_digest_74 n x1 x4 s0 = some r → AW LM M_X7_digest (some (vL r.1), r.2) 74 [some (vR (some 0)), some (vL x1), none, none, some (vI x4), none] [] s0 := by
  intro n
  induction n with
  | zero =>
    intro x1 x4 s0 r h
    cases h
  | succ n ih =>
    intro x1 x4 s0 r h
    exact t_X7_digest_74 (f_X7_digest_74  n) ih x1 x4 s0 r h
def g_X7_digest_71 (x1 : Int) (s0 : SS) : Option (Int × SS) :=
  f_X7_digest_74  FU x1 0 s0
set_option maxHeartbeats 4000000 in
theorem t_X7_digest_71  : ∀ (x1 : Int) (s0 : SS) (r : (Int × SS)), g_X7_digest_71 x1 s0 = some r → AW LM M_X7_digest (some (vL r.1), r.2) 71 [some (vR (some 0)), some (vL x1), none, none, none, none] [] s0 := by
  intro x1 s0 r h
  unfold g_X7_digest_71 at h
  refine aw_iconst dX7_digest_71 ⟨by decide, by decide⟩ ?_
  refine aw_istoreA dX7_digest_72 (by decide) rfl ?_
  show AW _ _ _ 74 [some (vR (some 0)), some (vL x1), none, none, some (vI 0), none] _ _
  exact (s_X7_digest_74   FU x1 0 s0 _ h)
def g_X7_digest_51 (k51 : Int → Int → Int → SS → Option (Int × SS)) (x1 : Int) (x3 : Int) (x4 : Int) (s0 : SS) : Option (Int × SS) :=
  if x3 ≤ x4 then (
    g_X7_digest_71  x1 s0
  ) else (
    cb (f_X7_partDigest x1 x4 s0) fun y1 s1 =>
    sb (wr (x4 + 1)) fun y2 =>
    k51 y1 x3 y2 s1
  )
set_option maxHeartbeats 4000000 in
theorem t_X7_digest_51 (k51 : Int → Int → Int → SS → Option (Int × SS)) (hk51 : ∀ (x1 : Int) (x3 : Int) (x4 : Int) (s0 : SS) (r : (Int × SS)), k51 x1 x3 x4 s0 = some r → AW LM M_X7_digest (some (vL r.1), r.2) 51 [some (vR (some 0)), some (vL x1), none, some (vI x3), some (vI x4), none] [] s0) : ∀ (x1 : Int) (x3 : Int) (x4 : Int) (s0 : SS) (r : (Int × SS)), g_X7_digest_51 k51 x1 x3 x4 s0 = some r → AW LM M_X7_digest (some (vL r.1), r.2) 51 [some (vR (some 0)), some (vL x1), none, some (vI x3), some (vI x4), none] [] s0 := by
  intro x1 x3 x4 s0 r h
  unfold g_X7_digest_51 at h
  refine aw_iload dX7_digest_51 rfl ?_
  refine aw_iload_n dX7_digest_53 rfl rfl ?_
  refine aw_icmp_ge (tgt := 71) dX7_digest_54 (by decide) (fun hc => ?_) (fun hc => ?_)
  · replace h := ip hc h
    exact aw_less (ls' := [some (vR (some 0)), some (vL x1), none, none, none, none]) (⟨rfl, ⟨rfl, trivial⟩⟩) (t_X7_digest_71   x1 s0 _ h)
  · replace h := ic hc h
    refine aw_aload_n dX7_digest_57 rfl rfl ?_
    refine aw_lload_n dX7_digest_58 rfl rfl ?_
    refine aw_iload dX7_digest_59 rfl ?_
    obtain ⟨y1, s1, hg1, h⟩ := cb_e h
    refine aw_V2l (M2 := M_X7_partDigest) dX7_digest_61 lk_X7_308 mk_X7_partDigest mv_X7_partDigest ⟨by decide, by decide⟩ pM_0 ⟨_, _, rfl⟩ (Nat.le_of_ble_eq_true rfl) (c_X7_partDigest  hg1) ?_
    refine aw_lstore_nA dX7_digest_64 rfl (by decide) rfl ?_
    show AW _ _ _ 65 [some (vR (some 0)), some (vL y1), none, some (vI x3), some (vI x4), none] _ _
    refine aw_iinc dX7_digest_65 rfl (by decide) rfl (fun y2 e => ?_)
    replace h := sb_e h e
    clear e
    show AW _ _ _ 68 [some (vR (some 0)), some (vL y1), none, some (vI x3), some (vI y2), none] _ _
    refine aw_goto (tgt := 51) dX7_digest_68 (by decide) ?_
    exact (hk51 y1 x3 y2 s1 _ h)
def f_X7_digest_51 : Nat → Int → Int → Int → SS → Option (Int × SS)
  | 0 => fun _ _ _ _ => none
  | n + 1 => g_X7_digest_51 (f_X7_digest_51  n)
theorem s_X7_digest_51  : ∀ (n : Nat), ∀ (x1 : Int) (x3 : Int) (x4 : Int) (s0 : SS) (r : (Int × SS)), f_X7_digest_51 n x1 x3 x4 s0 = some r → AW LM M_X7_digest (some (vL r.1), r.2) 51 [some (vR (some 0)), some (vL x1), none, some (vI x3), some (vI x4), none] [] s0 := by
  intro n
  induction n with
  | zero =>
    intro x1 x3 x4 s0 r h
    cases h
  | succ n ih =>
    intro x1 x3 x4 s0 r h
    exact t_X7_digest_51 (f_X7_digest_51  n) ih x1 x3 x4 s0 r h
def g_X7_digest_31 (x1 : Int) (s0 : SS) : Option (Int × SS) :=
  cb (f_X7_faultOf s0) fun y1 s1 =>
  sb (wl ((wl (31 * x1)) + y1)) fun y2 =>
  cb (f_X7_partsOf s1) fun y3 s2 =>
  f_X7_digest_51  FU y2 y3 0 s2
set_option maxHeartbeats 4000000 in
theorem t_X7_digest_31  : ∀ (x1 : Int) (s0 : SS) (r : (Int × SS)), g_X7_digest_31 x1 s0 = some r → AW LM M_X7_digest (some (vL r.1), r.2) 31 [some (vR (some 0)), some (vL x1), none, none, none, none] [] s0 := by
  intro x1 s0 r h
  unfold g_X7_digest_31 at h
  refine aw_ldc2 (n := 31) dX7_digest_31 cl_X7_295 ⟨by decide, by decide⟩ (by decide) ?_
  refine aw_lload_n dX7_digest_34 rfl rfl ?_
  refine aw_lmul dX7_digest_35 ?_
  refine aw_aload_n dX7_digest_36 rfl rfl ?_
  obtain ⟨y1, s1, hg1, h⟩ := cb_e h
  refine aw_V0i (M2 := M_X7_faultOf) dX7_digest_37 lk_X7_115 mk_X7_faultOf mv_X7_faultOf ⟨by decide, by decide⟩ pM_0 ⟨_, _, rfl⟩ (Nat.le_of_ble_eq_true rfl) (c_X7_faultOf  hg1) ?_
  refine aw_i2l dX7_digest_40 ?_
  refine aw_ladd dX7_digest_41 ?_
  refine aw_lstore_n dX7_digest_42 rfl (by decide) rfl (fun y2 e => ?_)
  replace h := sb_e h e
  clear e
  show AW _ _ _ 43 [some (vR (some 0)), some (vL y2), none, none, none, none] _ _
  refine aw_aload_n dX7_digest_43 rfl rfl ?_
  obtain ⟨y3, s2, hg2, h⟩ := cb_e h
  refine aw_V0i (M2 := M_X7_partsOf) dX7_digest_44 lk_X7_286 mk_X7_partsOf mv_X7_partsOf ⟨by decide, by decide⟩ pM_0 ⟨_, _, rfl⟩ (Nat.le_of_ble_eq_true rfl) (c_X7_partsOf  hg2) ?_
  refine aw_istore_nA dX7_digest_47 rfl (by decide) rfl ?_
  show AW _ _ _ 48 [some (vR (some 0)), some (vL y2), none, some (vI y3), none, none] _ _
  refine aw_iconst dX7_digest_48 ⟨by decide, by decide⟩ ?_
  refine aw_istoreA dX7_digest_49 (by decide) rfl ?_
  show AW _ _ _ 51 [some (vR (some 0)), some (vL y2), none, some (vI y3), some (vI 0), none] _ _
  exact (s_X7_digest_51   FU y2 y3 0 s2 _ h)
def g_X7_digest_6 (k6 : Int → Int → SS → Option (Int × SS)) (x1 : Int) (x3 : Int) (s0 : SS) : Option (Int × SS) :=
  if 8 ≤ x3 then (
    g_X7_digest_31  x1 s0
  ) else (
    cb (f_X7_count x3 s0) fun y1 s1 =>
    sb (wl ((wl (31 * x1)) + y1)) fun y2 =>
    sb (wr (x3 + 1)) fun y3 =>
    k6 y2 y3 s1
  )
set_option maxHeartbeats 4000000 in
theorem t_X7_digest_6 (k6 : Int → Int → SS → Option (Int × SS)) (hk6 : ∀ (x1 : Int) (x3 : Int) (s0 : SS) (r : (Int × SS)), k6 x1 x3 s0 = some r → AW LM M_X7_digest (some (vL r.1), r.2) 6 [some (vR (some 0)), some (vL x1), none, some (vI x3), none, none] [] s0) : ∀ (x1 : Int) (x3 : Int) (s0 : SS) (r : (Int × SS)), g_X7_digest_6 k6 x1 x3 s0 = some r → AW LM M_X7_digest (some (vL r.1), r.2) 6 [some (vR (some 0)), some (vL x1), none, some (vI x3), none, none] [] s0 := by
  intro x1 x3 s0 r h
  unfold g_X7_digest_6 at h
  refine aw_iload_n dX7_digest_6 rfl rfl ?_
  refine aw_bipush dX7_digest_7 ⟨by decide, by decide⟩ (by decide) ?_
  refine aw_icmp_ge (tgt := 31) dX7_digest_9 (by decide) (fun hc => ?_) (fun hc => ?_)
  · replace h := ip hc h
    exact aw_less (ls' := [some (vR (some 0)), some (vL x1), none, none, none, none]) (⟨rfl, ⟨rfl, trivial⟩⟩) (t_X7_digest_31   x1 s0 _ h)
  · replace h := ic hc h
    refine aw_ldc2 (n := 31) dX7_digest_12 cl_X7_295 ⟨by decide, by decide⟩ (by decide) ?_
    refine aw_lload_n dX7_digest_15 rfl rfl ?_
    refine aw_lmul dX7_digest_16 ?_
    refine aw_aload_n dX7_digest_17 rfl rfl ?_
    refine aw_iload_n dX7_digest_18 rfl rfl ?_
    obtain ⟨y1, s1, hg1, h⟩ := cb_e h
    refine aw_V1i (M2 := M_X7_count) dX7_digest_19 lk_X7_305 mk_X7_count mv_X7_count ⟨by decide, by decide⟩ pM_0 ⟨_, _, rfl⟩ (Nat.le_of_ble_eq_true rfl) (c_X7_count  hg1) ?_
    refine aw_i2l dX7_digest_22 ?_
    refine aw_ladd dX7_digest_23 ?_
    refine aw_lstore_n dX7_digest_24 rfl (by decide) rfl (fun y2 e => ?_)
    replace h := sb_e h e
    clear e
    show AW _ _ _ 25 [some (vR (some 0)), some (vL y2), none, some (vI x3), none, none] _ _
    refine aw_iinc dX7_digest_25 rfl (by decide) rfl (fun y3 e => ?_)
    replace h := sb_e h e
    clear e
    show AW _ _ _ 28 [some (vR (some 0)), some (vL y2), none, some (vI y3), none, none] _ _
    refine aw_goto (tgt := 6) dX7_digest_28 (by decide) ?_
    exact (hk6 y2 y3 s1 _ h)
def f_X7_digest_6 : Nat → Int → Int → SS → Option (Int × SS)
  | 0 => fun _ _ _ => none
  | n + 1 => g_X7_digest_6 (f_X7_digest_6  n)
theorem s_X7_digest_6  : ∀ (n : Nat), ∀ (x1 : Int) (x3 : Int) (s0 : SS) (r : (Int × SS)), f_X7_digest_6 n x1 x3 s0 = some r → AW LM M_X7_digest (some (vL r.1), r.2) 6 [some (vR (some 0)), some (vL x1), none, some (vI x3), none, none] [] s0 := by
  intro n
  induction n with
  | zero =>
    intro x1 x3 s0 r h
    cases h
  | succ n ih =>
    intro x1 x3 s0 r h
    exact t_X7_digest_6 (f_X7_digest_6  n) ih x1 x3 s0 r h
def f_X7_digest  (s0 : SS) : Option (Int × SS) :=
  f_X7_digest_6  FU 17 0 s0
set_option maxHeartbeats 4000000 in
theorem t_X7_digest_0  : ∀ (s0 : SS) (r : (Int × SS)), f_X7_digest s0 = some r → AW LM M_X7_digest (some (vL r.1), r.2) 0 [some (vR (some 0)), none, none, none, none, none] [] s0 := by
  intro s0 r h
  unfold f_X7_digest at h
  refine aw_ldc2 (n := 17) dX7_digest_0 cl_X7_303 ⟨by decide, by decide⟩ (by decide) ?_
  refine aw_lstore_nA dX7_digest_3 rfl (by decide) rfl ?_
  show AW _ _ _ 4 [some (vR (some 0)), some (vL 17), none, none, none, none] _ _
  refine aw_iconst dX7_digest_4 ⟨by decide, by decide⟩ ?_
  refine aw_istore_nA dX7_digest_5 rfl (by decide) rfl ?_
  show AW _ _ _ 6 [some (vR (some 0)), some (vL 17), none, some (vI 0), none, none] _ _
  exact (s_X7_digest_6   FU 17 0 s0 _ h)
theorem c_X7_digest {s0 : SS} {y : Int} {s1 : SS} (h : f_X7_digest s0 = some (y, s1)) : CT LM M_X7_digest [vR (some 0)] s0 (some (vL y), s1) :=
  ct_of (n := 5) (by decide) (Nat.le_of_ble_eq_true rfl) (t_X7_digest_0  s0  _ h)
