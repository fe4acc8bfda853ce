/-! ===== calls by their arity and answer; the functions' words ===== -/
section Calls3
variable {L : Lay} {M M2 : MI} {r : Option AV × SS} {pc idx : Nat} {ls : List (Option AV)} {st : List AV} {σ σ1 : SS}
theorem aw_V0i {q ci : Nat} {x : Int} (hd : decode M.2.1 pc = .ok (.invokevirtual idx, 3)) (hl : Cond.methodLink M.1.cls idx M2.1 ∈ gtb) (hm : MK M2 0) (hv : MV M2) (hR : RF M2 M) (hq : PL L q ci) (hci : ∃ (T : u_T) (N : Nat), vwCl[ci]? = some (M2.1.cls, T, N)) (hst : stw st ≤ 8) (hc : CT L M2 (vR (some q) :: []) σ (some (vI x), σ1)) (k : AW L M r (pc + 3) ls (vI x :: st) σ1) : AW L M r pc ls (vR (some q) :: st) σ :=
  aw_callV (as := []) hd hl hm hv hR hq hci rfl hst hc k
theorem aw_S0i {x : Int} (hd : decode M.2.1 pc = .ok (.invokestatic idx, 3)) (hl : Cond.methodLink M.1.cls idx M2.1 ∈ gtb) (hm : MK M2 0) (hv : Cond.static M2.1 ∈ gtb) (hR : RF M2 M) (hst : stw st ≤ 8) (hc : CT L M2 [] σ (some (vI x), σ1)) (k : AW L M r (pc + 3) ls (vI x :: st) σ1) : AW L M r pc ls (st) σ :=
  aw_callS (as := []) hd hl hm hv hR rfl hst hc k
theorem aw_V0l {q ci : Nat} {x : Int} (hd : decode M.2.1 pc = .ok (.invokevirtual idx, 3)) (hl : Cond.methodLink M.1.cls idx M2.1 ∈ gtb) (hm : MK M2 0) (hv : MV M2) (hR : RF M2 M) (hq : PL L q ci) (hci : ∃ (T : u_T) (N : Nat), vwCl[ci]? = some (M2.1.cls, T, N)) (hst : stw st ≤ 8) (hc : CT L M2 (vR (some q) :: []) σ (some (vL x), σ1)) (k : AW L M r (pc + 3) ls (vL x :: st) σ1) : AW L M r pc ls (vR (some q) :: st) σ :=
  aw_callV (as := []) hd hl hm hv hR hq hci rfl hst hc k
theorem aw_S0l {x : Int} (hd : decode M.2.1 pc = .ok (.invokestatic idx, 3)) (hl : Cond.methodLink M.1.cls idx M2.1 ∈ gtb) (hm : MK M2 0) (hv : Cond.static M2.1 ∈ gtb) (hR : RF M2 M) (hst : stw st ≤ 8) (hc : CT L M2 [] σ (some (vL x), σ1)) (k : AW L M r (pc + 3) ls (vL x :: st) σ1) : AW L M r pc ls (st) σ :=
  aw_callS (as := []) hd hl hm hv hR rfl hst hc k
theorem aw_V0r {q ci : Nat} {x : Option Nat} (hd : decode M.2.1 pc = .ok (.invokevirtual idx, 3)) (hl : Cond.methodLink M.1.cls idx M2.1 ∈ gtb) (hm : MK M2 0) (hv : MV M2) (hR : RF M2 M) (hq : PL L q ci) (hci : ∃ (T : u_T) (N : Nat), vwCl[ci]? = some (M2.1.cls, T, N)) (hst : stw st ≤ 8) (hc : CT L M2 (vR (some q) :: []) σ (some (vR x), σ1)) (k : AW L M r (pc + 3) ls (vR x :: st) σ1) : AW L M r pc ls (vR (some q) :: st) σ :=
  aw_callV (as := []) hd hl hm hv hR hq hci rfl hst hc k
theorem aw_S0r {x : Option Nat} (hd : decode M.2.1 pc = .ok (.invokestatic idx, 3)) (hl : Cond.methodLink M.1.cls idx M2.1 ∈ gtb) (hm : MK M2 0) (hv : Cond.static M2.1 ∈ gtb) (hR : RF M2 M) (hst : stw st ≤ 8) (hc : CT L M2 [] σ (some (vR x), σ1)) (k : AW L M r (pc + 3) ls (vR x :: st) σ1) : AW L M r pc ls (st) σ :=
  aw_callS (as := []) hd hl hm hv hR rfl hst hc k
theorem aw_V0v {q ci : Nat} (hd : decode M.2.1 pc = .ok (.invokevirtual idx, 3)) (hl : Cond.methodLink M.1.cls idx M2.1 ∈ gtb) (hm : MK M2 0) (hv : MV M2) (hR : RF M2 M) (hq : PL L q ci) (hci : ∃ (T : u_T) (N : Nat), vwCl[ci]? = some (M2.1.cls, T, N)) (hst : stw st ≤ 8) (hc : CT L M2 (vR (some q) :: []) σ (none, σ1)) (k : AW L M r (pc + 3) ls (st) σ1) : AW L M r pc ls (vR (some q) :: st) σ :=
  aw_callV (as := []) hd hl hm hv hR hq hci rfl hst hc k
theorem aw_S0v (hd : decode M.2.1 pc = .ok (.invokestatic idx, 3)) (hl : Cond.methodLink M.1.cls idx M2.1 ∈ gtb) (hm : MK M2 0) (hv : Cond.static M2.1 ∈ gtb) (hR : RF M2 M) (hst : stw st ≤ 8) (hc : CT L M2 [] σ (none, σ1)) (k : AW L M r (pc + 3) ls (st) σ1) : AW L M r pc ls (st) σ :=
  aw_callS (as := []) hd hl hm hv hR rfl hst hc k
theorem aw_V1i {q ci : Nat} {a1 : AV} {x : Int} (hd : decode M.2.1 pc = .ok (.invokevirtual idx, 3)) (hl : Cond.methodLink M.1.cls idx M2.1 ∈ gtb) (hm : MK M2 1) (hv : MV M2) (hR : RF M2 M) (hq : PL L q ci) (hci : ∃ (T : u_T) (N : Nat), vwCl[ci]? = some (M2.1.cls, T, N)) (hst : stw st ≤ 8) (hc : CT L M2 (vR (some q) :: [a1]) σ (some (vI x), σ1)) (k : AW L M r (pc + 3) ls (vI x :: st) σ1) : AW L M r pc ls (a1 :: vR (some q) :: st) σ :=
  aw_callV (as := [a1]) hd hl hm hv hR hq hci rfl hst hc k
theorem aw_S1i {a1 : AV} {x : Int} (hd : decode M.2.1 pc = .ok (.invokestatic idx, 3)) (hl : Cond.methodLink M.1.cls idx M2.1 ∈ gtb) (hm : MK M2 1) (hv : Cond.static M2.1 ∈ gtb) (hR : RF M2 M) (hst : stw st ≤ 8) (hc : CT L M2 [a1] σ (some (vI x), σ1)) (k : AW L M r (pc + 3) ls (vI x :: st) σ1) : AW L M r pc ls (a1 :: st) σ :=
  aw_callS (as := [a1]) hd hl hm hv hR rfl hst hc k
theorem aw_V1l {q ci : Nat} {a1 : AV} {x : Int} (hd : decode M.2.1 pc = .ok (.invokevirtual idx, 3)) (hl : Cond.methodLink M.1.cls idx M2.1 ∈ gtb) (hm : MK M2 1) (hv : MV M2) (hR : RF M2 M) (hq : PL L q ci) (hci : ∃ (T : u_T) (N : Nat), vwCl[ci]? = some (M2.1.cls, T, N)) (hst : stw st ≤ 8) (hc : CT L M2 (vR (some q) :: [a1]) σ (some (vL x), σ1)) (k : AW L M r (pc + 3) ls (vL x :: st) σ1) : AW L M r pc ls (a1 :: vR (some q) :: st) σ :=
  aw_callV (as := [a1]) hd hl hm hv hR hq hci rfl hst hc k
theorem aw_S1l {a1 : AV} {x : Int} (hd : decode M.2.1 pc = .ok (.invokestatic idx, 3)) (hl : Cond.methodLink M.1.cls idx M2.1 ∈ gtb) (hm : MK M2 1) (hv : Cond.static M2.1 ∈ gtb) (hR : RF M2 M) (hst : stw st ≤ 8) (hc : CT L M2 [a1] σ (some (vL x), σ1)) (k : AW L M r (pc + 3) ls (vL x :: st) σ1) : AW L M r pc ls (a1 :: st) σ :=
  aw_callS (as := [a1]) hd hl hm hv hR rfl hst hc k
theorem aw_V1r {q ci : Nat} {a1 : AV} {x : Option Nat} (hd : decode M.2.1 pc = .ok (.invokevirtual idx, 3)) (hl : Cond.methodLink M.1.cls idx M2.1 ∈ gtb) (hm : MK M2 1) (hv : MV M2) (hR : RF M2 M) (hq : PL L q ci) (hci : ∃ (T : u_T) (N : Nat), vwCl[ci]? = some (M2.1.cls, T, N)) (hst : stw st ≤ 8) (hc : CT L M2 (vR (some q) :: [a1]) σ (some (vR x), σ1)) (k : AW L M r (pc + 3) ls (vR x :: st) σ1) : AW L M r pc ls (a1 :: vR (some q) :: st) σ :=
  aw_callV (as := [a1]) hd hl hm hv hR hq hci rfl hst hc k
theorem aw_S1r {a1 : AV} {x : Option Nat} (hd : decode M.2.1 pc = .ok (.invokestatic idx, 3)) (hl : Cond.methodLink M.1.cls idx M2.1 ∈ gtb) (hm : MK M2 1) (hv : Cond.static M2.1 ∈ gtb) (hR : RF M2 M) (hst : stw st ≤ 8) (hc : CT L M2 [a1] σ (some (vR x), σ1)) (k : AW L M r (pc + 3) ls (vR x :: st) σ1) : AW L M r pc ls (a1 :: st) σ :=
  aw_callS (as := [a1]) hd hl hm hv hR rfl hst hc k
theorem aw_V1v {q ci : Nat} {a1 : AV} (hd : decode M.2.1 pc = .ok (.invokevirtual idx, 3)) (hl : Cond.methodLink M.1.cls idx M2.1 ∈ gtb) (hm : MK M2 1) (hv : MV M2) (hR : RF M2 M) (hq : PL L q ci) (hci : ∃ (T : u_T) (N : Nat), vwCl[ci]? = some (M2.1.cls, T, N)) (hst : stw st ≤ 8) (hc : CT L M2 (vR (some q) :: [a1]) σ (none, σ1)) (k : AW L M r (pc + 3) ls (st) σ1) : AW L M r pc ls (a1 :: vR (some q) :: st) σ :=
  aw_callV (as := [a1]) hd hl hm hv hR hq hci rfl hst hc k
theorem aw_S1v {a1 : AV} (hd : decode M.2.1 pc = .ok (.invokestatic idx, 3)) (hl : Cond.methodLink M.1.cls idx M2.1 ∈ gtb) (hm : MK M2 1) (hv : Cond.static M2.1 ∈ gtb) (hR : RF M2 M) (hst : stw st ≤ 8) (hc : CT L M2 [a1] σ (none, σ1)) (k : AW L M r (pc + 3) ls (st) σ1) : AW L M r pc ls (a1 :: st) σ :=
  aw_callS (as := [a1]) hd hl hm hv hR rfl hst hc k
theorem aw_V2i {q ci : Nat} {a1 a2 : AV} {x : Int} (hd : decode M.2.1 pc = .ok (.invokevirtual idx, 3)) (hl : Cond.methodLink M.1.cls idx M2.1 ∈ gtb) (hm : MK M2 2) (hv : MV M2) (hR : RF M2 M) (hq : PL L q ci) (hci : ∃ (T : u_T) (N : Nat), vwCl[ci]? = some (M2.1.cls, T, N)) (hst : stw st ≤ 8) (hc : CT L M2 (vR (some q) :: [a1, a2]) σ (some (vI x), σ1)) (k : AW L M r (pc + 3) ls (vI x :: st) σ1) : AW L M r pc ls (a2 :: a1 :: vR (some q) :: st) σ :=
  aw_callV (as := [a1, a2]) hd hl hm hv hR hq hci rfl hst hc k
theorem aw_S2i {a1 a2 : AV} {x : Int} (hd : decode M.2.1 pc = .ok (.invokestatic idx, 3)) (hl : Cond.methodLink M.1.cls idx M2.1 ∈ gtb) (hm : MK M2 2) (hv : Cond.static M2.1 ∈ gtb) (hR : RF M2 M) (hst : stw st ≤ 8) (hc : CT L M2 [a1, a2] σ (some (vI x), σ1)) (k : AW L M r (pc + 3) ls (vI x :: st) σ1) : AW L M r pc ls (a2 :: a1 :: st) σ :=
  aw_callS (as := [a1, a2]) hd hl hm hv hR rfl hst hc k
theorem aw_V2l {q ci : Nat} {a1 a2 : AV} {x : Int} (hd : decode M.2.1 pc = .ok (.invokevirtual idx, 3)) (hl : Cond.methodLink M.1.cls idx M2.1 ∈ gtb) (hm : MK M2 2) (hv : MV M2) (hR : RF M2 M) (hq : PL L q ci) (hci : ∃ (T : u_T) (N : Nat), vwCl[ci]? = some (M2.1.cls, T, N)) (hst : stw st ≤ 8) (hc : CT L M2 (vR (some q) :: [a1, a2]) σ (some (vL x), σ1)) (k : AW L M r (pc + 3) ls (vL x :: st) σ1) : AW L M r pc ls (a2 :: a1 :: vR (some q) :: st) σ :=
  aw_callV (as := [a1, a2]) hd hl hm hv hR hq hci rfl hst hc k
theorem aw_S2l {a1 a2 : AV} {x : Int} (hd : decode M.2.1 pc = .ok (.invokestatic idx, 3)) (hl : Cond.methodLink M.1.cls idx M2.1 ∈ gtb) (hm : MK M2 2) (hv : Cond.static M2.1 ∈ gtb) (hR : RF M2 M) (hst : stw st ≤ 8) (hc : CT L M2 [a1, a2] σ (some (vL x), σ1)) (k : AW L M r (pc + 3) ls (vL x :: st) σ1) : AW L M r pc ls (a2 :: a1 :: st) σ :=
  aw_callS (as := [a1, a2]) hd hl hm hv hR rfl hst hc k
theorem aw_V2r {q ci : Nat} {a1 a2 : AV} {x : Option Nat} (hd : decode M.2.1 pc = .ok (.invokevirtual idx, 3)) (hl : Cond.methodLink M.1.cls idx M2.1 ∈ gtb) (hm : MK M2 2) (hv : MV M2) (hR : RF M2 M) (hq : PL L q ci) (hci : ∃ (T : u_T) (N : Nat), vwCl[ci]? = some (M2.1.cls, T, N)) (hst : stw st ≤ 8) (hc : CT L M2 (vR (some q) :: [a1, a2]) σ (some (vR x), σ1)) (k : AW L M r (pc + 3) ls (vR x :: st) σ1) : AW L M r pc ls (a2 :: a1 :: vR (some q) :: st) σ :=
  aw_callV (as := [a1, a2]) hd hl hm hv hR hq hci rfl hst hc k
theorem aw_S2r {a1 a2 : AV} {x : Option Nat} (hd : decode M.2.1 pc = .ok (.invokestatic idx, 3)) (hl : Cond.methodLink M.1.cls idx M2.1 ∈ gtb) (hm : MK M2 2) (hv : Cond.static M2.1 ∈ gtb) (hR : RF M2 M) (hst : stw st ≤ 8) (hc : CT L M2 [a1, a2] σ (some (vR x), σ1)) (k : AW L M r (pc + 3) ls (vR x :: st) σ1) : AW L M r pc ls (a2 :: a1 :: st) σ :=
  aw_callS (as := [a1, a2]) hd hl hm hv hR rfl hst hc k
theorem aw_V2v {q ci : Nat} {a1 a2 : AV} (hd : decode M.2.1 pc = .ok (.invokevirtual idx, 3)) (hl : Cond.methodLink M.1.cls idx M2.1 ∈ gtb) (hm : MK M2 2) (hv : MV M2) (hR : RF M2 M) (hq : PL L q ci) (hci : ∃ (T : u_T) (N : Nat), vwCl[ci]? = some (M2.1.cls, T, N)) (hst : stw st ≤ 8) (hc : CT L M2 (vR (some q) :: [a1, a2]) σ (none, σ1)) (k : AW L M r (pc + 3) ls (st) σ1) : AW L M r pc ls (a2 :: a1 :: vR (some q) :: st) σ :=
  aw_callV (as := [a1, a2]) hd hl hm hv hR hq hci rfl hst hc k
theorem aw_S2v {a1 a2 : AV} (hd : decode M.2.1 pc = .ok (.invokestatic idx, 3)) (hl : Cond.methodLink M.1.cls idx M2.1 ∈ gtb) (hm : MK M2 2) (hv : Cond.static M2.1 ∈ gtb) (hR : RF M2 M) (hst : stw st ≤ 8) (hc : CT L M2 [a1, a2] σ (none, σ1)) (k : AW L M r (pc + 3) ls (st) σ1) : AW L M r pc ls (a2 :: a1 :: st) σ :=
  aw_callS (as := [a1, a2]) hd hl hm hv hR rfl hst hc k
theorem aw_V3i {q ci : Nat} {a1 a2 a3 : AV} {x : Int} (hd : decode M.2.1 pc = .ok (.invokevirtual idx, 3)) (hl : Cond.methodLink M.1.cls idx M2.1 ∈ gtb) (hm : MK M2 3) (hv : MV M2) (hR : RF M2 M) (hq : PL L q ci) (hci : ∃ (T : u_T) (N : Nat), vwCl[ci]? = some (M2.1.cls, T, N)) (hst : stw st ≤ 8) (hc : CT L M2 (vR (some q) :: [a1, a2, a3]) σ (some (vI x), σ1)) (k : AW L M r (pc + 3) ls (vI x :: st) σ1) : AW L M r pc ls (a3 :: a2 :: a1 :: vR (some q) :: st) σ :=
  aw_callV (as := [a1, a2, a3]) hd hl hm hv hR hq hci rfl hst hc k
theorem aw_S3i {a1 a2 a3 : AV} {x : Int} (hd : decode M.2.1 pc = .ok (.invokestatic idx, 3)) (hl : Cond.methodLink M.1.cls idx M2.1 ∈ gtb) (hm : MK M2 3) (hv : Cond.static M2.1 ∈ gtb) (hR : RF M2 M) (hst : stw st ≤ 8) (hc : CT L M2 [a1, a2, a3] σ (some (vI x), σ1)) (k : AW L M r (pc + 3) ls (vI x :: st) σ1) : AW L M r pc ls (a3 :: a2 :: a1 :: st) σ :=
  aw_callS (as := [a1, a2, a3]) hd hl hm hv hR rfl hst hc k
theorem aw_V3l {q ci : Nat} {a1 a2 a3 : AV} {x : Int} (hd : decode M.2.1 pc = .ok (.invokevirtual idx, 3)) (hl : Cond.methodLink M.1.cls idx M2.1 ∈ gtb) (hm : MK M2 3) (hv : MV M2) (hR : RF M2 M) (hq : PL L q ci) (hci : ∃ (T : u_T) (N : Nat), vwCl[ci]? = some (M2.1.cls, T, N)) (hst : stw st ≤ 8) (hc : CT L M2 (vR (some q) :: [a1, a2, a3]) σ (some (vL x), σ1)) (k : AW L M r (pc + 3) ls (vL x :: st) σ1) : AW L M r pc ls (a3 :: a2 :: a1 :: vR (some q) :: st) σ :=
  aw_callV (as := [a1, a2, a3]) hd hl hm hv hR hq hci rfl hst hc k
theorem aw_S3l {a1 a2 a3 : AV} {x : Int} (hd : decode M.2.1 pc = .ok (.invokestatic idx, 3)) (hl : Cond.methodLink M.1.cls idx M2.1 ∈ gtb) (hm : MK M2 3) (hv : Cond.static M2.1 ∈ gtb) (hR : RF M2 M) (hst : stw st ≤ 8) (hc : CT L M2 [a1, a2, a3] σ (some (vL x), σ1)) (k : AW L M r (pc + 3) ls (vL x :: st) σ1) : AW L M r pc ls (a3 :: a2 :: a1 :: st) σ :=
  aw_callS (as := [a1, a2, a3]) hd hl hm hv hR rfl hst hc k
theorem aw_V3r {q ci : Nat} {a1 a2 a3 : AV} {x : Option Nat} (hd : decode M.2.1 pc = .ok (.invokevirtual idx, 3)) (hl : Cond.methodLink M.1.cls idx M2.1 ∈ gtb) (hm : MK M2 3) (hv : MV M2) (hR : RF M2 M) (hq : PL L q ci) (hci : ∃ (T : u_T) (N : Nat), vwCl[ci]? = some (M2.1.cls, T, N)) (hst : stw st ≤ 8) (hc : CT L M2 (vR (some q) :: [a1, a2, a3]) σ (some (vR x), σ1)) (k : AW L M r (pc + 3) ls (vR x :: st) σ1) : AW L M r pc ls (a3 :: a2 :: a1 :: vR (some q) :: st) σ :=
  aw_callV (as := [a1, a2, a3]) hd hl hm hv hR hq hci rfl hst hc k
theorem aw_S3r {a1 a2 a3 : AV} {x : Option Nat} (hd : decode M.2.1 pc = .ok (.invokestatic idx, 3)) (hl : Cond.methodLink M.1.cls idx M2.1 ∈ gtb) (hm : MK M2 3) (hv : Cond.static M2.1 ∈ gtb) (hR : RF M2 M) (hst : stw st ≤ 8) (hc : CT L M2 [a1, a2, a3] σ (some (vR x), σ1)) (k : AW L M r (pc + 3) ls (vR x :: st) σ1) : AW L M r pc ls (a3 :: a2 :: a1 :: st) σ :=
  aw_callS (as := [a1, a2, a3]) hd hl hm hv hR rfl hst hc k
theorem aw_V3v {q ci : Nat} {a1 a2 a3 : AV} (hd : decode M.2.1 pc = .ok (.invokevirtual idx, 3)) (hl : Cond.methodLink M.1.cls idx M2.1 ∈ gtb) (hm : MK M2 3) (hv : MV M2) (hR : RF M2 M) (hq : PL L q ci) (hci : ∃ (T : u_T) (N : Nat), vwCl[ci]? = some (M2.1.cls, T, N)) (hst : stw st ≤ 8) (hc : CT L M2 (vR (some q) :: [a1, a2, a3]) σ (none, σ1)) (k : AW L M r (pc + 3) ls (st) σ1) : AW L M r pc ls (a3 :: a2 :: a1 :: vR (some q) :: st) σ :=
  aw_callV (as := [a1, a2, a3]) hd hl hm hv hR hq hci rfl hst hc k
theorem aw_S3v {a1 a2 a3 : AV} (hd : decode M.2.1 pc = .ok (.invokestatic idx, 3)) (hl : Cond.methodLink M.1.cls idx M2.1 ∈ gtb) (hm : MK M2 3) (hv : Cond.static M2.1 ∈ gtb) (hR : RF M2 M) (hst : stw st ≤ 8) (hc : CT L M2 [a1, a2, a3] σ (none, σ1)) (k : AW L M r (pc + 3) ls (st) σ1) : AW L M r pc ls (a3 :: a2 :: a1 :: st) σ :=
  aw_callS (as := [a1, a2, a3]) hd hl hm hv hR rfl hst hc k
theorem aw_V4i {q ci : Nat} {a1 a2 a3 a4 : AV} {x : Int} (hd : decode M.2.1 pc = .ok (.invokevirtual idx, 3)) (hl : Cond.methodLink M.1.cls idx M2.1 ∈ gtb) (hm : MK M2 4) (hv : MV M2) (hR : RF M2 M) (hq : PL L q ci) (hci : ∃ (T : u_T) (N : Nat), vwCl[ci]? = some (M2.1.cls, T, N)) (hst : stw st ≤ 8) (hc : CT L M2 (vR (some q) :: [a1, a2, a3, a4]) σ (some (vI x), σ1)) (k : AW L M r (pc + 3) ls (vI x :: st) σ1) : AW L M r pc ls (a4 :: a3 :: a2 :: a1 :: vR (some q) :: st) σ :=
  aw_callV (as := [a1, a2, a3, a4]) hd hl hm hv hR hq hci rfl hst hc k
theorem aw_S4i {a1 a2 a3 a4 : AV} {x : Int} (hd : decode M.2.1 pc = .ok (.invokestatic idx, 3)) (hl : Cond.methodLink M.1.cls idx M2.1 ∈ gtb) (hm : MK M2 4) (hv : Cond.static M2.1 ∈ gtb) (hR : RF M2 M) (hst : stw st ≤ 8) (hc : CT L M2 [a1, a2, a3, a4] σ (some (vI x), σ1)) (k : AW L M r (pc + 3) ls (vI x :: st) σ1) : AW L M r pc ls (a4 :: a3 :: a2 :: a1 :: st) σ :=
  aw_callS (as := [a1, a2, a3, a4]) hd hl hm hv hR rfl hst hc k
theorem aw_V4l {q ci : Nat} {a1 a2 a3 a4 : AV} {x : Int} (hd : decode M.2.1 pc = .ok (.invokevirtual idx, 3)) (hl : Cond.methodLink M.1.cls idx M2.1 ∈ gtb) (hm : MK M2 4) (hv : MV M2) (hR : RF M2 M) (hq : PL L q ci) (hci : ∃ (T : u_T) (N : Nat), vwCl[ci]? = some (M2.1.cls, T, N)) (hst : stw st ≤ 8) (hc : CT L M2 (vR (some q) :: [a1, a2, a3, a4]) σ (some (vL x), σ1)) (k : AW L M r (pc + 3) ls (vL x :: st) σ1) : AW L M r pc ls (a4 :: a3 :: a2 :: a1 :: vR (some q) :: st) σ :=
  aw_callV (as := [a1, a2, a3, a4]) hd hl hm hv hR hq hci rfl hst hc k
theorem aw_S4l {a1 a2 a3 a4 : AV} {x : Int} (hd : decode M.2.1 pc = .ok (.invokestatic idx, 3)) (hl : Cond.methodLink M.1.cls idx M2.1 ∈ gtb) (hm : MK M2 4) (hv : Cond.static M2.1 ∈ gtb) (hR : RF M2 M) (hst : stw st ≤ 8) (hc : CT L M2 [a1, a2, a3, a4] σ (some (vL x), σ1)) (k : AW L M r (pc + 3) ls (vL x :: st) σ1) : AW L M r pc ls (a4 :: a3 :: a2 :: a1 :: st) σ :=
  aw_callS (as := [a1, a2, a3, a4]) hd hl hm hv hR rfl hst hc k
theorem aw_V4r {q ci : Nat} {a1 a2 a3 a4 : AV} {x : Option Nat} (hd : decode M.2.1 pc = .ok (.invokevirtual idx, 3)) (hl : Cond.methodLink M.1.cls idx M2.1 ∈ gtb) (hm : MK M2 4) (hv : MV M2) (hR : RF M2 M) (hq : PL L q ci) (hci : ∃ (T : u_T) (N : Nat), vwCl[ci]? = some (M2.1.cls, T, N)) (hst : stw st ≤ 8) (hc : CT L M2 (vR (some q) :: [a1, a2, a3, a4]) σ (some (vR x), σ1)) (k : AW L M r (pc + 3) ls (vR x :: st) σ1) : AW L M r pc ls (a4 :: a3 :: a2 :: a1 :: vR (some q) :: st) σ :=
  aw_callV (as := [a1, a2, a3, a4]) hd hl hm hv hR hq hci rfl hst hc k
theorem aw_S4r {a1 a2 a3 a4 : AV} {x : Option Nat} (hd : decode M.2.1 pc = .ok (.invokestatic idx, 3)) (hl : Cond.methodLink M.1.cls idx M2.1 ∈ gtb) (hm : MK M2 4) (hv : Cond.static M2.1 ∈ gtb) (hR : RF M2 M) (hst : stw st ≤ 8) (hc : CT L M2 [a1, a2, a3, a4] σ (some (vR x), σ1)) (k : AW L M r (pc + 3) ls (vR x :: st) σ1) : AW L M r pc ls (a4 :: a3 :: a2 :: a1 :: st) σ :=
  aw_callS (as := [a1, a2, a3, a4]) hd hl hm hv hR rfl hst hc k
theorem aw_V4v {q ci : Nat} {a1 a2 a3 a4 : AV} (hd : decode M.2.1 pc = .ok (.invokevirtual idx, 3)) (hl : Cond.methodLink M.1.cls idx M2.1 ∈ gtb) (hm : MK M2 4) (hv : MV M2) (hR : RF M2 M) (hq : PL L q ci) (hci : ∃ (T : u_T) (N : Nat), vwCl[ci]? = some (M2.1.cls, T, N)) (hst : stw st ≤ 8) (hc : CT L M2 (vR (some q) :: [a1, a2, a3, a4]) σ (none, σ1)) (k : AW L M r (pc + 3) ls (st) σ1) : AW L M r pc ls (a4 :: a3 :: a2 :: a1 :: vR (some q) :: st) σ :=
  aw_callV (as := [a1, a2, a3, a4]) hd hl hm hv hR hq hci rfl hst hc k
theorem aw_S4v {a1 a2 a3 a4 : AV} (hd : decode M.2.1 pc = .ok (.invokestatic idx, 3)) (hl : Cond.methodLink M.1.cls idx M2.1 ∈ gtb) (hm : MK M2 4) (hv : Cond.static M2.1 ∈ gtb) (hR : RF M2 M) (hst : stw st ≤ 8) (hc : CT L M2 [a1, a2, a3, a4] σ (none, σ1)) (k : AW L M r (pc + 3) ls (st) σ1) : AW L M r pc ls (a4 :: a3 :: a2 :: a1 :: st) σ :=
  aw_callS (as := [a1, a2, a3, a4]) hd hl hm hv hR rfl hst hc k
theorem aw_V5i {q ci : Nat} {a1 a2 a3 a4 a5 : AV} {x : Int} (hd : decode M.2.1 pc = .ok (.invokevirtual idx, 3)) (hl : Cond.methodLink M.1.cls idx M2.1 ∈ gtb) (hm : MK M2 5) (hv : MV M2) (hR : RF M2 M) (hq : PL L q ci) (hci : ∃ (T : u_T) (N : Nat), vwCl[ci]? = some (M2.1.cls, T, N)) (hst : stw st ≤ 8) (hc : CT L M2 (vR (some q) :: [a1, a2, a3, a4, a5]) σ (some (vI x), σ1)) (k : AW L M r (pc + 3) ls (vI x :: st) σ1) : AW L M r pc ls (a5 :: a4 :: a3 :: a2 :: a1 :: vR (some q) :: st) σ :=
  aw_callV (as := [a1, a2, a3, a4, a5]) hd hl hm hv hR hq hci rfl hst hc k
theorem aw_S5i {a1 a2 a3 a4 a5 : AV} {x : Int} (hd : decode M.2.1 pc = .ok (.invokestatic idx, 3)) (hl : Cond.methodLink M.1.cls idx M2.1 ∈ gtb) (hm : MK M2 5) (hv : Cond.static M2.1 ∈ gtb) (hR : RF M2 M) (hst : stw st ≤ 8) (hc : CT L M2 [a1, a2, a3, a4, a5] σ (some (vI x), σ1)) (k : AW L M r (pc + 3) ls (vI x :: st) σ1) : AW L M r pc ls (a5 :: a4 :: a3 :: a2 :: a1 :: st) σ :=
  aw_callS (as := [a1, a2, a3, a4, a5]) hd hl hm hv hR rfl hst hc k
theorem aw_V5l {q ci : Nat} {a1 a2 a3 a4 a5 : AV} {x : Int} (hd : decode M.2.1 pc = .ok (.invokevirtual idx, 3)) (hl : Cond.methodLink M.1.cls idx M2.1 ∈ gtb) (hm : MK M2 5) (hv : MV M2) (hR : RF M2 M) (hq : PL L q ci) (hci : ∃ (T : u_T) (N : Nat), vwCl[ci]? = some (M2.1.cls, T, N)) (hst : stw st ≤ 8) (hc : CT L M2 (vR (some q) :: [a1, a2, a3, a4, a5]) σ (some (vL x), σ1)) (k : AW L M r (pc + 3) ls (vL x :: st) σ1) : AW L M r pc ls (a5 :: a4 :: a3 :: a2 :: a1 :: vR (some q) :: st) σ :=
  aw_callV (as := [a1, a2, a3, a4, a5]) hd hl hm hv hR hq hci rfl hst hc k
theorem aw_S5l {a1 a2 a3 a4 a5 : AV} {x : Int} (hd : decode M.2.1 pc = .ok (.invokestatic idx, 3)) (hl : Cond.methodLink M.1.cls idx M2.1 ∈ gtb) (hm : MK M2 5) (hv : Cond.static M2.1 ∈ gtb) (hR : RF M2 M) (hst : stw st ≤ 8) (hc : CT L M2 [a1, a2, a3, a4, a5] σ (some (vL x), σ1)) (k : AW L M r (pc + 3) ls (vL x :: st) σ1) : AW L M r pc ls (a5 :: a4 :: a3 :: a2 :: a1 :: st) σ :=
  aw_callS (as := [a1, a2, a3, a4, a5]) hd hl hm hv hR rfl hst hc k
theorem aw_V5r {q ci : Nat} {a1 a2 a3 a4 a5 : AV} {x : Option Nat} (hd : decode M.2.1 pc = .ok (.invokevirtual idx, 3)) (hl : Cond.methodLink M.1.cls idx M2.1 ∈ gtb) (hm : MK M2 5) (hv : MV M2) (hR : RF M2 M) (hq : PL L q ci) (hci : ∃ (T : u_T) (N : Nat), vwCl[ci]? = some (M2.1.cls, T, N)) (hst : stw st ≤ 8) (hc : CT L M2 (vR (some q) :: [a1, a2, a3, a4, a5]) σ (some (vR x), σ1)) (k : AW L M r (pc + 3) ls (vR x :: st) σ1) : AW L M r pc ls (a5 :: a4 :: a3 :: a2 :: a1 :: vR (some q) :: st) σ :=
  aw_callV (as := [a1, a2, a3, a4, a5]) hd hl hm hv hR hq hci rfl hst hc k
theorem aw_S5r {a1 a2 a3 a4 a5 : AV} {x : Option Nat} (hd : decode M.2.1 pc = .ok (.invokestatic idx, 3)) (hl : Cond.methodLink M.1.cls idx M2.1 ∈ gtb) (hm : MK M2 5) (hv : Cond.static M2.1 ∈ gtb) (hR : RF M2 M) (hst : stw st ≤ 8) (hc : CT L M2 [a1, a2, a3, a4, a5] σ (some (vR x), σ1)) (k : AW L M r (pc + 3) ls (vR x :: st) σ1) : AW L M r pc ls (a5 :: a4 :: a3 :: a2 :: a1 :: st) σ :=
  aw_callS (as := [a1, a2, a3, a4, a5]) hd hl hm hv hR rfl hst hc k
theorem aw_V5v {q ci : Nat} {a1 a2 a3 a4 a5 : AV} (hd : decode M.2.1 pc = .ok (.invokevirtual idx, 3)) (hl : Cond.methodLink M.1.cls idx M2.1 ∈ gtb) (hm : MK M2 5) (hv : MV M2) (hR : RF M2 M) (hq : PL L q ci) (hci : ∃ (T : u_T) (N : Nat), vwCl[ci]? = some (M2.1.cls, T, N)) (hst : stw st ≤ 8) (hc : CT L M2 (vR (some q) :: [a1, a2, a3, a4, a5]) σ (none, σ1)) (k : AW L M r (pc + 3) ls (st) σ1) : AW L M r pc ls (a5 :: a4 :: a3 :: a2 :: a1 :: vR (some q) :: st) σ :=
  aw_callV (as := [a1, a2, a3, a4, a5]) hd hl hm hv hR hq hci rfl hst hc k
theorem aw_S5v {a1 a2 a3 a4 a5 : AV} (hd : decode M.2.1 pc = .ok (.invokestatic idx, 3)) (hl : Cond.methodLink M.1.cls idx M2.1 ∈ gtb) (hm : MK M2 5) (hv : Cond.static M2.1 ∈ gtb) (hR : RF M2 M) (hst : stw st ≤ 8) (hc : CT L M2 [a1, a2, a3, a4, a5] σ (none, σ1)) (k : AW L M r (pc + 3) ls (st) σ1) : AW L M r pc ls (a5 :: a4 :: a3 :: a2 :: a1 :: st) σ :=
  aw_callS (as := [a1, a2, a3, a4, a5]) hd hl hm hv hR rfl hst hc k
theorem aw_name {a : Int} (k : ∀ x, x = a → AW L M r pc ls (vI x :: st) σ) : AW L M r pc ls (vI a :: st) σ := k a rfl
theorem aw_istore_nA {j : Fin 4} {i : Nat} {a : Int} (hd : decode M.2.1 pc = .ok (.istore_n j, 1)) (hi : (j : Nat) = i) (hn : i < M.2.2.1) (hb : nlo ls i = true) (k : AW L M r (pc + 1) (ls.set i (some (vI a))) st σ) : AW L M r pc ls (vI a :: st) σ := aw_istore_n hd hi hn hb (fun x e => by rw [e]; exact k)
theorem aw_istoreA {i : Nat} {a : Int} (hd : decode M.2.1 pc = .ok (.istore i, 2)) (hn : i < M.2.2.1) (hb : nlo ls i = true) (k : AW L M r (pc + 2) (ls.set i (some (vI a))) st σ) : AW L M r pc ls (vI a :: st) σ := aw_istore hd hn hb (fun x e => by rw [e]; exact k)
theorem aw_lstore_nA {j : Fin 4} {i : Nat} {a : Int} (hd : decode M.2.1 pc = .ok (.lstore_n j, 1)) (hi : (j : Nat) = i) (hn : i + 1 < M.2.2.1) (hb : nlo ls i = true) (k : AW L M r (pc + 1) ((ls.set i (some (vL a))).set (i + 1) none) st σ) : AW L M r pc ls (vL a :: st) σ := aw_lstore_n hd hi hn hb (fun x e => by rw [e]; exact k)
theorem aw_lstoreA {i : Nat} {a : Int} (hd : decode M.2.1 pc = .ok (.lstore i, 2)) (hn : i + 1 < M.2.2.1) (hb : nlo ls i = true) (k : AW L M r (pc + 2) ((ls.set i (some (vL a))).set (i + 1) none) st σ) : AW L M r pc ls (vL a :: st) σ := aw_lstore hd hn hb (fun x e => by rw [e]; exact k)
end Calls3
def gx {β : Type} (i : Int) (n : Nat) (x : Option β) : Option β := if 0 ≤ i ∧ i < n then x else none
def gb {β : Type} (v : Int) (x : Option β) : Option β := if v = 0 ∨ v = 1 then x else none
def gc {β : Type} (i j n : Int) (n0 n1 : Nat) (x : Option β) : Option β := if 0 ≤ i ∧ 0 ≤ j ∧ 0 ≤ n ∧ i + n ≤ n0 ∧ j + n ≤ n1 then x else none
def sb {α β : Type} (v : α) (K : α → Option β) : Option β := K v
def cb {α β : Type} (o : Option (α × SS)) (K : α → SS → Option β) : Option β := match o with
  | none => none
  | some y => K y.1 y.2
def bn {α β : Type} (o : Option α) (K : α → Option β) : Option β := match o with
  | none => none
  | some y => K y
def ob {β : Type} (o : Option Nat) (A : Option β) (B : Nat → Option β) : Option β := match o with
  | none => A
  | some q => B q
theorem gx_e {β : Type} {i : Int} {n : Nat} {x : Option β} {r : β} (h : gx i n x = some r) : (0 ≤ i ∧ i < n) ∧ x = some r := by
  unfold gx at h
  split at h
  · exact ⟨by assumption, h⟩
  · cases h
theorem gb_e {β : Type} {v : Int} {x : Option β} {r : β} (h : gb v x = some r) : (v = 0 ∨ v = 1) ∧ x = some r := by
  unfold gb at h
  split at h
  · exact ⟨by assumption, h⟩
  · cases h
theorem gc_e {β : Type} {i j n : Int} {n0 n1 : Nat} {x : Option β} {r : β} (h : gc i j n n0 n1 x = some r) : (0 ≤ i ∧ 0 ≤ j ∧ 0 ≤ n ∧ i + n ≤ n0 ∧ j + n ≤ n1) ∧ x = some r := by
  unfold gc at h
  split at h
  · exact ⟨by assumption, h⟩
  · cases h
theorem sb_e {α β : Type} {v y : α} {K : α → Option β} {r : β} (h : sb v K = some r) (e : y = v) : K y = some r := by
  subst e
  exact h
theorem cb_e {α β : Type} {o : Option (α × SS)} {K : α → SS → Option β} {r : β} (h : cb o K = some r) : ∃ x σ1, o = some (x, σ1) ∧ K x σ1 = some r := by
  unfold cb at h
  split at h
  · cases h
  · rename_i y
    exact ⟨y.1, y.2, rfl, h⟩
theorem bn_e {α β : Type} {o : Option α} {K : α → Option β} {r : β} (h : bn o K = some r) : ∃ x, o = some x ∧ K x = some r := by
  unfold bn at h
  split at h
  · cases h
  · rename_i y
    exact ⟨y, rfl, h⟩
theorem ob_n {β : Type} {A : Option β} {B : Nat → Option β} {r : β} (h : ob none A B = some r) : A = some r := h
theorem ob_s {β : Type} {q : Nat} {A : Option β} {B : Nat → Option β} {r : β} (h : ob (some q) A B = some r) : B q = some r := h
theorem ip {β : Type} {c : Prop} {d : Decidable c} {x y : Option β} {r : β} (hc : c) (h : (if c then x else y) = some r) : x = some r := by
  rw [if_pos hc] at h
  exact h
theorem ic {β : Type} {c : Prop} {d : Decidable c} {x y : Option β} {r : β} (hc : ¬ c) (h : (if c then x else y) = some r) : y = some r := by
  rw [if_neg hc] at h
  exact h
