/-! ChaseLockerLaw.isLike(LChaseLocker;LChaseLockerLaw$World;)Z -/
def fL_isLike_835  (a0 : Nat) (a1 : Nat) (s0 : AS) : Option AR :=
  nA s0 100 2 (fun q1 s2 =>
  gR s2 a1 13 1 (fun q3 =>
  aI s2 q3 100 1 (fun v4 =>
  uI s2 q1 0 v4 (fun s5 =>
  uI s5 q1 1 0 (fun s6 =>
  cR s6 (fL_thrown a0 2 q1 s6) (qI (fun v7 s8 =>
  if v7 = (2 : Int32) then (
    nA s8 100 2 (fun q9 s10 =>
    gI s10 a1 13 14 (fun v11 =>
    uI s10 q9 0 v11 (fun s12 =>
    uI s12 q9 1 0 (fun s13 =>
    cR s13 (fL_thrown a0 5 q9 s13) (qI (fun v14 s15 =>
    if v14 = (2 : Int32) then (
      rZ 1 s15)
    else (
      rZ 0 s15))))))))
  else (
    rZ 0 s8))))))))
def fL_isLike_806  : Nat → Nat → Nat → Nat → Int32 → AS → Option AR
  | 0, _, _, _, _, _ => none
  | n + 1, a0, a1, a6, x7, s0 =>
    if (6 : Int32) ≤ x7 then (
      fL_isLike_835 a0 a1 s0)
    else (
      cV s0 a0 10 (fX6_setting a0 x7 s0) (qI (fun v1 s2 =>
      aI s2 a6 100 x7 (fun v3 =>
      if v1 = v3 then (
        lt (x7 + 1) (fun v4 =>
        fL_isLike_806 n a0 a1 a6 v4 s2))
      else (
        rZ 0 s2)))))
def fL_isLike_742  (a0 : Nat) (a1 : Nat) (s0 : AS) : Option AR :=
  nA s0 100 6 (fun q1 s2 =>
  gR s2 a1 13 1 (fun q3 =>
  aI s2 q3 100 0 (fun v4 =>
  uI s2 q1 0 v4 (fun s5 =>
  gR s5 a1 13 1 (fun q6 =>
  aI s5 q6 100 2 (fun v7 =>
  uI s5 q1 1 v7 (fun s8 =>
  gR s8 a1 13 1 (fun q9 =>
  aI s8 q9 100 3 (fun v10 =>
  uI s8 q1 2 v10 (fun s11 =>
  gR s11 a1 13 1 (fun q12 =>
  aI s11 q12 100 4 (fun v13 =>
  uI s11 q1 3 v13 (fun s14 =>
  gR s14 a1 13 1 (fun q15 =>
  aI s14 q15 100 5 (fun v16 =>
  uI s14 q1 4 v16 (fun s17 =>
  gR s17 a1 13 1 (fun q18 =>
  aI s17 q18 100 6 (fun v19 =>
  uI s17 q1 5 v19 (fun s20 =>
  fL_isLike_806 FU a0 a1 q1 0 s20)))))))))))))))))))
def fL_isLike_713  : Nat → Nat → Nat → Nat → Int32 → AS → Option AR
  | 0, _, _, _, _, _ => none
  | n + 1, a0, a1, a5, x6, s0 =>
    if (12 : Int32) ≤ x6 then (
      fL_isLike_742 a0 a1 s0)
    else (
      cV s0 a0 10 (fX6_count a0 x6 s0) (qI (fun v1 s2 =>
      aI s2 a5 100 x6 (fun v3 =>
      if v1 = v3 then (
        lt (x6 + 1) (fun v4 =>
        fL_isLike_713 n a0 a1 a5 v4 s2))
      else (
        rZ 0 s2)))))
def fL_isLike_610  (a0 : Nat) (a1 : Nat) (x2 : Int32) (x3 : Int32) (x4 : Int32) (s0 : AS) : Option AR :=
  nA s0 100 12 (fun q1 s2 =>
  gR s2 a1 13 1 (fun q3 =>
  aI s2 q3 100 1 (fun v4 =>
  uI s2 q1 0 v4 (fun s5 =>
  gI s5 a1 13 14 (fun v6 =>
  uI s5 q1 1 v6 (fun s7 =>
  gI s7 a1 13 15 (fun v8 =>
  uI s7 q1 2 v8 (fun s9 =>
  uI s9 q1 3 x2 (fun s10 =>
  uI s10 q1 4 x3 (fun s11 =>
  cV s11 a1 13 (fX19_tight a1 s11) (qI (fun v12 s13 =>
  uI s13 q1 5 v12 (fun s14 =>
  gR s14 a1 13 5 (fun q15 =>
  aI s14 q15 100 0 (fun v16 =>
  uI s14 q1 6 v16 (fun s17 =>
  gR s17 a1 13 5 (fun q18 =>
  aI s17 q18 100 1 (fun v19 =>
  uI s17 q1 7 v19 (fun s20 =>
  gR s20 a1 13 5 (fun q21 =>
  aI s20 q21 100 2 (fun v22 =>
  uI s20 q1 8 v22 (fun s23 =>
  gR s23 a1 13 5 (fun q24 =>
  aI s23 q24 100 3 (fun v25 =>
  uI s23 q1 9 v25 (fun s26 =>
  gR s26 a1 13 5 (fun q27 =>
  aI s26 q27 100 4 (fun v28 =>
  uI s26 q1 10 v28 (fun s29 =>
  uI s29 q1 11 x4 (fun s30 =>
  fL_isLike_713 FU a0 a1 q1 0 s30)))))))))))))))))))))))))))))
def fL_isLike_592 (r433 : Nat → Nat → Int32 → Int32 → Int32 → Int32 → AS → Option AR) (a0 : Nat) (a1 : Nat) (x2 : Int32) (x3 : Int32) (x4 : Int32) (x5 : Int32) (s0 : AS) : Option AR :=
  gR s0 a1 13 3 (fun q1 =>
  aI s0 q1 100 x5 (fun v2 =>
  lt (x4 + v2) (fun v3 =>
  lt (x5 + 1) (fun v4 =>
  r433 a0 a1 x2 x3 v3 v4 s0))))
def fL_isLike_562 (r433 : Nat → Nat → Int32 → Int32 → Int32 → Int32 → AS → Option AR) : Nat → Nat → Nat → Int32 → Int32 → Int32 → Int32 → Nat → Int32 → AS → Option AR
  | 0, _, _, _, _, _, _, _, _, _ => none
  | n + 1, a0, a1, x2, x3, x4, x5, a7, x8, s0 =>
    if (4 : Int32) ≤ x8 then (
      fL_isLike_592 r433 a0 a1 x2 x3 x4 x5 s0)
    else (
      cV s0 a0 10 (fX6_kind a0 x5 x8 s0) (qI (fun v1 s2 =>
      aI s2 a7 100 x8 (fun v3 =>
      if v1 = v3 then (
        lt (x8 + 1) (fun v4 =>
        fL_isLike_562 r433 n a0 a1 x2 x3 x4 x5 a7 v4 s2))
      else (
        rZ 0 s2)))))
def fL_isLike_531 (r433 : Nat → Nat → Int32 → Int32 → Int32 → Int32 → AS → Option AR) (a0 : Nat) (a1 : Nat) (x2 : Int32) (x3 : Int32) (x4 : Int32) (x5 : Int32) (x6 : Int32) (t0 : Nat) (t1 : Nat) (t2 : Int32) (t3 : Int32) (s0 : AS) : Option AR :=
  uI s0 t1 t2 t3 (fun s1 =>
  gR s1 a1 13 2 (fun q2 =>
  aI s1 q2 100 x5 (fun v3 =>
  uI s1 t0 1 v3 (fun s4 =>
  gR s4 a1 13 3 (fun q5 =>
  aI s4 q5 100 x5 (fun v6 =>
  uI s4 t0 2 v6 (fun s7 =>
  uI s7 t0 3 x6 (fun s8 =>
  fL_isLike_562 r433 FU a0 a1 x2 x3 x4 x5 t0 0 s8))))))))
def fL_isLike_511 (r433 : Nat → Nat → Int32 → Int32 → Int32 → Int32 → AS → Option AR) (a0 : Nat) (a1 : Nat) (x2 : Int32) (x3 : Int32) (x4 : Int32) (x5 : Int32) (x6 : Int32) (s0 : AS) : Option AR :=
  nA s0 100 4 (fun q1 s2 =>
  gR s2 a1 13 6 (fun q3 =>
  aI s2 q3 101 x5 (fun v4 =>
  if v4 = 0 then (
    fL_isLike_531 r433 a0 a1 x2 x3 x4 x5 x6 q1 q1 0 0 s2)
  else (
    fL_isLike_531 r433 a0 a1 x2 x3 x4 x5 x6 q1 q1 0 1 s2))))
def fL_isLike_505 (r433 : Nat → Nat → Int32 → Int32 → Int32 → Int32 → AS → Option AR) (r448 : Nat → Nat → Int32 → Int32 → Int32 → Int32 → Int32 → Int32 → AS → Option AR) (a0 : Nat) (a1 : Nat) (x2 : Int32) (x3 : Int32) (x4 : Int32) (x5 : Int32) (x6 : Int32) (x7 : Int32) (s0 : AS) : Option AR :=
  lt (x7 + 1) (fun v1 =>
  r448 a0 a1 x2 x3 x4 x5 x6 v1 s0)
def fL_isLike_496 (r433 : Nat → Nat → Int32 → Int32 → Int32 → Int32 → AS → Option AR) (r448 : Nat → Nat → Int32 → Int32 → Int32 → Int32 → Int32 → Int32 → AS → Option AR) (r462 : Nat → Nat → Int32 → Int32 → Int32 → Int32 → Int32 → Int32 → Int32 → AS → Option AR) (a0 : Nat) (a1 : Nat) (x2 : Int32) (x3 : Int32) (x4 : Int32) (x5 : Int32) (x7 : Int32) (x8 : Int32) (t0 : Int32) (t1 : Int32) (s0 : AS) : Option AR :=
  lt (t0 + t1) (fun v1 =>
  lt (x8 + 1) (fun v2 =>
  r462 a0 a1 x2 x3 x4 x5 v1 x7 v2 s0))
def fL_isLike_462 (r433 : Nat → Nat → Int32 → Int32 → Int32 → Int32 → AS → Option AR) (r448 : Nat → Nat → Int32 → Int32 → Int32 → Int32 → Int32 → Int32 → AS → Option AR) : Nat → Nat → Nat → Int32 → Int32 → Int32 → Int32 → Int32 → Int32 → Int32 → AS → Option AR
  | 0, _, _, _, _, _, _, _, _, _, _ => none
  | n + 1, a0, a1, x2, x3, x4, x5, x6, x7, x8, s0 =>
    gR s0 a1 13 10 (fun q1 =>
    aI s0 q1 100 x7 (fun v2 =>
    if v2 ≤ x8 then (
      fL_isLike_505 r433 r448 a0 a1 x2 x3 x4 x5 x6 x7 s0)
    else (
      gR s0 a1 13 8 (fun q3 =>
      aR s0 q3 110 x7 (fun q4 =>
      aI s0 q4 100 x8 (fun v5 =>
      if v5 = x5 then (
        fL_isLike_496 r433 r448 (fL_isLike_462 r433 r448 n) a0 a1 x2 x3 x4 x5 x7 x8 x6 1 s0)
      else (
        fL_isLike_496 r433 r448 (fL_isLike_462 r433 r448 n) a0 a1 x2 x3 x4 x5 x7 x8 x6 0 s0)))))))
def fL_isLike_448 (r433 : Nat → Nat → Int32 → Int32 → Int32 → Int32 → AS → Option AR) : Nat → Nat → Nat → Int32 → Int32 → Int32 → Int32 → Int32 → Int32 → AS → Option AR
  | 0, _, _, _, _, _, _, _, _, _ => none
  | n + 1, a0, a1, x2, x3, x4, x5, x6, x7, s0 =>
    gR s0 a1 13 1 (fun q1 =>
    aI s0 q1 100 1 (fun v2 =>
    if v2 ≤ x7 then (
      fL_isLike_511 r433 a0 a1 x2 x3 x4 x5 x6 s0)
    else (
      fL_isLike_462 r433 (fL_isLike_448 r433 n) FU a0 a1 x2 x3 x4 x5 x6 x7 0 s0)))
def fL_isLike_433  : Nat → Nat → Nat → Int32 → Int32 → Int32 → Int32 → AS → Option AR
  | 0, _, _, _, _, _, _, _ => none
  | n + 1, a0, a1, x2, x3, x4, x5, s0 =>
    gI s0 a1 13 14 (fun v1 =>
    if v1 ≤ x5 then (
      fL_isLike_610 a0 a1 x2 x3 x4 s0)
    else (
      fL_isLike_448 (fL_isLike_433 n) FU a0 a1 x2 x3 x4 x5 0 0 s0))
def fL_isLike_430  (a0 : Nat) (a1 : Nat) (x2 : Int32) (x3 : Int32) (x4 : Int32) (s0 : AS) : Option AR :=
  fL_isLike_433 FU a0 a1 x2 x3 x4 0 s0
def fL_isLike_333 (r10 : Nat → Nat → Int32 → Int32 → Int32 → Int32 → AS → Option AR) (a0 : Nat) (a1 : Nat) (x2 : Int32) (x3 : Int32) (x4 : Int32) (x5 : Int32) (s0 : AS) : Option AR :=
  cV s0 a0 10 (fX6_isTight a0 x5 s0) (qI (fun v1 s2 =>
  cV s2 a1 13 (fX19_isTight a1 x5 s2) (qI (fun v3 s4 =>
  if v1 = v3 then (
    nA s4 100 2 (fun q5 s6 =>
    uI s6 q5 0 x5 (fun s7 =>
    gR s7 a1 13 9 (fun q8 =>
    aI s7 q8 100 x5 (fun v9 =>
    uI s7 q5 1 v9 (fun s10 =>
    cR s10 (fL_thrown a0 3 q5 s10) (qI (fun v11 s12 =>
    if v11 = (2 : Int32) then (
      nA s12 100 2 (fun q13 s14 =>
      uI s14 q13 0 x5 (fun s15 =>
      gR s15 a1 13 10 (fun q16 =>
      aI s15 q16 100 x5 (fun v17 =>
      uI s15 q13 1 v17 (fun s18 =>
      cR s18 (fL_thrown a0 4 q13 s18) (qI (fun v19 s20 =>
      if v19 = (2 : Int32) then (
        gR s20 a1 13 9 (fun q21 =>
        aI s20 q21 100 x5 (fun v22 =>
        lt (x2 + v22) (fun v23 =>
        gR s20 a1 13 10 (fun q24 =>
        aI s20 q24 100 x5 (fun v25 =>
        lt (x3 + v25) (fun v26 =>
        lt (x5 + 1) (fun v27 =>
        r10 a0 a1 v23 v26 x4 v27 s20))))))))
      else (
        rZ 0 s20)))))))))
    else (
      rZ 0 s12)))))))))
  else (
    rZ 0 s4)))))
def fL_isLike_322 (r10 : Nat → Nat → Int32 → Int32 → Int32 → Int32 → AS → Option AR) (r274 : Nat → Nat → Int32 → Int32 → Int32 → Int32 → Int32 → AS → Option AR) (a0 : Nat) (a1 : Nat) (x2 : Int32) (x3 : Int32) (x4 : Int32) (x5 : Int32) (x8 : Int32) (t0 : Int32) (t1 : Int32) (s0 : AS) : Option AR :=
  if t0 = t1 then (
    lt (x8 + 1) (fun v1 =>
    r274 a0 a1 x2 x3 x4 x5 v1 s0))
  else (
    rZ 0 s0)
def fL_isLike_321 (r10 : Nat → Nat → Int32 → Int32 → Int32 → Int32 → AS → Option AR) (r274 : Nat → Nat → Int32 → Int32 → Int32 → Int32 → Int32 → AS → Option AR) (a0 : Nat) (a1 : Nat) (x2 : Int32) (x3 : Int32) (x4 : Int32) (x5 : Int32) (x8 : Int32) (t0 : Int32) (s0 : AS) : Option AR :=
  fL_isLike_322 r10 r274 a0 a1 x2 x3 x4 x5 x8 t0 0 s0
def fL_isLike_274 (r10 : Nat → Nat → Int32 → Int32 → Int32 → Int32 → AS → Option AR) : Nat → Nat → Nat → Int32 → Int32 → Int32 → Int32 → Int32 → AS → Option AR
  | 0, _, _, _, _, _, _, _, _ => none
  | n + 1, a0, a1, x2, x3, x4, x5, x8, s0 =>
    gI s0 a1 13 14 (fun v1 =>
    if v1 ≤ x8 then (
      fL_isLike_333 r10 a0 a1 x2 x3 x4 x5 s0)
    else (
      cV s0 a0 10 (fX6_canPut a0 x5 x8 s0) (qI (fun v2 s3 =>
      gR s3 a1 13 3 (fun q4 =>
      aI s3 q4 100 x8 (fun v5 =>
      if v5 ≤ 0 then (
        fL_isLike_321 r10 (fL_isLike_274 r10 n) a0 a1 x2 x3 x4 x5 x8 v2 s3)
      else (
        gR s3 a1 13 2 (fun q6 =>
        aI s3 q6 100 x8 (fun v7 =>
        cV s3 a1 13 (fX19_gap a1 x5 s3) (qI (fun v8 s9 =>
        if v8 < v7 then (
          fL_isLike_321 r10 (fL_isLike_274 r10 n) a0 a1 x2 x3 x4 x5 x8 v2 s9)
        else (
          fL_isLike_322 r10 (fL_isLike_274 r10 n) a0 a1 x2 x3 x4 x5 x8 v2 1 s9))))))))))))
def fL_isLike_271 (r10 : Nat → Nat → Int32 → Int32 → Int32 → Int32 → AS → Option AR) (a0 : Nat) (a1 : Nat) (x2 : Int32) (x3 : Int32) (x4 : Int32) (x5 : Int32) (s0 : AS) : Option AR :=
  fL_isLike_274 r10 FU a0 a1 x2 x3 x4 x5 0 s0
def fL_isLike_230 (r10 : Nat → Nat → Int32 → Int32 → Int32 → Int32 → AS → Option AR) : Nat → Nat → Nat → Int32 → Int32 → Int32 → Int32 → Int32 → AS → Option AR
  | 0, _, _, _, _, _, _, _, _ => none
  | n + 1, a0, a1, x2, x3, x4, x5, x8, s0 =>
    gR s0 a1 13 10 (fun q1 =>
    aI s0 q1 100 x5 (fun v2 =>
    if v2 ≤ x8 then (
      fL_isLike_271 r10 a0 a1 x2 x3 x4 x5 s0)
    else (
      cV s0 a0 10 (fX6_piece a0 x5 x8 s0) (qI (fun v3 s4 =>
      gR s4 a1 13 8 (fun q5 =>
      aR s4 q5 110 x5 (fun q6 =>
      aI s4 q6 100 x8 (fun v7 =>
      if v3 = v7 then (
        lt (x8 + 1) (fun v8 =>
        fL_isLike_230 r10 n a0 a1 x2 x3 x4 x5 v8 s4))
      else (
        rZ 0 s4)))))))))
def fL_isLike_227 (r10 : Nat → Nat → Int32 → Int32 → Int32 → Int32 → AS → Option AR) (a0 : Nat) (a1 : Nat) (x2 : Int32) (x3 : Int32) (x4 : Int32) (x5 : Int32) (s0 : AS) : Option AR :=
  fL_isLike_230 r10 FU a0 a1 x2 x3 x4 x5 0 s0
def fL_isLike_186 (r10 : Nat → Nat → Int32 → Int32 → Int32 → Int32 → AS → Option AR) : Nat → Nat → Nat → Int32 → Int32 → Int32 → Int32 → Int32 → AS → Option AR
  | 0, _, _, _, _, _, _, _, _ => none
  | n + 1, a0, a1, x2, x3, x4, x5, x8, s0 =>
    gR s0 a1 13 9 (fun q1 =>
    aI s0 q1 100 x5 (fun v2 =>
    if v2 ≤ x8 then (
      fL_isLike_227 r10 a0 a1 x2 x3 x4 x5 s0)
    else (
      cV s0 a0 10 (fX6_block a0 x5 x8 s0) (qI (fun v3 s4 =>
      gR s4 a1 13 7 (fun q5 =>
      aR s4 q5 110 x5 (fun q6 =>
      aI s4 q6 100 x8 (fun v7 =>
      if v3 = v7 then (
        lt (x8 + 1) (fun v8 =>
        fL_isLike_186 r10 n a0 a1 x2 x3 x4 x5 v8 s4))
      else (
        rZ 0 s4)))))))))
def fL_isLike_183 (r10 : Nat → Nat → Int32 → Int32 → Int32 → Int32 → AS → Option AR) (a0 : Nat) (a1 : Nat) (x2 : Int32) (x3 : Int32) (x4 : Int32) (x5 : Int32) (s0 : AS) : Option AR :=
  fL_isLike_186 r10 FU a0 a1 x2 x3 x4 x5 0 s0
def fL_isLike_152 (r10 : Nat → Nat → Int32 → Int32 → Int32 → Int32 → AS → Option AR) : Nat → Nat → Nat → Int32 → Int32 → Int32 → Int32 → Nat → Int32 → AS → Option AR
  | 0, _, _, _, _, _, _, _, _, _ => none
  | n + 1, a0, a1, x2, x3, x4, x5, a7, x8, s0 =>
    if (9 : Int32) ≤ x8 then (
      fL_isLike_183 r10 a0 a1 x2 x3 x4 x5 s0)
    else (
      cV s0 a0 10 (fX6_row a0 x5 x8 s0) (qI (fun v1 s2 =>
      aI s2 a7 100 x8 (fun v3 =>
      if v1 = v3 then (
        lt (x8 + 1) (fun v4 =>
        fL_isLike_152 r10 n a0 a1 x2 x3 x4 x5 a7 v4 s2))
      else (
        rZ 0 s2)))))
def fL_isLike_146 (r10 : Nat → Nat → Int32 → Int32 → Int32 → Int32 → AS → Option AR) (a0 : Nat) (a1 : Nat) (x2 : Int32) (x3 : Int32) (x4 : Int32) (x5 : Int32) (t0 : Nat) (t1 : Nat) (t2 : Int32) (t3 : Int32) (s0 : AS) : Option AR :=
  uI s0 t1 t2 t3 (fun s1 =>
  fL_isLike_152 r10 FU a0 a1 x2 x3 x4 x5 t0 0 s1)
def fL_isLike_36 (r10 : Nat → Nat → Int32 → Int32 → Int32 → Int32 → AS → Option AR) (a0 : Nat) (a1 : Nat) (x2 : Int32) (x3 : Int32) (x4 : Int32) (x5 : Int32) (t0 : Int32) (s0 : AS) : Option AR :=
  nA s0 100 9 (fun q1 s2 =>
  gR s2 a1 13 9 (fun q3 =>
  aI s2 q3 100 x5 (fun v4 =>
  uI s2 q1 0 v4 (fun s5 =>
  gR s5 a1 13 10 (fun q6 =>
  aI s5 q6 100 x5 (fun v7 =>
  uI s5 q1 1 v7 (fun s8 =>
  gR s8 a1 13 1 (fun q9 =>
  aI s8 q9 100 0 (fun v10 =>
  cV s8 a1 13 (fX19_gap a1 x5 s8) (qI (fun v11 s12 =>
  uI s12 q1 2 (v10 - v11) (fun s13 =>
  cV s13 a1 13 (fX19_gap a1 x5 s13) (qI (fun v14 s15 =>
  uI s15 q1 3 v14 (fun s16 =>
  gR s16 a1 13 11 (fun q17 =>
  aI s16 q17 100 x5 (fun v18 =>
  uI s16 q1 4 v18 (fun s19 =>
  gR s19 a1 13 13 (fun q20 =>
  aI s19 q20 100 x5 (fun v21 =>
  uI s19 q1 5 v21 (fun s22 =>
  cV s22 a1 13 (fX19_wood a1 x5 s22) (qI (fun v23 s24 =>
  uI s24 q1 6 v23 (fun s25 =>
  cV s25 a1 13 (fX19_blocksIn a1 x5 s25) (qI (fun v26 s27 =>
  uI s27 q1 7 v26 (fun s28 =>
  if t0 = 0 then (
    fL_isLike_146 r10 a0 a1 x2 x3 x4 x5 q1 q1 8 ((-1)) s28)
  else (
    gR s28 a1 13 12 (fun q29 =>
    aI s28 q29 100 x5 (fun v30 =>
    fL_isLike_146 r10 a0 a1 x2 x3 x4 x5 q1 q1 8 v30 s28))))))))))))))))))))))))))))))
def fL_isLike_10  : Nat → Nat → Nat → Int32 → Int32 → Int32 → Int32 → AS → Option AR
  | 0, _, _, _, _, _, _, _ => none
  | n + 1, a0, a1, x2, x3, x4, x5, s0 =>
    gR s0 a1 13 1 (fun q1 =>
    aI s0 q1 100 1 (fun v2 =>
    if v2 ≤ x5 then (
      fL_isLike_430 a0 a1 x2 x3 x4 s0)
    else (
      gR s0 a1 13 11 (fun q3 =>
      aI s0 q3 100 x5 (fun v4 =>
      if v4 < 0 then (
        fL_isLike_36 (fL_isLike_10 n) a0 a1 x2 x3 x4 x5 0 s0)
      else (
        fL_isLike_36 (fL_isLike_10 n) a0 a1 x2 x3 x4 x5 1 s0))))))
def fL_isLike (a0 : Nat) (a1 : Nat) (s0 : AS) : Option AR :=
  fL_isLike_10 FU a0 a1 0 0 0 0 s0
set_option maxHeartbeats 4000000 in
theorem oL_isLike_835 {Γ : CX} (C : OKC Γ cL_isLike RL (some (.boolean))) (T : ∀ z ∈ (cx_c Γ).exceptionTable.toList, False) (hn : cx_nL Γ = 9) (hR : cx_fr Γ = 12 ∧ cx_lo Γ = 301) (hin : (cx_meth Γ).name = yL_isLike.name) : ∀ (a0 : Nat) (a1 : Nat) (s0 : AS), OK Γ 835 [(0, .ref a0), (1, .ref a1)] [] (fL_isLike_835  a0 a1 s0) s0 := by
  intro a0 a1 s0
  unfold fL_isLike_835
  refine ok_aload_n C 0 dL_isLike_835 rfl ?_
  refine ok_iconst C (v := 2) dL_isLike_836 (by decide) ?_
  refine ok_iconst C (v := 2) dL_isLike_837 (by decide) ?_
  refine ok_newI C kw_136 dL_isLike_838 (fun q1 s2 => ?_)
  refine ok_dup C dL_isLike_840 rfl ?_
  refine ok_iconst C (v := 0) dL_isLike_841 (by decide) ?_
  refine ok_aload_n C 1 dL_isLike_842 rfl ?_
  refine ok_getNR C fnrL_134_13 dL_isLike_843 (fun q3 => ?_)
  refine ok_iconst C (v := 1) dL_isLike_846 (by decide) ?_
  refine ok_iald C dL_isLike_847 (fun v4 => ?_)
  refine ok_iast C dL_isLike_848 (fun s5 _ => ?_)
  refine ok_dup C dL_isLike_849 rfl ?_
  refine ok_iconst C (v := 1) dL_isLike_850 (by decide) ?_
  refine ok_iconst C (v := 0) dL_isLike_851 (by decide) ?_
  refine ok_iast C dL_isLike_852 (fun s6 _ => ?_)
  refine ok_callSW C [.ref a0, .int 2, .ref q1] (F := fL_thrown a0 2 q1) (ctL_thrown (C.2.2.2.2.2.2.2.2.1) a0 2 q1) vwL_189 rfl (by rw [hR.1, hR.2]; decide) (Nat.le_of_ble_eq_true rfl) dL_isLike_853 (ok_qI fun v7 s8 => ?_)
  refine ok_iconst C (v := 2) dL_isLike_856 (by decide) ?_
  refine ok_icmp_ne C 887 dL_isLike_857 (by decide) ?_ ?_
  · refine ok_iconst C (v := 0) dL_isLike_887 (by decide) ?_
    exact ok_zreturn C dL_isLike_888
  · refine ok_aload_n C 0 dL_isLike_860 rfl ?_
    refine ok_iconst C (v := 5) dL_isLike_861 (by decide) ?_
    refine ok_iconst C (v := 2) dL_isLike_862 (by decide) ?_
    refine ok_newI C kw_136 dL_isLike_863 (fun q9 s10 => ?_)
    refine ok_dup C dL_isLike_865 rfl ?_
    refine ok_iconst C (v := 0) dL_isLike_866 (by decide) ?_
    refine ok_aload_n C 1 dL_isLike_867 rfl ?_
    refine ok_getNI C fnrL_170_13 dL_isLike_868 (fun v11 => ?_)
    refine ok_iast C dL_isLike_871 (fun s12 _ => ?_)
    refine ok_dup C dL_isLike_872 rfl ?_
    refine ok_iconst C (v := 1) dL_isLike_873 (by decide) ?_
    refine ok_iconst C (v := 0) dL_isLike_874 (by decide) ?_
    refine ok_iast C dL_isLike_875 (fun s13 _ => ?_)
    refine ok_callSW C [.ref a0, .int 5, .ref q9] (F := fL_thrown a0 5 q9) (ctL_thrown (C.2.2.2.2.2.2.2.2.1) a0 5 q9) vwL_189 rfl (by rw [hR.1, hR.2]; decide) (Nat.le_of_ble_eq_true rfl) dL_isLike_876 (ok_qI fun v14 s15 => ?_)
    refine ok_iconst C (v := 2) dL_isLike_879 (by decide) ?_
    refine ok_icmp_ne C 887 dL_isLike_880 (by decide) ?_ ?_
    · refine ok_iconst C (v := 0) dL_isLike_887 (by decide) ?_
      exact ok_zreturn C dL_isLike_888
    · refine ok_iconst C (v := 1) dL_isLike_883 (by decide) ?_
      refine ok_goto C 888 dL_isLike_884 (by decide) ?_
      exact ok_zreturn C dL_isLike_888
set_option maxHeartbeats 4000000 in
theorem oL_isLike_806 {Γ : CX} (C : OKC Γ cL_isLike RL (some (.boolean))) (T : ∀ z ∈ (cx_c Γ).exceptionTable.toList, False) (hn : cx_nL Γ = 9) (hR : cx_fr Γ = 12 ∧ cx_lo Γ = 301) (hin : (cx_meth Γ).name = yL_isLike.name) : ∀ (n : Nat) (a0 : Nat) (a1 : Nat) (a6 : Nat) (x7 : Int32) (s0 : AS), OK Γ 806 [(0, .ref a0), (1, .ref a1), (6, .ref a6), (7, .int x7)] [] (fL_isLike_806 n a0 a1 a6 x7 s0) s0 := by
  intro n
  induction n with
  | zero => intro _ _ _ _ s0; exact OK.none
  | succ n ih =>
    intro a0 a1 a6 x7 s0
    rw [fL_isLike_806]
    refine ok_iload C 3 dL_isLike_806 rfl ?_
    refine ok_bipush C (v := 6) dL_isLike_808 (by decide) ?_
    refine ok_icmp_ge C 835 dL_isLike_810 (by decide) ?_ ?_
    · refine OK.sub (lv' := [(0, .ref a0), (1, .ref a1)]) [0, 1] rfl ?_
      exact oL_isLike_835 C T hn hR hin a0 a1 s0
    · refine ok_aload_n C 0 dL_isLike_813 rfl ?_
      refine ok_iload C 3 dL_isLike_814 rfl ?_
      refine ok_callV C T [.int x7] (F := fX6_setting a0 x7) (ctX6_setting (C.2.2.2.2.2.2.2.2.1) a0 x7) vlL_36 viX6_setting rfl rfl (by decide) rfl (by rw [hR.1, hR.2]; decide) (Nat.le_of_ble_eq_true rfl) dL_isLike_816 (ok_qI fun v1 s2 => ?_)
      refine ok_aload C 2 dL_isLike_819 rfl ?_
      refine ok_iload C 3 dL_isLike_821 rfl ?_
      refine ok_iald C dL_isLike_823 (fun v3 => ?_)
      refine ok_icmp_eq C 829 dL_isLike_824 (by decide) ?_ ?_
      · refine ok_iincL C 3 (c := 1) (fun v4 => [(7, .int v4), (0, .ref a0), (1, .ref a1), (6, .ref a6)]) dL_isLike_829 rfl rfl (by rw [hn]; decide) (fun _ => rfl) (fun v4 => ?_)
        refine ok_goto C 806 dL_isLike_832 (by decide) ?_
        refine OK.sub (lv' := [(0, .ref a0), (1, .ref a1), (6, .ref a6), (7, .int v4)]) [1, 2, 3, 0] rfl ?_
        exact ih a0 a1 a6 v4 s2
      · refine ok_iconst C (v := 0) dL_isLike_827 (by decide) ?_
        exact ok_zreturn C dL_isLike_828
set_option maxHeartbeats 4000000 in
theorem oL_isLike_742 {Γ : CX} (C : OKC Γ cL_isLike RL (some (.boolean))) (T : ∀ z ∈ (cx_c Γ).exceptionTable.toList, False) (hn : cx_nL Γ = 9) (hR : cx_fr Γ = 12 ∧ cx_lo Γ = 301) (hin : (cx_meth Γ).name = yL_isLike.name) : ∀ (a0 : Nat) (a1 : Nat) (s0 : AS), OK Γ 742 [(0, .ref a0), (1, .ref a1)] [] (fL_isLike_742  a0 a1 s0) s0 := by
  intro a0 a1 s0
  unfold fL_isLike_742
  refine ok_bipush C (v := 6) dL_isLike_742 (by decide) ?_
  refine ok_newI C kw_136 dL_isLike_744 (fun q1 s2 => ?_)
  refine ok_dup C dL_isLike_746 rfl ?_
  refine ok_iconst C (v := 0) dL_isLike_747 (by decide) ?_
  refine ok_aload_n C 1 dL_isLike_748 rfl ?_
  refine ok_getNR C fnrL_134_13 dL_isLike_749 (fun q3 => ?_)
  refine ok_iconst C (v := 0) dL_isLike_752 (by decide) ?_
  refine ok_iald C dL_isLike_753 (fun v4 => ?_)
  refine ok_iast C dL_isLike_754 (fun s5 _ => ?_)
  refine ok_dup C dL_isLike_755 rfl ?_
  refine ok_iconst C (v := 1) dL_isLike_756 (by decide) ?_
  refine ok_aload_n C 1 dL_isLike_757 rfl ?_
  refine ok_getNR C fnrL_134_13 dL_isLike_758 (fun q6 => ?_)
  refine ok_iconst C (v := 2) dL_isLike_761 (by decide) ?_
  refine ok_iald C dL_isLike_762 (fun v7 => ?_)
  refine ok_iast C dL_isLike_763 (fun s8 _ => ?_)
  refine ok_dup C dL_isLike_764 rfl ?_
  refine ok_iconst C (v := 2) dL_isLike_765 (by decide) ?_
  refine ok_aload_n C 1 dL_isLike_766 rfl ?_
  refine ok_getNR C fnrL_134_13 dL_isLike_767 (fun q9 => ?_)
  refine ok_iconst C (v := 3) dL_isLike_770 (by decide) ?_
  refine ok_iald C dL_isLike_771 (fun v10 => ?_)
  refine ok_iast C dL_isLike_772 (fun s11 _ => ?_)
  refine ok_dup C dL_isLike_773 rfl ?_
  refine ok_iconst C (v := 3) dL_isLike_774 (by decide) ?_
  refine ok_aload_n C 1 dL_isLike_775 rfl ?_
  refine ok_getNR C fnrL_134_13 dL_isLike_776 (fun q12 => ?_)
  refine ok_iconst C (v := 4) dL_isLike_779 (by decide) ?_
  refine ok_iald C dL_isLike_780 (fun v13 => ?_)
  refine ok_iast C dL_isLike_781 (fun s14 _ => ?_)
  refine ok_dup C dL_isLike_782 rfl ?_
  refine ok_iconst C (v := 4) dL_isLike_783 (by decide) ?_
  refine ok_aload_n C 1 dL_isLike_784 rfl ?_
  refine ok_getNR C fnrL_134_13 dL_isLike_785 (fun q15 => ?_)
  refine ok_iconst C (v := 5) dL_isLike_788 (by decide) ?_
  refine ok_iald C dL_isLike_789 (fun v16 => ?_)
  refine ok_iast C dL_isLike_790 (fun s17 _ => ?_)
  refine ok_dup C dL_isLike_791 rfl ?_
  refine ok_iconst C (v := 5) dL_isLike_792 (by decide) ?_
  refine ok_aload_n C 1 dL_isLike_793 rfl ?_
  refine ok_getNR C fnrL_134_13 dL_isLike_794 (fun q18 => ?_)
  refine ok_bipush C (v := 6) dL_isLike_797 (by decide) ?_
  refine ok_iald C dL_isLike_799 (fun v19 => ?_)
  refine ok_iast C dL_isLike_800 (fun s20 _ => ?_)
  refine ok_astore C (i := 6) [(6, .ref q1), (0, .ref a0), (1, .ref a1)] dL_isLike_801 (by rw [hn]; decide) rfl ?_
  refine ok_iconst C (v := 0) dL_isLike_803 (by decide) ?_
  refine ok_istore C (i := 7) [(7, .int 0), (6, .ref q1), (0, .ref a0), (1, .ref a1)] dL_isLike_804 (by rw [hn]; decide) rfl ?_
  refine OK.sub (lv' := [(0, .ref a0), (1, .ref a1), (6, .ref q1), (7, .int 0)]) [2, 3, 1, 0] rfl ?_
  exact oL_isLike_806 C T hn hR hin FU a0 a1 q1 0 s20
set_option maxHeartbeats 4000000 in
theorem oL_isLike_713 {Γ : CX} (C : OKC Γ cL_isLike RL (some (.boolean))) (T : ∀ z ∈ (cx_c Γ).exceptionTable.toList, False) (hn : cx_nL Γ = 9) (hR : cx_fr Γ = 12 ∧ cx_lo Γ = 301) (hin : (cx_meth Γ).name = yL_isLike.name) : ∀ (n : Nat) (a0 : Nat) (a1 : Nat) (a5 : Nat) (x6 : Int32) (s0 : AS), OK Γ 713 [(0, .ref a0), (1, .ref a1), (5, .ref a5), (6, .int x6)] [] (fL_isLike_713 n a0 a1 a5 x6 s0) s0 := by
  intro n
  induction n with
  | zero => intro _ _ _ _ s0; exact OK.none
  | succ n ih =>
    intro a0 a1 a5 x6 s0
    rw [fL_isLike_713]
    refine ok_iload C 3 dL_isLike_713 rfl ?_
    refine ok_bipush C (v := 12) dL_isLike_715 (by decide) ?_
    refine ok_icmp_ge C 742 dL_isLike_717 (by decide) ?_ ?_
    · refine OK.sub (lv' := [(0, .ref a0), (1, .ref a1)]) [0, 1] rfl ?_
      exact oL_isLike_742 C T hn hR hin a0 a1 s0
    · refine ok_aload_n C 0 dL_isLike_720 rfl ?_
      refine ok_iload C 3 dL_isLike_721 rfl ?_
      refine ok_callV C T [.int x6] (F := fX6_count a0 x6) (ctX6_count (C.2.2.2.2.2.2.2.2.1) a0 x6) vlL_33 viX6_count rfl rfl (by decide) rfl (by rw [hR.1, hR.2]; decide) (Nat.le_of_ble_eq_true rfl) dL_isLike_723 (ok_qI fun v1 s2 => ?_)
      refine ok_aload C 2 dL_isLike_726 rfl ?_
      refine ok_iload C 3 dL_isLike_728 rfl ?_
      refine ok_iald C dL_isLike_730 (fun v3 => ?_)
      refine ok_icmp_eq C 736 dL_isLike_731 (by decide) ?_ ?_
      · refine ok_iincL C 3 (c := 1) (fun v4 => [(6, .int v4), (0, .ref a0), (1, .ref a1), (5, .ref a5)]) dL_isLike_736 rfl rfl (by rw [hn]; decide) (fun _ => rfl) (fun v4 => ?_)
        refine ok_goto C 713 dL_isLike_739 (by decide) ?_
        refine OK.sub (lv' := [(0, .ref a0), (1, .ref a1), (5, .ref a5), (6, .int v4)]) [1, 2, 3, 0] rfl ?_
        exact ih a0 a1 a5 v4 s2
      · refine ok_iconst C (v := 0) dL_isLike_734 (by decide) ?_
        exact ok_zreturn C dL_isLike_735
set_option maxHeartbeats 4000000 in
theorem oL_isLike_610 {Γ : CX} (C : OKC Γ cL_isLike RL (some (.boolean))) (T : ∀ z ∈ (cx_c Γ).exceptionTable.toList, False) (hn : cx_nL Γ = 9) (hR : cx_fr Γ = 12 ∧ cx_lo Γ = 301) (hin : (cx_meth Γ).name = yL_isLike.name) : ∀ (a0 : Nat) (a1 : Nat) (x2 : Int32) (x3 : Int32) (x4 : Int32) (s0 : AS), OK Γ 610 [(0, .ref a0), (1, .ref a1), (2, .int x2), (3, .int x3), (4, .int x4)] [] (fL_isLike_610  a0 a1 x2 x3 x4 s0) s0 := by
  intro a0 a1 x2 x3 x4 s0
  unfold fL_isLike_610
  refine ok_bipush C (v := 12) dL_isLike_610 (by decide) ?_
  refine ok_newI C kw_136 dL_isLike_612 (fun q1 s2 => ?_)
  refine ok_dup C dL_isLike_614 rfl ?_
  refine ok_iconst C (v := 0) dL_isLike_615 (by decide) ?_
  refine ok_aload_n C 1 dL_isLike_616 rfl ?_
  refine ok_getNR C fnrL_134_13 dL_isLike_617 (fun q3 => ?_)
  refine ok_iconst C (v := 1) dL_isLike_620 (by decide) ?_
  refine ok_iald C dL_isLike_621 (fun v4 => ?_)
  refine ok_iast C dL_isLike_622 (fun s5 _ => ?_)
  refine ok_dup C dL_isLike_623 rfl ?_
  refine ok_iconst C (v := 1) dL_isLike_624 (by decide) ?_
  refine ok_aload_n C 1 dL_isLike_625 rfl ?_
  refine ok_getNI C fnrL_170_13 dL_isLike_626 (fun v6 => ?_)
  refine ok_iast C dL_isLike_629 (fun s7 _ => ?_)
  refine ok_dup C dL_isLike_630 rfl ?_
  refine ok_iconst C (v := 2) dL_isLike_631 (by decide) ?_
  refine ok_aload_n C 1 dL_isLike_632 rfl ?_
  refine ok_getNI C fnrL_197_13 dL_isLike_633 (fun v8 => ?_)
  refine ok_iast C dL_isLike_636 (fun s9 _ => ?_)
  refine ok_dup C dL_isLike_637 rfl ?_
  refine ok_iconst C (v := 3) dL_isLike_638 (by decide) ?_
  refine ok_iload_n C 2 dL_isLike_639 rfl ?_
  refine ok_iast C dL_isLike_640 (fun s10 _ => ?_)
  refine ok_dup C dL_isLike_641 rfl ?_
  refine ok_iconst C (v := 4) dL_isLike_642 (by decide) ?_
  refine ok_iload_n C 3 dL_isLike_643 rfl ?_
  refine ok_iast C dL_isLike_644 (fun s11 _ => ?_)
  refine ok_dup C dL_isLike_645 rfl ?_
  refine ok_iconst C (v := 5) dL_isLike_646 (by decide) ?_
  refine ok_aload_n C 1 dL_isLike_647 rfl ?_
  refine ok_callV C T [] (F := fX19_tight a1) (ctX19_tight (C.2.2.2.2.2.2.2.2.1) a1) vlL_200 viX19_tight rfl rfl (by decide) rfl (by rw [hR.1, hR.2]; decide) (Nat.le_of_ble_eq_true rfl) dL_isLike_648 (ok_qI fun v12 s13 => ?_)
  refine ok_iast C dL_isLike_651 (fun s14 _ => ?_)
  refine ok_dup C dL_isLike_652 rfl ?_
  refine ok_bipush C (v := 6) dL_isLike_653 (by decide) ?_
  refine ok_aload_n C 1 dL_isLike_655 rfl ?_
  refine ok_getNR C fnrL_203_13 dL_isLike_656 (fun q15 => ?_)
  refine ok_iconst C (v := 0) dL_isLike_659 (by decide) ?_
  refine ok_iald C dL_isLike_660 (fun v16 => ?_)
  refine ok_iast C dL_isLike_661 (fun s17 _ => ?_)
  refine ok_dup C dL_isLike_662 rfl ?_
  refine ok_bipush C (v := 7) dL_isLike_663 (by decide) ?_
  refine ok_aload_n C 1 dL_isLike_665 rfl ?_
  refine ok_getNR C fnrL_203_13 dL_isLike_666 (fun q18 => ?_)
  refine ok_iconst C (v := 1) dL_isLike_669 (by decide) ?_
  refine ok_iald C dL_isLike_670 (fun v19 => ?_)
  refine ok_iast C dL_isLike_671 (fun s20 _ => ?_)
  refine ok_dup C dL_isLike_672 rfl ?_
  refine ok_bipush C (v := 8) dL_isLike_673 (by decide) ?_
  refine ok_aload_n C 1 dL_isLike_675 rfl ?_
  refine ok_getNR C fnrL_203_13 dL_isLike_676 (fun q21 => ?_)
  refine ok_iconst C (v := 2) dL_isLike_679 (by decide) ?_
  refine ok_iald C dL_isLike_680 (fun v22 => ?_)
  refine ok_iast C dL_isLike_681 (fun s23 _ => ?_)
  refine ok_dup C dL_isLike_682 rfl ?_
  refine ok_bipush C (v := 9) dL_isLike_683 (by decide) ?_
  refine ok_aload_n C 1 dL_isLike_685 rfl ?_
  refine ok_getNR C fnrL_203_13 dL_isLike_686 (fun q24 => ?_)
  refine ok_iconst C (v := 3) dL_isLike_689 (by decide) ?_
  refine ok_iald C dL_isLike_690 (fun v25 => ?_)
  refine ok_iast C dL_isLike_691 (fun s26 _ => ?_)
  refine ok_dup C dL_isLike_692 rfl ?_
  refine ok_bipush C (v := 10) dL_isLike_693 (by decide) ?_
  refine ok_aload_n C 1 dL_isLike_695 rfl ?_
  refine ok_getNR C fnrL_203_13 dL_isLike_696 (fun q27 => ?_)
  refine ok_iconst C (v := 4) dL_isLike_699 (by decide) ?_
  refine ok_iald C dL_isLike_700 (fun v28 => ?_)
  refine ok_iast C dL_isLike_701 (fun s29 _ => ?_)
  refine ok_dup C dL_isLike_702 rfl ?_
  refine ok_bipush C (v := 11) dL_isLike_703 (by decide) ?_
  refine ok_iload C 4 dL_isLike_705 rfl ?_
  refine ok_iast C dL_isLike_707 (fun s30 _ => ?_)
  refine ok_astore C (i := 5) [(5, .ref q1), (0, .ref a0), (1, .ref a1), (2, .int x2), (3, .int x3), (4, .int x4)] dL_isLike_708 (by rw [hn]; decide) rfl ?_
  refine ok_iconst C (v := 0) dL_isLike_710 (by decide) ?_
  refine ok_istore C (i := 6) [(6, .int 0), (5, .ref q1), (0, .ref a0), (1, .ref a1), (2, .int x2), (3, .int x3), (4, .int x4)] dL_isLike_711 (by rw [hn]; decide) rfl ?_
  refine OK.sub (lv' := [(0, .ref a0), (1, .ref a1), (5, .ref q1), (6, .int 0)]) [2, 3, 1, 0] rfl ?_
  exact oL_isLike_713 C T hn hR hin FU a0 a1 q1 0 s30
set_option maxHeartbeats 4000000 in
theorem oL_isLike_592 {Γ : CX} (C : OKC Γ cL_isLike RL (some (.boolean))) (T : ∀ z ∈ (cx_c Γ).exceptionTable.toList, False) (hn : cx_nL Γ = 9) (hR : cx_fr Γ = 12 ∧ cx_lo Γ = 301) (hin : (cx_meth Γ).name = yL_isLike.name) {r433 : Nat → Nat → Int32 → Int32 → Int32 → Int32 → AS → Option AR} (h433 : ∀ (a0 : Nat) (a1 : Nat) (x2 : Int32) (x3 : Int32) (x4 : Int32) (x5 : Int32) (s0 : AS), OK Γ 433 [(0, .ref a0), (1, .ref a1), (2, .int x2), (3, .int x3), (4, .int x4), (5, .int x5)] [] (r433 a0 a1 x2 x3 x4 x5 s0) s0) : ∀ (a0 : Nat) (a1 : Nat) (x2 : Int32) (x3 : Int32) (x4 : Int32) (x5 : Int32) (s0 : AS), OK Γ 592 [(0, .ref a0), (1, .ref a1), (2, .int x2), (3, .int x3), (4, .int x4), (5, .int x5)] [] (fL_isLike_592 r433 a0 a1 x2 x3 x4 x5 s0) s0 := by
  intro a0 a1 x2 x3 x4 x5 s0
  unfold fL_isLike_592
  refine ok_iload C 4 dL_isLike_592 rfl ?_
  refine ok_aload_n C 1 dL_isLike_594 rfl ?_
  refine ok_getNR C fnrL_178_13 dL_isLike_595 (fun q1 => ?_)
  refine ok_iload C 5 dL_isLike_598 rfl ?_
  refine ok_iald C dL_isLike_600 (fun v2 => ?_)
  refine ok_iadd C dL_isLike_601 ?_
  refine ok_lt (fun v3 => ?_)
  refine ok_istore C (i := 4) [(4, .int v3), (0, .ref a0), (1, .ref a1), (2, .int x2), (3, .int x3), (5, .int x5)] dL_isLike_602 (by rw [hn]; decide) rfl ?_
  refine ok_iincL C 5 (c := 1) (fun v4 => [(5, .int v4), (4, .int v3), (0, .ref a0), (1, .ref a1), (2, .int x2), (3, .int x3)]) dL_isLike_604 rfl rfl (by rw [hn]; decide) (fun _ => rfl) (fun v4 => ?_)
  refine ok_goto C 433 dL_isLike_607 (by decide) ?_
  refine OK.sub (lv' := [(0, .ref a0), (1, .ref a1), (2, .int x2), (3, .int x3), (4, .int v3), (5, .int v4)]) [2, 3, 4, 5, 1, 0] rfl ?_
  exact h433 a0 a1 x2 x3 v3 v4 s0
set_option maxHeartbeats 4000000 in
theorem oL_isLike_562 {Γ : CX} (C : OKC Γ cL_isLike RL (some (.boolean))) (T : ∀ z ∈ (cx_c Γ).exceptionTable.toList, False) (hn : cx_nL Γ = 9) (hR : cx_fr Γ = 12 ∧ cx_lo Γ = 301) (hin : (cx_meth Γ).name = yL_isLike.name) {r433 : Nat → Nat → Int32 → Int32 → Int32 → Int32 → AS → Option AR} (h433 : ∀ (a0 : Nat) (a1 : Nat) (x2 : Int32) (x3 : Int32) (x4 : Int32) (x5 : Int32) (s0 : AS), OK Γ 433 [(0, .ref a0), (1, .ref a1), (2, .int x2), (3, .int x3), (4, .int x4), (5, .int x5)] [] (r433 a0 a1 x2 x3 x4 x5 s0) s0) : ∀ (n : Nat) (a0 : Nat) (a1 : Nat) (x2 : Int32) (x3 : Int32) (x4 : Int32) (x5 : Int32) (a7 : Nat) (x8 : Int32) (s0 : AS), OK Γ 562 [(0, .ref a0), (1, .ref a1), (2, .int x2), (3, .int x3), (4, .int x4), (5, .int x5), (7, .ref a7), (8, .int x8)] [] (fL_isLike_562 r433 n a0 a1 x2 x3 x4 x5 a7 x8 s0) s0 := by
  intro n
  induction n with
  | zero => intro _ _ _ _ _ _ _ _ s0; exact OK.none
  | succ n ih =>
    intro a0 a1 x2 x3 x4 x5 a7 x8 s0
    rw [fL_isLike_562]
    refine ok_iload C 7 dL_isLike_562 rfl ?_
    refine ok_iconst C (v := 4) dL_isLike_564 (by decide) ?_
    refine ok_icmp_ge C 592 dL_isLike_565 (by decide) ?_ ?_
    · refine OK.sub (lv' := [(0, .ref a0), (1, .ref a1), (2, .int x2), (3, .int x3), (4, .int x4), (5, .int x5)]) [0, 1, 2, 3, 4, 5] rfl ?_
      exact oL_isLike_592 C T hn hR hin h433 a0 a1 x2 x3 x4 x5 s0
    · refine ok_aload_n C 0 dL_isLike_568 rfl ?_
      refine ok_iload C 5 dL_isLike_569 rfl ?_
      refine ok_iload C 7 dL_isLike_571 rfl ?_
      refine ok_callV C T [.int x5, .int x8] (F := fX6_kind a0 x5 x8) (ctX6_kind (C.2.2.2.2.2.2.2.2.1) a0 x5 x8) vlL_49 viX6_kind rfl rfl (by decide) rfl (by rw [hR.1, hR.2]; decide) (Nat.le_of_ble_eq_true rfl) dL_isLike_573 (ok_qI fun v1 s2 => ?_)
      refine ok_aload C 6 dL_isLike_576 rfl ?_
      refine ok_iload C 7 dL_isLike_578 rfl ?_
      refine ok_iald C dL_isLike_580 (fun v3 => ?_)
      refine ok_icmp_eq C 586 dL_isLike_581 (by decide) ?_ ?_
      · refine ok_iincL C 7 (c := 1) (fun v4 => [(8, .int v4), (0, .ref a0), (1, .ref a1), (2, .int x2), (3, .int x3), (4, .int x4), (5, .int x5), (7, .ref a7)]) dL_isLike_586 rfl rfl (by rw [hn]; decide) (fun _ => rfl) (fun v4 => ?_)
        refine ok_goto C 562 dL_isLike_589 (by decide) ?_
        refine OK.sub (lv' := [(0, .ref a0), (1, .ref a1), (2, .int x2), (3, .int x3), (4, .int x4), (5, .int x5), (7, .ref a7), (8, .int v4)]) [1, 2, 3, 4, 5, 6, 7, 0] rfl ?_
        exact ih a0 a1 x2 x3 x4 x5 a7 v4 s2
      · refine ok_iconst C (v := 0) dL_isLike_584 (by decide) ?_
        exact ok_zreturn C dL_isLike_585
set_option maxHeartbeats 4000000 in
theorem oL_isLike_531 {Γ : CX} (C : OKC Γ cL_isLike RL (some (.boolean))) (T : ∀ z ∈ (cx_c Γ).exceptionTable.toList, False) (hn : cx_nL Γ = 9) (hR : cx_fr Γ = 12 ∧ cx_lo Γ = 301) (hin : (cx_meth Γ).name = yL_isLike.name) {r433 : Nat → Nat → Int32 → Int32 → Int32 → Int32 → AS → Option AR} (h433 : ∀ (a0 : Nat) (a1 : Nat) (x2 : Int32) (x3 : Int32) (x4 : Int32) (x5 : Int32) (s0 : AS), OK Γ 433 [(0, .ref a0), (1, .ref a1), (2, .int x2), (3, .int x3), (4, .int x4), (5, .int x5)] [] (r433 a0 a1 x2 x3 x4 x5 s0) s0) : ∀ (a0 : Nat) (a1 : Nat) (x2 : Int32) (x3 : Int32) (x4 : Int32) (x5 : Int32) (x6 : Int32) (t0 : Nat) (t1 : Nat) (t2 : Int32) (t3 : Int32) (s0 : AS), OK Γ 531 [(0, .ref a0), (1, .ref a1), (2, .int x2), (3, .int x3), (4, .int x4), (5, .int x5), (6, .int x6)] [.int t3, .int t2, .ref t1, .ref t0] (fL_isLike_531 r433 a0 a1 x2 x3 x4 x5 x6 t0 t1 t2 t3 s0) s0 := by
  intro a0 a1 x2 x3 x4 x5 x6 t0 t1 t2 t3 s0
  unfold fL_isLike_531
  refine ok_iast C dL_isLike_531 (fun s1 _ => ?_)
  refine ok_dup C dL_isLike_532 rfl ?_
  refine ok_iconst C (v := 1) dL_isLike_533 (by decide) ?_
  refine ok_aload_n C 1 dL_isLike_534 rfl ?_
  refine ok_getNR C fnrL_181_13 dL_isLike_535 (fun q2 => ?_)
  refine ok_iload C 5 dL_isLike_538 rfl ?_
  refine ok_iald C dL_isLike_540 (fun v3 => ?_)
  refine ok_iast C dL_isLike_541 (fun s4 _ => ?_)
  refine ok_dup C dL_isLike_542 rfl ?_
  refine ok_iconst C (v := 2) dL_isLike_543 (by decide) ?_
  refine ok_aload_n C 1 dL_isLike_544 rfl ?_
  refine ok_getNR C fnrL_178_13 dL_isLike_545 (fun q5 => ?_)
  refine ok_iload C 5 dL_isLike_548 rfl ?_
  refine ok_iald C dL_isLike_550 (fun v6 => ?_)
  refine ok_iast C dL_isLike_551 (fun s7 _ => ?_)
  refine ok_dup C dL_isLike_552 rfl ?_
  refine ok_iconst C (v := 3) dL_isLike_553 (by decide) ?_
  refine ok_iload C 6 dL_isLike_554 rfl ?_
  refine ok_iast C dL_isLike_556 (fun s8 _ => ?_)
  refine ok_astore C (i := 7) [(7, .ref t0), (0, .ref a0), (1, .ref a1), (2, .int x2), (3, .int x3), (4, .int x4), (5, .int x5), (6, .int x6)] dL_isLike_557 (by rw [hn]; decide) rfl ?_
  refine ok_iconst C (v := 0) dL_isLike_559 (by decide) ?_
  refine ok_istore C (i := 8) [(8, .int 0), (7, .ref t0), (0, .ref a0), (1, .ref a1), (2, .int x2), (3, .int x3), (4, .int x4), (5, .int x5), (6, .int x6)] dL_isLike_560 (by rw [hn]; decide) rfl ?_
  refine OK.sub (lv' := [(0, .ref a0), (1, .ref a1), (2, .int x2), (3, .int x3), (4, .int x4), (5, .int x5), (7, .ref t0), (8, .int 0)]) [2, 3, 4, 5, 6, 7, 1, 0] rfl ?_
  exact oL_isLike_562 C T hn hR hin h433 FU a0 a1 x2 x3 x4 x5 t0 0 s8
set_option maxHeartbeats 4000000 in
theorem oL_isLike_511 {Γ : CX} (C : OKC Γ cL_isLike RL (some (.boolean))) (T : ∀ z ∈ (cx_c Γ).exceptionTable.toList, False) (hn : cx_nL Γ = 9) (hR : cx_fr Γ = 12 ∧ cx_lo Γ = 301) (hin : (cx_meth Γ).name = yL_isLike.name) {r433 : Nat → Nat → Int32 → Int32 → Int32 → Int32 → AS → Option AR} (h433 : ∀ (a0 : Nat) (a1 : Nat) (x2 : Int32) (x3 : Int32) (x4 : Int32) (x5 : Int32) (s0 : AS), OK Γ 433 [(0, .ref a0), (1, .ref a1), (2, .int x2), (3, .int x3), (4, .int x4), (5, .int x5)] [] (r433 a0 a1 x2 x3 x4 x5 s0) s0) : ∀ (a0 : Nat) (a1 : Nat) (x2 : Int32) (x3 : Int32) (x4 : Int32) (x5 : Int32) (x6 : Int32) (s0 : AS), OK Γ 511 [(0, .ref a0), (1, .ref a1), (2, .int x2), (3, .int x3), (4, .int x4), (5, .int x5), (6, .int x6)] [] (fL_isLike_511 r433 a0 a1 x2 x3 x4 x5 x6 s0) s0 := by
  intro a0 a1 x2 x3 x4 x5 x6 s0
  unfold fL_isLike_511
  refine ok_iconst C (v := 4) dL_isLike_511 (by decide) ?_
  refine ok_newI C kw_136 dL_isLike_512 (fun q1 s2 => ?_)
  refine ok_dup C dL_isLike_514 rfl ?_
  refine ok_iconst C (v := 0) dL_isLike_515 (by decide) ?_
  refine ok_aload_n C 1 dL_isLike_516 rfl ?_
  refine ok_getNR C fnrL_193_13 dL_isLike_517 (fun q3 => ?_)
  refine ok_iload C 5 dL_isLike_520 rfl ?_
  refine ok_zald C dL_isLike_522 (fun v4 => ?_)
  refine ok_if_eq C 530 dL_isLike_523 (by decide) ?_ ?_
  · refine ok_iconst C (v := 0) dL_isLike_530 (by decide) ?_
    exact oL_isLike_531 C T hn hR hin h433 a0 a1 x2 x3 x4 x5 x6 q1 q1 0 0 s2
  · refine ok_iconst C (v := 1) dL_isLike_526 (by decide) ?_
    refine ok_goto C 531 dL_isLike_527 (by decide) ?_
    exact oL_isLike_531 C T hn hR hin h433 a0 a1 x2 x3 x4 x5 x6 q1 q1 0 1 s2
set_option maxHeartbeats 4000000 in
theorem oL_isLike_505 {Γ : CX} (C : OKC Γ cL_isLike RL (some (.boolean))) (T : ∀ z ∈ (cx_c Γ).exceptionTable.toList, False) (hn : cx_nL Γ = 9) (hR : cx_fr Γ = 12 ∧ cx_lo Γ = 301) (hin : (cx_meth Γ).name = yL_isLike.name) {r433 : Nat → Nat → Int32 → Int32 → Int32 → Int32 → AS → Option AR} {r448 : Nat → Nat → Int32 → Int32 → Int32 → Int32 → Int32 → Int32 → AS → Option AR} (h433 : ∀ (a0 : Nat) (a1 : Nat) (x2 : Int32) (x3 : Int32) (x4 : Int32) (x5 : Int32) (s0 : AS), OK Γ 433 [(0, .ref a0), (1, .ref a1), (2, .int x2), (3, .int x3), (4, .int x4), (5, .int x5)] [] (r433 a0 a1 x2 x3 x4 x5 s0) s0) (h448 : ∀ (a0 : Nat) (a1 : Nat) (x2 : Int32) (x3 : Int32) (x4 : Int32) (x5 : Int32) (x6 : Int32) (x7 : Int32) (s0 : AS), OK Γ 448 [(0, .ref a0), (1, .ref a1), (2, .int x2), (3, .int x3), (4, .int x4), (5, .int x5), (6, .int x6), (7, .int x7)] [] (r448 a0 a1 x2 x3 x4 x5 x6 x7 s0) s0) : ∀ (a0 : Nat) (a1 : Nat) (x2 : Int32) (x3 : Int32) (x4 : Int32) (x5 : Int32) (x6 : Int32) (x7 : Int32) (s0 : AS), OK Γ 505 [(0, .ref a0), (1, .ref a1), (2, .int x2), (3, .int x3), (4, .int x4), (5, .int x5), (6, .int x6), (7, .int x7)] [] (fL_isLike_505 r433 r448 a0 a1 x2 x3 x4 x5 x6 x7 s0) s0 := by
  intro a0 a1 x2 x3 x4 x5 x6 x7 s0
  unfold fL_isLike_505
  refine ok_iincL C 7 (c := 1) (fun v1 => [(7, .int v1), (0, .ref a0), (1, .ref a1), (2, .int x2), (3, .int x3), (4, .int x4), (5, .int x5), (6, .int x6)]) dL_isLike_505 rfl rfl (by rw [hn]; decide) (fun _ => rfl) (fun v1 => ?_)
  refine ok_goto C 448 dL_isLike_508 (by decide) ?_
  refine OK.sub (lv' := [(0, .ref a0), (1, .ref a1), (2, .int x2), (3, .int x3), (4, .int x4), (5, .int x5), (6, .int x6), (7, .int v1)]) [1, 2, 3, 4, 5, 6, 7, 0] rfl ?_
  exact h448 a0 a1 x2 x3 x4 x5 x6 v1 s0
set_option maxHeartbeats 4000000 in
theorem oL_isLike_496 {Γ : CX} (C : OKC Γ cL_isLike RL (some (.boolean))) (T : ∀ z ∈ (cx_c Γ).exceptionTable.toList, False) (hn : cx_nL Γ = 9) (hR : cx_fr Γ = 12 ∧ cx_lo Γ = 301) (hin : (cx_meth Γ).name = yL_isLike.name) {r433 : Nat → Nat → Int32 → Int32 → Int32 → Int32 → AS → Option AR} {r448 : Nat → Nat → Int32 → Int32 → Int32 → Int32 → Int32 → Int32 → AS → Option AR} {r462 : Nat → Nat → Int32 → Int32 → Int32 → Int32 → Int32 → Int32 → Int32 → AS → Option AR} (h433 : ∀ (a0 : Nat) (a1 : Nat) (x2 : Int32) (x3 : Int32) (x4 : Int32) (x5 : Int32) (s0 : AS), OK Γ 433 [(0, .ref a0), (1, .ref a1), (2, .int x2), (3, .int x3), (4, .int x4), (5, .int x5)] [] (r433 a0 a1 x2 x3 x4 x5 s0) s0) (h448 : ∀ (a0 : Nat) (a1 : Nat) (x2 : Int32) (x3 : Int32) (x4 : Int32) (x5 : Int32) (x6 : Int32) (x7 : Int32) (s0 : AS), OK Γ 448 [(0, .ref a0), (1, .ref a1), (2, .int x2), (3, .int x3), (4, .int x4), (5, .int x5), (6, .int x6), (7, .int x7)] [] (r448 a0 a1 x2 x3 x4 x5 x6 x7 s0) s0) (h462 : ∀ (a0 : Nat) (a1 : Nat) (x2 : Int32) (x3 : Int32) (x4 : Int32) (x5 : Int32) (x6 : Int32) (x7 : Int32) (x8 : Int32) (s0 : AS), OK Γ 462 [(0, .ref a0), (1, .ref a1), (2, .int x2), (3, .int x3), (4, .int x4), (5, .int x5), (6, .int x6), (7, .int x7), (8, .int x8)] [] (r462 a0 a1 x2 x3 x4 x5 x6 x7 x8 s0) s0) : ∀ (a0 : Nat) (a1 : Nat) (x2 : Int32) (x3 : Int32) (x4 : Int32) (x5 : Int32) (x7 : Int32) (x8 : Int32) (t0 : Int32) (t1 : Int32) (s0 : AS), OK Γ 496 [(0, .ref a0), (1, .ref a1), (2, .int x2), (3, .int x3), (4, .int x4), (5, .int x5), (7, .int x7), (8, .int x8)] [.int t1, .int t0] (fL_isLike_496 r433 r448 r462 a0 a1 x2 x3 x4 x5 x7 x8 t0 t1 s0) s0 := by
  intro a0 a1 x2 x3 x4 x5 x7 x8 t0 t1 s0
  unfold fL_isLike_496
  refine ok_iadd C dL_isLike_496 ?_
  refine ok_lt (fun v1 => ?_)
  refine ok_istore C (i := 6) [(6, .int v1), (0, .ref a0), (1, .ref a1), (2, .int x2), (3, .int x3), (4, .int x4), (5, .int x5), (7, .int x7), (8, .int x8)] dL_isLike_497 (by rw [hn]; decide) rfl ?_
  refine ok_iincL C 8 (c := 1) (fun v2 => [(8, .int v2), (6, .int v1), (0, .ref a0), (1, .ref a1), (2, .int x2), (3, .int x3), (4, .int x4), (5, .int x5), (7, .int x7)]) dL_isLike_499 rfl rfl (by rw [hn]; decide) (fun _ => rfl) (fun v2 => ?_)
  refine ok_goto C 462 dL_isLike_502 (by decide) ?_
  refine OK.sub (lv' := [(0, .ref a0), (1, .ref a1), (2, .int x2), (3, .int x3), (4, .int x4), (5, .int x5), (6, .int v1), (7, .int x7), (8, .int v2)]) [2, 3, 4, 5, 6, 7, 1, 8, 0] rfl ?_
  exact h462 a0 a1 x2 x3 x4 x5 v1 x7 v2 s0
set_option maxHeartbeats 4000000 in
theorem oL_isLike_462 {Γ : CX} (C : OKC Γ cL_isLike RL (some (.boolean))) (T : ∀ z ∈ (cx_c Γ).exceptionTable.toList, False) (hn : cx_nL Γ = 9) (hR : cx_fr Γ = 12 ∧ cx_lo Γ = 301) (hin : (cx_meth Γ).name = yL_isLike.name) {r433 : Nat → Nat → Int32 → Int32 → Int32 → Int32 → AS → Option AR} {r448 : Nat → Nat → Int32 → Int32 → Int32 → Int32 → Int32 → Int32 → AS → Option AR} (h433 : ∀ (a0 : Nat) (a1 : Nat) (x2 : Int32) (x3 : Int32) (x4 : Int32) (x5 : Int32) (s0 : AS), OK Γ 433 [(0, .ref a0), (1, .ref a1), (2, .int x2), (3, .int x3), (4, .int x4), (5, .int x5)] [] (r433 a0 a1 x2 x3 x4 x5 s0) s0) (h448 : ∀ (a0 : Nat) (a1 : Nat) (x2 : Int32) (x3 : Int32) (x4 : Int32) (x5 : Int32) (x6 : Int32) (x7 : Int32) (s0 : AS), OK Γ 448 [(0, .ref a0), (1, .ref a1), (2, .int x2), (3, .int x3), (4, .int x4), (5, .int x5), (6, .int x6), (7, .int x7)] [] (r448 a0 a1 x2 x3 x4 x5 x6 x7 s0) s0) : ∀ (n : Nat) (a0 : Nat) (a1 : Nat) (x2 : Int32) (x3 : Int32) (x4 : Int32) (x5 : Int32) (x6 : Int32) (x7 : Int32) (x8 : Int32) (s0 : AS), OK Γ 462 [(0, .ref a0), (1, .ref a1), (2, .int x2), (3, .int x3), (4, .int x4), (5, .int x5), (6, .int x6), (7, .int x7), (8, .int x8)] [] (fL_isLike_462 r433 r448 n a0 a1 x2 x3 x4 x5 x6 x7 x8 s0) s0 := by
  intro n
  induction n with
  | zero => intro _ _ _ _ _ _ _ _ _ s0; exact OK.none
  | succ n ih =>
    intro a0 a1 x2 x3 x4 x5 x6 x7 x8 s0
    rw [fL_isLike_462]
    refine ok_iload C 8 dL_isLike_462 rfl ?_
    refine ok_aload_n C 1 dL_isLike_464 rfl ?_
    refine ok_getNR C fnrL_145_13 dL_isLike_465 (fun q1 => ?_)
    refine ok_iload C 7 dL_isLike_468 rfl ?_
    refine ok_iald C dL_isLike_470 (fun v2 => ?_)
    refine ok_icmp_ge C 505 dL_isLike_471 (by decide) ?_ ?_
    · refine OK.sub (lv' := [(0, .ref a0), (1, .ref a1), (2, .int x2), (3, .int x3), (4, .int x4), (5, .int x5), (6, .int x6), (7, .int x7)]) [0, 1, 2, 3, 4, 5, 6, 7] rfl ?_
      exact oL_isLike_505 C T hn hR hin h433 h448 a0 a1 x2 x3 x4 x5 x6 x7 s0
    · refine ok_iload C 6 dL_isLike_474 rfl ?_
      refine ok_aload_n C 1 dL_isLike_476 rfl ?_
      refine ok_getNR C fnrL_167_13 dL_isLike_477 (fun q3 => ?_)
      refine ok_iload C 7 dL_isLike_480 rfl ?_
      refine ok_aaldI C dL_isLike_482 (fun q4 => ?_)
      refine ok_iload C 8 dL_isLike_483 rfl ?_
      refine ok_iald C dL_isLike_485 (fun v5 => ?_)
      refine ok_iload C 5 dL_isLike_486 rfl ?_
      refine ok_icmp_ne C 495 dL_isLike_488 (by decide) ?_ ?_
      · refine ok_iconst C (v := 0) dL_isLike_495 (by decide) ?_
        refine OK.sub (lv' := [(0, .ref a0), (1, .ref a1), (2, .int x2), (3, .int x3), (4, .int x4), (5, .int x5), (7, .int x7), (8, .int x8)]) [0, 1, 2, 3, 4, 5, 7, 8] rfl ?_
        exact oL_isLike_496 C T hn hR hin h433 h448 ih a0 a1 x2 x3 x4 x5 x7 x8 x6 0 s0
      · refine ok_iconst C (v := 1) dL_isLike_491 (by decide) ?_
        refine ok_goto C 496 dL_isLike_492 (by decide) ?_
        refine OK.sub (lv' := [(0, .ref a0), (1, .ref a1), (2, .int x2), (3, .int x3), (4, .int x4), (5, .int x5), (7, .int x7), (8, .int x8)]) [0, 1, 2, 3, 4, 5, 7, 8] rfl ?_
        exact oL_isLike_496 C T hn hR hin h433 h448 ih a0 a1 x2 x3 x4 x5 x7 x8 x6 1 s0
set_option maxHeartbeats 4000000 in
theorem oL_isLike_448 {Γ : CX} (C : OKC Γ cL_isLike RL (some (.boolean))) (T : ∀ z ∈ (cx_c Γ).exceptionTable.toList, False) (hn : cx_nL Γ = 9) (hR : cx_fr Γ = 12 ∧ cx_lo Γ = 301) (hin : (cx_meth Γ).name = yL_isLike.name) {r433 : Nat → Nat → Int32 → Int32 → Int32 → Int32 → AS → Option AR} (h433 : ∀ (a0 : Nat) (a1 : Nat) (x2 : Int32) (x3 : Int32) (x4 : Int32) (x5 : Int32) (s0 : AS), OK Γ 433 [(0, .ref a0), (1, .ref a1), (2, .int x2), (3, .int x3), (4, .int x4), (5, .int x5)] [] (r433 a0 a1 x2 x3 x4 x5 s0) s0) : ∀ (n : Nat) (a0 : Nat) (a1 : Nat) (x2 : Int32) (x3 : Int32) (x4 : Int32) (x5 : Int32) (x6 : Int32) (x7 : Int32) (s0 : AS), OK Γ 448 [(0, .ref a0), (1, .ref a1), (2, .int x2), (3, .int x3), (4, .int x4), (5, .int x5), (6, .int x6), (7, .int x7)] [] (fL_isLike_448 r433 n a0 a1 x2 x3 x4 x5 x6 x7 s0) s0 := by
  intro n
  induction n with
  | zero => intro _ _ _ _ _ _ _ _ s0; exact OK.none
  | succ n ih =>
    intro a0 a1 x2 x3 x4 x5 x6 x7 s0
    rw [fL_isLike_448]
    refine ok_iload C 7 dL_isLike_448 rfl ?_
    refine ok_aload_n C 1 dL_isLike_450 rfl ?_
    refine ok_getNR C fnrL_134_13 dL_isLike_451 (fun q1 => ?_)
    refine ok_iconst C (v := 1) dL_isLike_454 (by decide) ?_
    refine ok_iald C dL_isLike_455 (fun v2 => ?_)
    refine ok_icmp_ge C 511 dL_isLike_456 (by decide) ?_ ?_
    · refine OK.sub (lv' := [(0, .ref a0), (1, .ref a1), (2, .int x2), (3, .int x3), (4, .int x4), (5, .int x5), (6, .int x6)]) [0, 1, 2, 3, 4, 5, 6] rfl ?_
      exact oL_isLike_511 C T hn hR hin h433 a0 a1 x2 x3 x4 x5 x6 s0
    · refine ok_iconst C (v := 0) dL_isLike_459 (by decide) ?_
      refine ok_istore C (i := 8) [(8, .int 0), (0, .ref a0), (1, .ref a1), (2, .int x2), (3, .int x3), (4, .int x4), (5, .int x5), (6, .int x6), (7, .int x7)] dL_isLike_460 (by rw [hn]; decide) rfl ?_
      refine OK.sub (lv' := [(0, .ref a0), (1, .ref a1), (2, .int x2), (3, .int x3), (4, .int x4), (5, .int x5), (6, .int x6), (7, .int x7), (8, .int 0)]) [1, 2, 3, 4, 5, 6, 7, 8, 0] rfl ?_
      exact oL_isLike_462 C T hn hR hin h433 ih FU a0 a1 x2 x3 x4 x5 x6 x7 0 s0
set_option maxHeartbeats 4000000 in
theorem oL_isLike_433 {Γ : CX} (C : OKC Γ cL_isLike RL (some (.boolean))) (T : ∀ z ∈ (cx_c Γ).exceptionTable.toList, False) (hn : cx_nL Γ = 9) (hR : cx_fr Γ = 12 ∧ cx_lo Γ = 301) (hin : (cx_meth Γ).name = yL_isLike.name) : ∀ (n : Nat) (a0 : Nat) (a1 : Nat) (x2 : Int32) (x3 : Int32) (x4 : Int32) (x5 : Int32) (s0 : AS), OK Γ 433 [(0, .ref a0), (1, .ref a1), (2, .int x2), (3, .int x3), (4, .int x4), (5, .int x5)] [] (fL_isLike_433 n a0 a1 x2 x3 x4 x5 s0) s0 := by
  intro n
  induction n with
  | zero => intro _ _ _ _ _ _ s0; exact OK.none
  | succ n ih =>
    intro a0 a1 x2 x3 x4 x5 s0
    rw [fL_isLike_433]
    refine ok_iload C 5 dL_isLike_433 rfl ?_
    refine ok_aload_n C 1 dL_isLike_435 rfl ?_
    refine ok_getNI C fnrL_170_13 dL_isLike_436 (fun v1 => ?_)
    refine ok_icmp_ge C 610 dL_isLike_439 (by decide) ?_ ?_
    · refine OK.sub (lv' := [(0, .ref a0), (1, .ref a1), (2, .int x2), (3, .int x3), (4, .int x4)]) [0, 1, 2, 3, 4] rfl ?_
      exact oL_isLike_610 C T hn hR hin a0 a1 x2 x3 x4 s0
    · refine ok_iconst C (v := 0) dL_isLike_442 (by decide) ?_
      refine ok_istore C (i := 6) [(6, .int 0), (0, .ref a0), (1, .ref a1), (2, .int x2), (3, .int x3), (4, .int x4), (5, .int x5)] dL_isLike_443 (by rw [hn]; decide) rfl ?_
      refine ok_iconst C (v := 0) dL_isLike_445 (by decide) ?_
      refine ok_istore C (i := 7) [(7, .int 0), (6, .int 0), (0, .ref a0), (1, .ref a1), (2, .int x2), (3, .int x3), (4, .int x4), (5, .int x5)] dL_isLike_446 (by rw [hn]; decide) rfl ?_
      refine OK.sub (lv' := [(0, .ref a0), (1, .ref a1), (2, .int x2), (3, .int x3), (4, .int x4), (5, .int x5), (6, .int 0), (7, .int 0)]) [2, 3, 4, 5, 6, 7, 1, 0] rfl ?_
      exact oL_isLike_448 C T hn hR hin ih FU a0 a1 x2 x3 x4 x5 0 0 s0
set_option maxHeartbeats 4000000 in
theorem oL_isLike_430 {Γ : CX} (C : OKC Γ cL_isLike RL (some (.boolean))) (T : ∀ z ∈ (cx_c Γ).exceptionTable.toList, False) (hn : cx_nL Γ = 9) (hR : cx_fr Γ = 12 ∧ cx_lo Γ = 301) (hin : (cx_meth Γ).name = yL_isLike.name) : ∀ (a0 : Nat) (a1 : Nat) (x2 : Int32) (x3 : Int32) (x4 : Int32) (s0 : AS), OK Γ 430 [(0, .ref a0), (1, .ref a1), (2, .int x2), (3, .int x3), (4, .int x4)] [] (fL_isLike_430  a0 a1 x2 x3 x4 s0) s0 := by
  intro a0 a1 x2 x3 x4 s0
  unfold fL_isLike_430
  refine ok_iconst C (v := 0) dL_isLike_430 (by decide) ?_
  refine ok_istore C (i := 5) [(5, .int 0), (0, .ref a0), (1, .ref a1), (2, .int x2), (3, .int x3), (4, .int x4)] dL_isLike_431 (by rw [hn]; decide) rfl ?_
  refine OK.sub (lv' := [(0, .ref a0), (1, .ref a1), (2, .int x2), (3, .int x3), (4, .int x4), (5, .int 0)]) [1, 2, 3, 4, 5, 0] rfl ?_
  exact oL_isLike_433 C T hn hR hin FU a0 a1 x2 x3 x4 0 s0
set_option maxHeartbeats 4000000 in
theorem oL_isLike_333 {Γ : CX} (C : OKC Γ cL_isLike RL (some (.boolean))) (T : ∀ z ∈ (cx_c Γ).exceptionTable.toList, False) (hn : cx_nL Γ = 9) (hR : cx_fr Γ = 12 ∧ cx_lo Γ = 301) (hin : (cx_meth Γ).name = yL_isLike.name) {r10 : Nat → Nat → Int32 → Int32 → Int32 → Int32 → AS → Option AR} (h10 : ∀ (a0 : Nat) (a1 : Nat) (x2 : Int32) (x3 : Int32) (x4 : Int32) (x5 : Int32) (s0 : AS), OK Γ 10 [(0, .ref a0), (1, .ref a1), (2, .int x2), (3, .int x3), (4, .int x4), (5, .int x5)] [] (r10 a0 a1 x2 x3 x4 x5 s0) s0) : ∀ (a0 : Nat) (a1 : Nat) (x2 : Int32) (x3 : Int32) (x4 : Int32) (x5 : Int32) (s0 : AS), OK Γ 333 [(0, .ref a0), (1, .ref a1), (2, .int x2), (3, .int x3), (4, .int x4), (5, .int x5)] [] (fL_isLike_333 r10 a0 a1 x2 x3 x4 x5 s0) s0 := by
  intro a0 a1 x2 x3 x4 x5 s0
  unfold fL_isLike_333
  refine ok_aload_n C 0 dL_isLike_333 rfl ?_
  refine ok_iload C 5 dL_isLike_334 rfl ?_
  refine ok_callV C T [.int x5] (F := fX6_isTight a0 x5) (ctX6_isTight (C.2.2.2.2.2.2.2.2.1) a0 x5) vlL_184 viX6_isTight rfl rfl (by decide) rfl (by rw [hR.1, hR.2]; decide) (Nat.le_of_ble_eq_true rfl) dL_isLike_336 (ok_qI fun v1 s2 => ?_)
  refine ok_aload_n C 1 dL_isLike_339 rfl ?_
  refine ok_iload C 5 dL_isLike_340 rfl ?_
  refine ok_callV C T [.int x5] (F := fX19_isTight a1 x5) (ctX19_isTight (C.2.2.2.2.2.2.2.2.1) a1 x5) vlL_188 viX19_isTight rfl rfl (by decide) rfl (by rw [hR.1, hR.2]; decide) (Nat.le_of_ble_eq_true rfl) dL_isLike_342 (ok_qI fun v3 s4 => ?_)
  refine ok_icmp_ne C 402 dL_isLike_345 (by decide) ?_ ?_
  · refine ok_iconst C (v := 0) dL_isLike_402 (by decide) ?_
    exact ok_zreturn C dL_isLike_403
  · refine ok_aload_n C 0 dL_isLike_348 rfl ?_
    refine ok_iconst C (v := 3) dL_isLike_349 (by decide) ?_
    refine ok_iconst C (v := 2) dL_isLike_350 (by decide) ?_
    refine ok_newI C kw_136 dL_isLike_351 (fun q5 s6 => ?_)
    refine ok_dup C dL_isLike_353 rfl ?_
    refine ok_iconst C (v := 0) dL_isLike_354 (by decide) ?_
    refine ok_iload C 5 dL_isLike_355 rfl ?_
    refine ok_iast C dL_isLike_357 (fun s7 _ => ?_)
    refine ok_dup C dL_isLike_358 rfl ?_
    refine ok_iconst C (v := 1) dL_isLike_359 (by decide) ?_
    refine ok_aload_n C 1 dL_isLike_360 rfl ?_
    refine ok_getNR C fnrL_142_13 dL_isLike_361 (fun q8 => ?_)
    refine ok_iload C 5 dL_isLike_364 rfl ?_
    refine ok_iald C dL_isLike_366 (fun v9 => ?_)
    refine ok_iast C dL_isLike_367 (fun s10 _ => ?_)
    refine ok_callSW C [.ref a0, .int 3, .ref q5] (F := fL_thrown a0 3 q5) (ctL_thrown (C.2.2.2.2.2.2.2.2.1) a0 3 q5) vwL_189 rfl (by rw [hR.1, hR.2]; decide) (Nat.le_of_ble_eq_true rfl) dL_isLike_368 (ok_qI fun v11 s12 => ?_)
    refine ok_iconst C (v := 2) dL_isLike_371 (by decide) ?_
    refine ok_icmp_ne C 402 dL_isLike_372 (by decide) ?_ ?_
    · refine ok_iconst C (v := 0) dL_isLike_402 (by decide) ?_
      exact ok_zreturn C dL_isLike_403
    · refine ok_aload_n C 0 dL_isLike_375 rfl ?_
      refine ok_iconst C (v := 4) dL_isLike_376 (by decide) ?_
      refine ok_iconst C (v := 2) dL_isLike_377 (by decide) ?_
      refine ok_newI C kw_136 dL_isLike_378 (fun q13 s14 => ?_)
      refine ok_dup C dL_isLike_380 rfl ?_
      refine ok_iconst C (v := 0) dL_isLike_381 (by decide) ?_
      refine ok_iload C 5 dL_isLike_382 rfl ?_
      refine ok_iast C dL_isLike_384 (fun s15 _ => ?_)
      refine ok_dup C dL_isLike_385 rfl ?_
      refine ok_iconst C (v := 1) dL_isLike_386 (by decide) ?_
      refine ok_aload_n C 1 dL_isLike_387 rfl ?_
      refine ok_getNR C fnrL_145_13 dL_isLike_388 (fun q16 => ?_)
      refine ok_iload C 5 dL_isLike_391 rfl ?_
      refine ok_iald C dL_isLike_393 (fun v17 => ?_)
      refine ok_iast C dL_isLike_394 (fun s18 _ => ?_)
      refine ok_callSW C [.ref a0, .int 4, .ref q13] (F := fL_thrown a0 4 q13) (ctL_thrown (C.2.2.2.2.2.2.2.2.1) a0 4 q13) vwL_189 rfl (by rw [hR.1, hR.2]; decide) (Nat.le_of_ble_eq_true rfl) dL_isLike_395 (ok_qI fun v19 s20 => ?_)
      refine ok_iconst C (v := 2) dL_isLike_398 (by decide) ?_
      refine ok_icmp_eq C 404 dL_isLike_399 (by decide) ?_ ?_
      · refine ok_iload_n C 2 dL_isLike_404 rfl ?_
        refine ok_aload_n C 1 dL_isLike_405 rfl ?_
        refine ok_getNR C fnrL_142_13 dL_isLike_406 (fun q21 => ?_)
        refine ok_iload C 5 dL_isLike_409 rfl ?_
        refine ok_iald C dL_isLike_411 (fun v22 => ?_)
        refine ok_iadd C dL_isLike_412 ?_
        refine ok_lt (fun v23 => ?_)
        refine ok_istore_n C (i := 2) [(2, .int v23), (0, .ref a0), (1, .ref a1), (3, .int x3), (4, .int x4), (5, .int x5)] dL_isLike_413 rfl (by rw [hn]; decide) rfl ?_
        refine ok_iload_n C 3 dL_isLike_414 rfl ?_
        refine ok_aload_n C 2 dL_isLike_415 rfl ?_
        refine ok_getNR C fnrL_145_13 dL_isLike_416 (fun q24 => ?_)
        refine ok_iload C 5 dL_isLike_419 rfl ?_
        refine ok_iald C dL_isLike_421 (fun v25 => ?_)
        refine ok_iadd C dL_isLike_422 ?_
        refine ok_lt (fun v26 => ?_)
        refine ok_istore_n C (i := 3) [(3, .int v26), (2, .int v23), (0, .ref a0), (1, .ref a1), (4, .int x4), (5, .int x5)] dL_isLike_423 rfl (by rw [hn]; decide) rfl ?_
        refine ok_iincL C 5 (c := 1) (fun v27 => [(5, .int v27), (3, .int v26), (2, .int v23), (0, .ref a0), (1, .ref a1), (4, .int x4)]) dL_isLike_424 rfl rfl (by rw [hn]; decide) (fun _ => rfl) (fun v27 => ?_)
        refine ok_goto C 10 dL_isLike_427 (by decide) ?_
        refine OK.sub (lv' := [(0, .ref a0), (1, .ref a1), (2, .int v23), (3, .int v26), (4, .int x4), (5, .int v27)]) [3, 4, 2, 1, 5, 0] rfl ?_
        exact h10 a0 a1 v23 v26 x4 v27 s20
      · refine ok_iconst C (v := 0) dL_isLike_402 (by decide) ?_
        exact ok_zreturn C dL_isLike_403
set_option maxHeartbeats 4000000 in
theorem oL_isLike_322 {Γ : CX} (C : OKC Γ cL_isLike RL (some (.boolean))) (T : ∀ z ∈ (cx_c Γ).exceptionTable.toList, False) (hn : cx_nL Γ = 9) (hR : cx_fr Γ = 12 ∧ cx_lo Γ = 301) (hin : (cx_meth Γ).name = yL_isLike.name) {r10 : Nat → Nat → Int32 → Int32 → Int32 → Int32 → AS → Option AR} {r274 : Nat → Nat → Int32 → Int32 → Int32 → Int32 → Int32 → AS → Option AR} (h10 : ∀ (a0 : Nat) (a1 : Nat) (x2 : Int32) (x3 : Int32) (x4 : Int32) (x5 : Int32) (s0 : AS), OK Γ 10 [(0, .ref a0), (1, .ref a1), (2, .int x2), (3, .int x3), (4, .int x4), (5, .int x5)] [] (r10 a0 a1 x2 x3 x4 x5 s0) s0) (h274 : ∀ (a0 : Nat) (a1 : Nat) (x2 : Int32) (x3 : Int32) (x4 : Int32) (x5 : Int32) (x8 : Int32) (s0 : AS), OK Γ 274 [(0, .ref a0), (1, .ref a1), (2, .int x2), (3, .int x3), (4, .int x4), (5, .int x5), (8, .int x8)] [] (r274 a0 a1 x2 x3 x4 x5 x8 s0) s0) : ∀ (a0 : Nat) (a1 : Nat) (x2 : Int32) (x3 : Int32) (x4 : Int32) (x5 : Int32) (x8 : Int32) (t0 : Int32) (t1 : Int32) (s0 : AS), OK Γ 322 [(0, .ref a0), (1, .ref a1), (2, .int x2), (3, .int x3), (4, .int x4), (5, .int x5), (8, .int x8)] [.int t1, .int t0] (fL_isLike_322 r10 r274 a0 a1 x2 x3 x4 x5 x8 t0 t1 s0) s0 := by
  intro a0 a1 x2 x3 x4 x5 x8 t0 t1 s0
  unfold fL_isLike_322
  refine ok_icmp_eq C 327 dL_isLike_322 (by decide) ?_ ?_
  · refine ok_iincL C 6 (c := 1) (fun v1 => [(8, .int v1), (0, .ref a0), (1, .ref a1), (2, .int x2), (3, .int x3), (4, .int x4), (5, .int x5)]) dL_isLike_327 rfl rfl (by rw [hn]; decide) (fun _ => rfl) (fun v1 => ?_)
    refine ok_goto C 274 dL_isLike_330 (by decide) ?_
    refine OK.sub (lv' := [(0, .ref a0), (1, .ref a1), (2, .int x2), (3, .int x3), (4, .int x4), (5, .int x5), (8, .int v1)]) [1, 2, 3, 4, 5, 6, 0] rfl ?_
    exact h274 a0 a1 x2 x3 x4 x5 v1 s0
  · refine ok_iconst C (v := 0) dL_isLike_325 (by decide) ?_
    exact ok_zreturn C dL_isLike_326
set_option maxHeartbeats 4000000 in
theorem oL_isLike_321 {Γ : CX} (C : OKC Γ cL_isLike RL (some (.boolean))) (T : ∀ z ∈ (cx_c Γ).exceptionTable.toList, False) (hn : cx_nL Γ = 9) (hR : cx_fr Γ = 12 ∧ cx_lo Γ = 301) (hin : (cx_meth Γ).name = yL_isLike.name) {r10 : Nat → Nat → Int32 → Int32 → Int32 → Int32 → AS → Option AR} {r274 : Nat → Nat → Int32 → Int32 → Int32 → Int32 → Int32 → AS → Option AR} (h10 : ∀ (a0 : Nat) (a1 : Nat) (x2 : Int32) (x3 : Int32) (x4 : Int32) (x5 : Int32) (s0 : AS), OK Γ 10 [(0, .ref a0), (1, .ref a1), (2, .int x2), (3, .int x3), (4, .int x4), (5, .int x5)] [] (r10 a0 a1 x2 x3 x4 x5 s0) s0) (h274 : ∀ (a0 : Nat) (a1 : Nat) (x2 : Int32) (x3 : Int32) (x4 : Int32) (x5 : Int32) (x8 : Int32) (s0 : AS), OK Γ 274 [(0, .ref a0), (1, .ref a1), (2, .int x2), (3, .int x3), (4, .int x4), (5, .int x5), (8, .int x8)] [] (r274 a0 a1 x2 x3 x4 x5 x8 s0) s0) : ∀ (a0 : Nat) (a1 : Nat) (x2 : Int32) (x3 : Int32) (x4 : Int32) (x5 : Int32) (x8 : Int32) (t0 : Int32) (s0 : AS), OK Γ 321 [(0, .ref a0), (1, .ref a1), (2, .int x2), (3, .int x3), (4, .int x4), (5, .int x5), (8, .int x8)] [.int t0] (fL_isLike_321 r10 r274 a0 a1 x2 x3 x4 x5 x8 t0 s0) s0 := by
  intro a0 a1 x2 x3 x4 x5 x8 t0 s0
  unfold fL_isLike_321
  refine ok_iconst C (v := 0) dL_isLike_321 (by decide) ?_
  exact oL_isLike_322 C T hn hR hin h10 h274 a0 a1 x2 x3 x4 x5 x8 t0 0 s0
set_option maxHeartbeats 4000000 in
theorem oL_isLike_274 {Γ : CX} (C : OKC Γ cL_isLike RL (some (.boolean))) (T : ∀ z ∈ (cx_c Γ).exceptionTable.toList, False) (hn : cx_nL Γ = 9) (hR : cx_fr Γ = 12 ∧ cx_lo Γ = 301) (hin : (cx_meth Γ).name = yL_isLike.name) {r10 : Nat → Nat → Int32 → Int32 → Int32 → Int32 → AS → Option AR} (h10 : ∀ (a0 : Nat) (a1 : Nat) (x2 : Int32) (x3 : Int32) (x4 : Int32) (x5 : Int32) (s0 : AS), OK Γ 10 [(0, .ref a0), (1, .ref a1), (2, .int x2), (3, .int x3), (4, .int x4), (5, .int x5)] [] (r10 a0 a1 x2 x3 x4 x5 s0) s0) : ∀ (n : Nat) (a0 : Nat) (a1 : Nat) (x2 : Int32) (x3 : Int32) (x4 : Int32) (x5 : Int32) (x8 : Int32) (s0 : AS), OK Γ 274 [(0, .ref a0), (1, .ref a1), (2, .int x2), (3, .int x3), (4, .int x4), (5, .int x5), (8, .int x8)] [] (fL_isLike_274 r10 n a0 a1 x2 x3 x4 x5 x8 s0) s0 := by
  intro n
  induction n with
  | zero => intro _ _ _ _ _ _ _ s0; exact OK.none
  | succ n ih =>
    intro a0 a1 x2 x3 x4 x5 x8 s0
    rw [fL_isLike_274]
    refine ok_iload C 6 dL_isLike_274 rfl ?_
    refine ok_aload_n C 1 dL_isLike_276 rfl ?_
    refine ok_getNI C fnrL_170_13 dL_isLike_277 (fun v1 => ?_)
    refine ok_icmp_ge C 333 dL_isLike_280 (by decide) ?_ ?_
    · refine OK.sub (lv' := [(0, .ref a0), (1, .ref a1), (2, .int x2), (3, .int x3), (4, .int x4), (5, .int x5)]) [0, 1, 2, 3, 4, 5] rfl ?_
      exact oL_isLike_333 C T hn hR hin h10 a0 a1 x2 x3 x4 x5 s0
    · refine ok_aload_n C 0 dL_isLike_283 rfl ?_
      refine ok_iload C 5 dL_isLike_284 rfl ?_
      refine ok_iload C 6 dL_isLike_286 rfl ?_
      refine ok_callV C T [.int x5, .int x8] (F := fX6_canPut a0 x5 x8) (ctX6_canPut (C.2.2.2.2.2.2.2.2.1) a0 x5 x8) vlL_174 viX6_canPut rfl rfl (by decide) rfl (by rw [hR.1, hR.2]; decide) (Nat.le_of_ble_eq_true rfl) dL_isLike_288 (ok_qI fun v2 s3 => ?_)
      refine ok_aload_n C 1 dL_isLike_291 rfl ?_
      refine ok_getNR C fnrL_178_13 dL_isLike_292 (fun q4 => ?_)
      refine ok_iload C 6 dL_isLike_295 rfl ?_
      refine ok_iald C dL_isLike_297 (fun v5 => ?_)
      refine ok_if_le C 321 dL_isLike_298 (by decide) ?_ ?_
      · exact oL_isLike_321 C T hn hR hin h10 ih a0 a1 x2 x3 x4 x5 x8 v2 s3
      · refine ok_aload_n C 1 dL_isLike_301 rfl ?_
        refine ok_getNR C fnrL_181_13 dL_isLike_302 (fun q6 => ?_)
        refine ok_iload C 6 dL_isLike_305 rfl ?_
        refine ok_iald C dL_isLike_307 (fun v7 => ?_)
        refine ok_aload_n C 1 dL_isLike_308 rfl ?_
        refine ok_iload C 5 dL_isLike_309 rfl ?_
        refine ok_callV C T [.int x5] (F := fX19_gap a1 x5) (ctX19_gap (C.2.2.2.2.2.2.2.2.1) a1 x5) vlL_148 viX19_gap rfl rfl (by decide) rfl (by rw [hR.1, hR.2]; decide) (Nat.le_of_ble_eq_true rfl) dL_isLike_311 (ok_qI fun v8 s9 => ?_)
        refine ok_icmp_gt C 321 dL_isLike_314 (by decide) ?_ ?_
        · exact oL_isLike_321 C T hn hR hin h10 ih a0 a1 x2 x3 x4 x5 x8 v2 s9
        · refine ok_iconst C (v := 1) dL_isLike_317 (by decide) ?_
          refine ok_goto C 322 dL_isLike_318 (by decide) ?_
          exact oL_isLike_322 C T hn hR hin h10 ih a0 a1 x2 x3 x4 x5 x8 v2 1 s9
set_option maxHeartbeats 4000000 in
theorem oL_isLike_271 {Γ : CX} (C : OKC Γ cL_isLike RL (some (.boolean))) (T : ∀ z ∈ (cx_c Γ).exceptionTable.toList, False) (hn : cx_nL Γ = 9) (hR : cx_fr Γ = 12 ∧ cx_lo Γ = 301) (hin : (cx_meth Γ).name = yL_isLike.name) {r10 : Nat → Nat → Int32 → Int32 → Int32 → Int32 → AS → Option AR} (h10 : ∀ (a0 : Nat) (a1 : Nat) (x2 : Int32) (x3 : Int32) (x4 : Int32) (x5 : Int32) (s0 : AS), OK Γ 10 [(0, .ref a0), (1, .ref a1), (2, .int x2), (3, .int x3), (4, .int x4), (5, .int x5)] [] (r10 a0 a1 x2 x3 x4 x5 s0) s0) : ∀ (a0 : Nat) (a1 : Nat) (x2 : Int32) (x3 : Int32) (x4 : Int32) (x5 : Int32) (s0 : AS), OK Γ 271 [(0, .ref a0), (1, .ref a1), (2, .int x2), (3, .int x3), (4, .int x4), (5, .int x5)] [] (fL_isLike_271 r10 a0 a1 x2 x3 x4 x5 s0) s0 := by
  intro a0 a1 x2 x3 x4 x5 s0
  unfold fL_isLike_271
  refine ok_iconst C (v := 0) dL_isLike_271 (by decide) ?_
  refine ok_istore C (i := 8) [(8, .int 0), (0, .ref a0), (1, .ref a1), (2, .int x2), (3, .int x3), (4, .int x4), (5, .int x5)] dL_isLike_272 (by rw [hn]; decide) rfl ?_
  refine OK.sub (lv' := [(0, .ref a0), (1, .ref a1), (2, .int x2), (3, .int x3), (4, .int x4), (5, .int x5), (8, .int 0)]) [1, 2, 3, 4, 5, 6, 0] rfl ?_
  exact oL_isLike_274 C T hn hR hin h10 FU a0 a1 x2 x3 x4 x5 0 s0
set_option maxHeartbeats 4000000 in
theorem oL_isLike_230 {Γ : CX} (C : OKC Γ cL_isLike RL (some (.boolean))) (T : ∀ z ∈ (cx_c Γ).exceptionTable.toList, False) (hn : cx_nL Γ = 9) (hR : cx_fr Γ = 12 ∧ cx_lo Γ = 301) (hin : (cx_meth Γ).name = yL_isLike.name) {r10 : Nat → Nat → Int32 → Int32 → Int32 → Int32 → AS → Option AR} (h10 : ∀ (a0 : Nat) (a1 : Nat) (x2 : Int32) (x3 : Int32) (x4 : Int32) (x5 : Int32) (s0 : AS), OK Γ 10 [(0, .ref a0), (1, .ref a1), (2, .int x2), (3, .int x3), (4, .int x4), (5, .int x5)] [] (r10 a0 a1 x2 x3 x4 x5 s0) s0) : ∀ (n : Nat) (a0 : Nat) (a1 : Nat) (x2 : Int32) (x3 : Int32) (x4 : Int32) (x5 : Int32) (x8 : Int32) (s0 : AS), OK Γ 230 [(0, .ref a0), (1, .ref a1), (2, .int x2), (3, .int x3), (4, .int x4), (5, .int x5), (8, .int x8)] [] (fL_isLike_230 r10 n a0 a1 x2 x3 x4 x5 x8 s0) s0 := by
  intro n
  induction n with
  | zero => intro _ _ _ _ _ _ _ s0; exact OK.none
  | succ n ih =>
    intro a0 a1 x2 x3 x4 x5 x8 s0
    rw [fL_isLike_230]
    refine ok_iload C 6 dL_isLike_230 rfl ?_
    refine ok_aload_n C 1 dL_isLike_232 rfl ?_
    refine ok_getNR C fnrL_145_13 dL_isLike_233 (fun q1 => ?_)
    refine ok_iload C 5 dL_isLike_236 rfl ?_
    refine ok_iald C dL_isLike_238 (fun v2 => ?_)
    refine ok_icmp_ge C 271 dL_isLike_239 (by decide) ?_ ?_
    · refine OK.sub (lv' := [(0, .ref a0), (1, .ref a1), (2, .int x2), (3, .int x3), (4, .int x4), (5, .int x5)]) [0, 1, 2, 3, 4, 5] rfl ?_
      exact oL_isLike_271 C T hn hR hin h10 a0 a1 x2 x3 x4 x5 s0
    · refine ok_aload_n C 0 dL_isLike_242 rfl ?_
      refine ok_iload C 5 dL_isLike_243 rfl ?_
      refine ok_iload C 6 dL_isLike_245 rfl ?_
      refine ok_callV C T [.int x5, .int x8] (F := fX6_piece a0 x5 x8) (ctX6_piece (C.2.2.2.2.2.2.2.2.1) a0 x5 x8) vlL_46 viX6_piece rfl rfl (by decide) rfl (by rw [hR.1, hR.2]; decide) (Nat.le_of_ble_eq_true rfl) dL_isLike_247 (ok_qI fun v3 s4 => ?_)
      refine ok_aload_n C 1 dL_isLike_250 rfl ?_
      refine ok_getNR C fnrL_167_13 dL_isLike_251 (fun q5 => ?_)
      refine ok_iload C 5 dL_isLike_254 rfl ?_
      refine ok_aaldI C dL_isLike_256 (fun q6 => ?_)
      refine ok_iload C 6 dL_isLike_257 rfl ?_
      refine ok_iald C dL_isLike_259 (fun v7 => ?_)
      refine ok_icmp_eq C 265 dL_isLike_260 (by decide) ?_ ?_
      · refine ok_iincL C 6 (c := 1) (fun v8 => [(8, .int v8), (0, .ref a0), (1, .ref a1), (2, .int x2), (3, .int x3), (4, .int x4), (5, .int x5)]) dL_isLike_265 rfl rfl (by rw [hn]; decide) (fun _ => rfl) (fun v8 => ?_)
        refine ok_goto C 230 dL_isLike_268 (by decide) ?_
        refine OK.sub (lv' := [(0, .ref a0), (1, .ref a1), (2, .int x2), (3, .int x3), (4, .int x4), (5, .int x5), (8, .int v8)]) [1, 2, 3, 4, 5, 6, 0] rfl ?_
        exact ih a0 a1 x2 x3 x4 x5 v8 s4
      · refine ok_iconst C (v := 0) dL_isLike_263 (by decide) ?_
        exact ok_zreturn C dL_isLike_264
set_option maxHeartbeats 4000000 in
theorem oL_isLike_227 {Γ : CX} (C : OKC Γ cL_isLike RL (some (.boolean))) (T : ∀ z ∈ (cx_c Γ).exceptionTable.toList, False) (hn : cx_nL Γ = 9) (hR : cx_fr Γ = 12 ∧ cx_lo Γ = 301) (hin : (cx_meth Γ).name = yL_isLike.name) {r10 : Nat → Nat → Int32 → Int32 → Int32 → Int32 → AS → Option AR} (h10 : ∀ (a0 : Nat) (a1 : Nat) (x2 : Int32) (x3 : Int32) (x4 : Int32) (x5 : Int32) (s0 : AS), OK Γ 10 [(0, .ref a0), (1, .ref a1), (2, .int x2), (3, .int x3), (4, .int x4), (5, .int x5)] [] (r10 a0 a1 x2 x3 x4 x5 s0) s0) : ∀ (a0 : Nat) (a1 : Nat) (x2 : Int32) (x3 : Int32) (x4 : Int32) (x5 : Int32) (s0 : AS), OK Γ 227 [(0, .ref a0), (1, .ref a1), (2, .int x2), (3, .int x3), (4, .int x4), (5, .int x5)] [] (fL_isLike_227 r10 a0 a1 x2 x3 x4 x5 s0) s0 := by
  intro a0 a1 x2 x3 x4 x5 s0
  unfold fL_isLike_227
  refine ok_iconst C (v := 0) dL_isLike_227 (by decide) ?_
  refine ok_istore C (i := 8) [(8, .int 0), (0, .ref a0), (1, .ref a1), (2, .int x2), (3, .int x3), (4, .int x4), (5, .int x5)] dL_isLike_228 (by rw [hn]; decide) rfl ?_
  refine OK.sub (lv' := [(0, .ref a0), (1, .ref a1), (2, .int x2), (3, .int x3), (4, .int x4), (5, .int x5), (8, .int 0)]) [1, 2, 3, 4, 5, 6, 0] rfl ?_
  exact oL_isLike_230 C T hn hR hin h10 FU a0 a1 x2 x3 x4 x5 0 s0
set_option maxHeartbeats 4000000 in
theorem oL_isLike_186 {Γ : CX} (C : OKC Γ cL_isLike RL (some (.boolean))) (T : ∀ z ∈ (cx_c Γ).exceptionTable.toList, False) (hn : cx_nL Γ = 9) (hR : cx_fr Γ = 12 ∧ cx_lo Γ = 301) (hin : (cx_meth Γ).name = yL_isLike.name) {r10 : Nat → Nat → Int32 → Int32 → Int32 → Int32 → AS → Option AR} (h10 : ∀ (a0 : Nat) (a1 : Nat) (x2 : Int32) (x3 : Int32) (x4 : Int32) (x5 : Int32) (s0 : AS), OK Γ 10 [(0, .ref a0), (1, .ref a1), (2, .int x2), (3, .int x3), (4, .int x4), (5, .int x5)] [] (r10 a0 a1 x2 x3 x4 x5 s0) s0) : ∀ (n : Nat) (a0 : Nat) (a1 : Nat) (x2 : Int32) (x3 : Int32) (x4 : Int32) (x5 : Int32) (x8 : Int32) (s0 : AS), OK Γ 186 [(0, .ref a0), (1, .ref a1), (2, .int x2), (3, .int x3), (4, .int x4), (5, .int x5), (8, .int x8)] [] (fL_isLike_186 r10 n a0 a1 x2 x3 x4 x5 x8 s0) s0 := by
  intro n
  induction n with
  | zero => intro _ _ _ _ _ _ _ s0; exact OK.none
  | succ n ih =>
    intro a0 a1 x2 x3 x4 x5 x8 s0
    rw [fL_isLike_186]
    refine ok_iload C 6 dL_isLike_186 rfl ?_
    refine ok_aload_n C 1 dL_isLike_188 rfl ?_
    refine ok_getNR C fnrL_142_13 dL_isLike_189 (fun q1 => ?_)
    refine ok_iload C 5 dL_isLike_192 rfl ?_
    refine ok_iald C dL_isLike_194 (fun v2 => ?_)
    refine ok_icmp_ge C 227 dL_isLike_195 (by decide) ?_ ?_
    · refine OK.sub (lv' := [(0, .ref a0), (1, .ref a1), (2, .int x2), (3, .int x3), (4, .int x4), (5, .int x5)]) [0, 1, 2, 3, 4, 5] rfl ?_
      exact oL_isLike_227 C T hn hR hin h10 a0 a1 x2 x3 x4 x5 s0
    · refine ok_aload_n C 0 dL_isLike_198 rfl ?_
      refine ok_iload C 5 dL_isLike_199 rfl ?_
      refine ok_iload C 6 dL_isLike_201 rfl ?_
      refine ok_callV C T [.int x5, .int x8] (F := fX6_block a0 x5 x8) (ctX6_block (C.2.2.2.2.2.2.2.2.1) a0 x5 x8) vlL_43 viX6_block rfl rfl (by decide) rfl (by rw [hR.1, hR.2]; decide) (Nat.le_of_ble_eq_true rfl) dL_isLike_203 (ok_qI fun v3 s4 => ?_)
      refine ok_aload_n C 1 dL_isLike_206 rfl ?_
      refine ok_getNR C fnrL_163_13 dL_isLike_207 (fun q5 => ?_)
      refine ok_iload C 5 dL_isLike_210 rfl ?_
      refine ok_aaldI C dL_isLike_212 (fun q6 => ?_)
      refine ok_iload C 6 dL_isLike_213 rfl ?_
      refine ok_iald C dL_isLike_215 (fun v7 => ?_)
      refine ok_icmp_eq C 221 dL_isLike_216 (by decide) ?_ ?_
      · refine ok_iincL C 6 (c := 1) (fun v8 => [(8, .int v8), (0, .ref a0), (1, .ref a1), (2, .int x2), (3, .int x3), (4, .int x4), (5, .int x5)]) dL_isLike_221 rfl rfl (by rw [hn]; decide) (fun _ => rfl) (fun v8 => ?_)
        refine ok_goto C 186 dL_isLike_224 (by decide) ?_
        refine OK.sub (lv' := [(0, .ref a0), (1, .ref a1), (2, .int x2), (3, .int x3), (4, .int x4), (5, .int x5), (8, .int v8)]) [1, 2, 3, 4, 5, 6, 0] rfl ?_
        exact ih a0 a1 x2 x3 x4 x5 v8 s4
      · refine ok_iconst C (v := 0) dL_isLike_219 (by decide) ?_
        exact ok_zreturn C dL_isLike_220
set_option maxHeartbeats 4000000 in
theorem oL_isLike_183 {Γ : CX} (C : OKC Γ cL_isLike RL (some (.boolean))) (T : ∀ z ∈ (cx_c Γ).exceptionTable.toList, False) (hn : cx_nL Γ = 9) (hR : cx_fr Γ = 12 ∧ cx_lo Γ = 301) (hin : (cx_meth Γ).name = yL_isLike.name) {r10 : Nat → Nat → Int32 → Int32 → Int32 → Int32 → AS → Option AR} (h10 : ∀ (a0 : Nat) (a1 : Nat) (x2 : Int32) (x3 : Int32) (x4 : Int32) (x5 : Int32) (s0 : AS), OK Γ 10 [(0, .ref a0), (1, .ref a1), (2, .int x2), (3, .int x3), (4, .int x4), (5, .int x5)] [] (r10 a0 a1 x2 x3 x4 x5 s0) s0) : ∀ (a0 : Nat) (a1 : Nat) (x2 : Int32) (x3 : Int32) (x4 : Int32) (x5 : Int32) (s0 : AS), OK Γ 183 [(0, .ref a0), (1, .ref a1), (2, .int x2), (3, .int x3), (4, .int x4), (5, .int x5)] [] (fL_isLike_183 r10 a0 a1 x2 x3 x4 x5 s0) s0 := by
  intro a0 a1 x2 x3 x4 x5 s0
  unfold fL_isLike_183
  refine ok_iconst C (v := 0) dL_isLike_183 (by decide) ?_
  refine ok_istore C (i := 8) [(8, .int 0), (0, .ref a0), (1, .ref a1), (2, .int x2), (3, .int x3), (4, .int x4), (5, .int x5)] dL_isLike_184 (by rw [hn]; decide) rfl ?_
  refine OK.sub (lv' := [(0, .ref a0), (1, .ref a1), (2, .int x2), (3, .int x3), (4, .int x4), (5, .int x5), (8, .int 0)]) [1, 2, 3, 4, 5, 6, 0] rfl ?_
  exact oL_isLike_186 C T hn hR hin h10 FU a0 a1 x2 x3 x4 x5 0 s0
set_option maxHeartbeats 4000000 in
theorem oL_isLike_152 {Γ : CX} (C : OKC Γ cL_isLike RL (some (.boolean))) (T : ∀ z ∈ (cx_c Γ).exceptionTable.toList, False) (hn : cx_nL Γ = 9) (hR : cx_fr Γ = 12 ∧ cx_lo Γ = 301) (hin : (cx_meth Γ).name = yL_isLike.name) {r10 : Nat → Nat → Int32 → Int32 → Int32 → Int32 → AS → Option AR} (h10 : ∀ (a0 : Nat) (a1 : Nat) (x2 : Int32) (x3 : Int32) (x4 : Int32) (x5 : Int32) (s0 : AS), OK Γ 10 [(0, .ref a0), (1, .ref a1), (2, .int x2), (3, .int x3), (4, .int x4), (5, .int x5)] [] (r10 a0 a1 x2 x3 x4 x5 s0) s0) : ∀ (n : Nat) (a0 : Nat) (a1 : Nat) (x2 : Int32) (x3 : Int32) (x4 : Int32) (x5 : Int32) (a7 : Nat) (x8 : Int32) (s0 : AS), OK Γ 152 [(0, .ref a0), (1, .ref a1), (2, .int x2), (3, .int x3), (4, .int x4), (5, .int x5), (7, .ref a7), (8, .int x8)] [] (fL_isLike_152 r10 n a0 a1 x2 x3 x4 x5 a7 x8 s0) s0 := by
  intro n
  induction n with
  | zero => intro _ _ _ _ _ _ _ _ s0; exact OK.none
  | succ n ih =>
    intro a0 a1 x2 x3 x4 x5 a7 x8 s0
    rw [fL_isLike_152]
    refine ok_iload C 7 dL_isLike_152 rfl ?_
    refine ok_bipush C (v := 9) dL_isLike_154 (by decide) ?_
    refine ok_icmp_ge C 183 dL_isLike_156 (by decide) ?_ ?_
    · refine OK.sub (lv' := [(0, .ref a0), (1, .ref a1), (2, .int x2), (3, .int x3), (4, .int x4), (5, .int x5)]) [0, 1, 2, 3, 4, 5] rfl ?_
      exact oL_isLike_183 C T hn hR hin h10 a0 a1 x2 x3 x4 x5 s0
    · refine ok_aload_n C 0 dL_isLike_159 rfl ?_
      refine ok_iload C 5 dL_isLike_160 rfl ?_
      refine ok_iload C 7 dL_isLike_162 rfl ?_
      refine ok_callV C T [.int x5, .int x8] (F := fX6_row a0 x5 x8) (ctX6_row (C.2.2.2.2.2.2.2.2.1) a0 x5 x8) vlL_39 viX6_row rfl rfl (by decide) rfl (by rw [hR.1, hR.2]; decide) (Nat.le_of_ble_eq_true rfl) dL_isLike_164 (ok_qI fun v1 s2 => ?_)
      refine ok_aload C 6 dL_isLike_167 rfl ?_
      refine ok_iload C 7 dL_isLike_169 rfl ?_
      refine ok_iald C dL_isLike_171 (fun v3 => ?_)
      refine ok_icmp_eq C 177 dL_isLike_172 (by decide) ?_ ?_
      · refine ok_iincL C 7 (c := 1) (fun v4 => [(8, .int v4), (0, .ref a0), (1, .ref a1), (2, .int x2), (3, .int x3), (4, .int x4), (5, .int x5), (7, .ref a7)]) dL_isLike_177 rfl rfl (by rw [hn]; decide) (fun _ => rfl) (fun v4 => ?_)
        refine ok_goto C 152 dL_isLike_180 (by decide) ?_
        refine OK.sub (lv' := [(0, .ref a0), (1, .ref a1), (2, .int x2), (3, .int x3), (4, .int x4), (5, .int x5), (7, .ref a7), (8, .int v4)]) [1, 2, 3, 4, 5, 6, 7, 0] rfl ?_
        exact ih a0 a1 x2 x3 x4 x5 a7 v4 s2
      · refine ok_iconst C (v := 0) dL_isLike_175 (by decide) ?_
        exact ok_zreturn C dL_isLike_176
set_option maxHeartbeats 4000000 in
theorem oL_isLike_146 {Γ : CX} (C : OKC Γ cL_isLike RL (some (.boolean))) (T : ∀ z ∈ (cx_c Γ).exceptionTable.toList, False) (hn : cx_nL Γ = 9) (hR : cx_fr Γ = 12 ∧ cx_lo Γ = 301) (hin : (cx_meth Γ).name = yL_isLike.name) {r10 : Nat → Nat → Int32 → Int32 → Int32 → Int32 → AS → Option AR} (h10 : ∀ (a0 : Nat) (a1 : Nat) (x2 : Int32) (x3 : Int32) (x4 : Int32) (x5 : Int32) (s0 : AS), OK Γ 10 [(0, .ref a0), (1, .ref a1), (2, .int x2), (3, .int x3), (4, .int x4), (5, .int x5)] [] (r10 a0 a1 x2 x3 x4 x5 s0) s0) : ∀ (a0 : Nat) (a1 : Nat) (x2 : Int32) (x3 : Int32) (x4 : Int32) (x5 : Int32) (t0 : Nat) (t1 : Nat) (t2 : Int32) (t3 : Int32) (s0 : AS), OK Γ 146 [(0, .ref a0), (1, .ref a1), (2, .int x2), (3, .int x3), (4, .int x4), (5, .int x5)] [.int t3, .int t2, .ref t1, .ref t0] (fL_isLike_146 r10 a0 a1 x2 x3 x4 x5 t0 t1 t2 t3 s0) s0 := by
  intro a0 a1 x2 x3 x4 x5 t0 t1 t2 t3 s0
  unfold fL_isLike_146
  refine ok_iast C dL_isLike_146 (fun s1 _ => ?_)
  refine ok_astore C (i := 7) [(7, .ref t0), (0, .ref a0), (1, .ref a1), (2, .int x2), (3, .int x3), (4, .int x4), (5, .int x5)] dL_isLike_147 (by rw [hn]; decide) rfl ?_
  refine ok_iconst C (v := 0) dL_isLike_149 (by decide) ?_
  refine ok_istore C (i := 8) [(8, .int 0), (7, .ref t0), (0, .ref a0), (1, .ref a1), (2, .int x2), (3, .int x3), (4, .int x4), (5, .int x5)] dL_isLike_150 (by rw [hn]; decide) rfl ?_
  refine OK.sub (lv' := [(0, .ref a0), (1, .ref a1), (2, .int x2), (3, .int x3), (4, .int x4), (5, .int x5), (7, .ref t0), (8, .int 0)]) [2, 3, 4, 5, 6, 7, 1, 0] rfl ?_
  exact oL_isLike_152 C T hn hR hin h10 FU a0 a1 x2 x3 x4 x5 t0 0 s1
set_option maxHeartbeats 4000000 in
theorem oL_isLike_36 {Γ : CX} (C : OKC Γ cL_isLike RL (some (.boolean))) (T : ∀ z ∈ (cx_c Γ).exceptionTable.toList, False) (hn : cx_nL Γ = 9) (hR : cx_fr Γ = 12 ∧ cx_lo Γ = 301) (hin : (cx_meth Γ).name = yL_isLike.name) {r10 : Nat → Nat → Int32 → Int32 → Int32 → Int32 → AS → Option AR} (h10 : ∀ (a0 : Nat) (a1 : Nat) (x2 : Int32) (x3 : Int32) (x4 : Int32) (x5 : Int32) (s0 : AS), OK Γ 10 [(0, .ref a0), (1, .ref a1), (2, .int x2), (3, .int x3), (4, .int x4), (5, .int x5)] [] (r10 a0 a1 x2 x3 x4 x5 s0) s0) : ∀ (a0 : Nat) (a1 : Nat) (x2 : Int32) (x3 : Int32) (x4 : Int32) (x5 : Int32) (t0 : Int32) (s0 : AS), OK Γ 36 [(0, .ref a0), (1, .ref a1), (2, .int x2), (3, .int x3), (4, .int x4), (5, .int x5)] [.int t0] (fL_isLike_36 r10 a0 a1 x2 x3 x4 x5 t0 s0) s0 := by
  intro a0 a1 x2 x3 x4 x5 t0 s0
  unfold fL_isLike_36
  refine ok_istore C (i := 6) [(6, .int t0), (0, .ref a0), (1, .ref a1), (2, .int x2), (3, .int x3), (4, .int x4), (5, .int x5)] dL_isLike_36 (by rw [hn]; decide) rfl ?_
  refine ok_bipush C (v := 9) dL_isLike_38 (by decide) ?_
  refine ok_newI C kw_136 dL_isLike_40 (fun q1 s2 => ?_)
  refine ok_dup C dL_isLike_42 rfl ?_
  refine ok_iconst C (v := 0) dL_isLike_43 (by decide) ?_
  refine ok_aload_n C 2 dL_isLike_44 rfl ?_
  refine ok_getNR C fnrL_142_13 dL_isLike_45 (fun q3 => ?_)
  refine ok_iload C 6 dL_isLike_48 rfl ?_
  refine ok_iald C dL_isLike_50 (fun v4 => ?_)
  refine ok_iast C dL_isLike_51 (fun s5 _ => ?_)
  refine ok_dup C dL_isLike_52 rfl ?_
  refine ok_iconst C (v := 1) dL_isLike_53 (by decide) ?_
  refine ok_aload_n C 2 dL_isLike_54 rfl ?_
  refine ok_getNR C fnrL_145_13 dL_isLike_55 (fun q6 => ?_)
  refine ok_iload C 6 dL_isLike_58 rfl ?_
  refine ok_iald C dL_isLike_60 (fun v7 => ?_)
  refine ok_iast C dL_isLike_61 (fun s8 _ => ?_)
  refine ok_dup C dL_isLike_62 rfl ?_
  refine ok_iconst C (v := 2) dL_isLike_63 (by decide) ?_
  refine ok_aload_n C 2 dL_isLike_64 rfl ?_
  refine ok_getNR C fnrL_134_13 dL_isLike_65 (fun q9 => ?_)
  refine ok_iconst C (v := 0) dL_isLike_68 (by decide) ?_
  refine ok_iald C dL_isLike_69 (fun v10 => ?_)
  refine ok_aload_n C 2 dL_isLike_70 rfl ?_
  refine ok_iload C 6 dL_isLike_71 rfl ?_
  refine ok_callV C T [.int x5] (F := fX19_gap a1 x5) (ctX19_gap (C.2.2.2.2.2.2.2.2.1) a1 x5) vlL_148 viX19_gap rfl rfl (by decide) rfl (by rw [hR.1, hR.2]; decide) (Nat.le_of_ble_eq_true rfl) dL_isLike_73 (ok_qI fun v11 s12 => ?_)
  refine ok_isub C dL_isLike_76 ?_
  refine ok_iast C dL_isLike_77 (fun s13 _ => ?_)
  refine ok_dup C dL_isLike_78 rfl ?_
  refine ok_iconst C (v := 3) dL_isLike_79 (by decide) ?_
  refine ok_aload_n C 2 dL_isLike_80 rfl ?_
  refine ok_iload C 6 dL_isLike_81 rfl ?_
  refine ok_callV C T [.int x5] (F := fX19_gap a1 x5) (ctX19_gap (C.2.2.2.2.2.2.2.2.1) a1 x5) vlL_148 viX19_gap rfl rfl (by decide) rfl (by rw [hR.1, hR.2]; decide) (Nat.le_of_ble_eq_true rfl) dL_isLike_83 (ok_qI fun v14 s15 => ?_)
  refine ok_iast C dL_isLike_86 (fun s16 _ => ?_)
  refine ok_dup C dL_isLike_87 rfl ?_
  refine ok_iconst C (v := 4) dL_isLike_88 (by decide) ?_
  refine ok_aload_n C 2 dL_isLike_89 rfl ?_
  refine ok_getNR C fnrL_140_13 dL_isLike_90 (fun q17 => ?_)
  refine ok_iload C 6 dL_isLike_93 rfl ?_
  refine ok_iald C dL_isLike_95 (fun v18 => ?_)
  refine ok_iast C dL_isLike_96 (fun s19 _ => ?_)
  refine ok_dup C dL_isLike_97 rfl ?_
  refine ok_iconst C (v := 5) dL_isLike_98 (by decide) ?_
  refine ok_aload_n C 2 dL_isLike_99 rfl ?_
  refine ok_getNR C fnrL_151_13 dL_isLike_100 (fun q20 => ?_)
  refine ok_iload C 6 dL_isLike_103 rfl ?_
  refine ok_iald C dL_isLike_105 (fun v21 => ?_)
  refine ok_iast C dL_isLike_106 (fun s22 _ => ?_)
  refine ok_dup C dL_isLike_107 rfl ?_
  refine ok_bipush C (v := 6) dL_isLike_108 (by decide) ?_
  refine ok_aload_n C 2 dL_isLike_110 rfl ?_
  refine ok_iload C 6 dL_isLike_111 rfl ?_
  refine ok_callV C T [.int x5] (F := fX19_wood a1 x5) (ctX19_wood (C.2.2.2.2.2.2.2.2.1) a1 x5) vlL_154 viX19_wood rfl rfl (by decide) rfl (by rw [hR.1, hR.2]; decide) (Nat.le_of_ble_eq_true rfl) dL_isLike_113 (ok_qI fun v23 s24 => ?_)
  refine ok_iast C dL_isLike_116 (fun s25 _ => ?_)
  refine ok_dup C dL_isLike_117 rfl ?_
  refine ok_bipush C (v := 7) dL_isLike_118 (by decide) ?_
  refine ok_aload_n C 2 dL_isLike_120 rfl ?_
  refine ok_iload C 6 dL_isLike_121 rfl ?_
  refine ok_callV C T [.int x5] (F := fX19_blocksIn a1 x5) (ctX19_blocksIn (C.2.2.2.2.2.2.2.2.1) a1 x5) vlL_157 viX19_blocksIn rfl rfl (by decide) rfl (by rw [hR.1, hR.2]; decide) (Nat.le_of_ble_eq_true rfl) dL_isLike_123 (ok_qI fun v26 s27 => ?_)
  refine ok_iast C dL_isLike_126 (fun s28 _ => ?_)
  refine ok_dup C dL_isLike_127 rfl ?_
  refine ok_bipush C (v := 8) dL_isLike_128 (by decide) ?_
  refine ok_iload C 0 dL_isLike_130 rfl ?_
  refine ok_if_eq C 145 dL_isLike_132 (by decide) ?_ ?_
  · refine ok_iconst C (v := (-1)) dL_isLike_145 (by decide) ?_
    refine OK.sub (lv' := [(0, .ref a0), (1, .ref a1), (2, .int x2), (3, .int x3), (4, .int x4), (5, .int x5)]) [1, 2, 3, 4, 5, 6] rfl ?_
    exact oL_isLike_146 C T hn hR hin h10 a0 a1 x2 x3 x4 x5 q1 q1 8 ((-1)) s28
  · refine ok_aload_n C 2 dL_isLike_135 rfl ?_
    refine ok_getNR C fnrL_160_13 dL_isLike_136 (fun q29 => ?_)
    refine ok_iload C 6 dL_isLike_139 rfl ?_
    refine ok_iald C dL_isLike_141 (fun v30 => ?_)
    refine ok_goto C 146 dL_isLike_142 (by decide) ?_
    refine OK.sub (lv' := [(0, .ref a0), (1, .ref a1), (2, .int x2), (3, .int x3), (4, .int x4), (5, .int x5)]) [1, 2, 3, 4, 5, 6] rfl ?_
    exact oL_isLike_146 C T hn hR hin h10 a0 a1 x2 x3 x4 x5 q1 q1 8 v30 s28
set_option maxHeartbeats 4000000 in
theorem oL_isLike_10 {Γ : CX} (C : OKC Γ cL_isLike RL (some (.boolean))) (T : ∀ z ∈ (cx_c Γ).exceptionTable.toList, False) (hn : cx_nL Γ = 9) (hR : cx_fr Γ = 12 ∧ cx_lo Γ = 301) (hin : (cx_meth Γ).name = yL_isLike.name) : ∀ (n : Nat) (a0 : Nat) (a1 : Nat) (x2 : Int32) (x3 : Int32) (x4 : Int32) (x5 : Int32) (s0 : AS), OK Γ 10 [(0, .ref a0), (1, .ref a1), (2, .int x2), (3, .int x3), (4, .int x4), (5, .int x5)] [] (fL_isLike_10 n a0 a1 x2 x3 x4 x5 s0) s0 := by
  intro n
  induction n with
  | zero => intro _ _ _ _ _ _ s0; exact OK.none
  | succ n ih =>
    intro a0 a1 x2 x3 x4 x5 s0
    rw [fL_isLike_10]
    refine ok_iload C 5 dL_isLike_10 rfl ?_
    refine ok_aload_n C 1 dL_isLike_12 rfl ?_
    refine ok_getNR C fnrL_134_13 dL_isLike_13 (fun q1 => ?_)
    refine ok_iconst C (v := 1) dL_isLike_16 (by decide) ?_
    refine ok_iald C dL_isLike_17 (fun v2 => ?_)
    refine ok_icmp_ge C 430 dL_isLike_18 (by decide) ?_ ?_
    · refine OK.sub (lv' := [(0, .ref a0), (1, .ref a1), (2, .int x2), (3, .int x3), (4, .int x4)]) [0, 1, 2, 3, 4] rfl ?_
      exact oL_isLike_430 C T hn hR hin a0 a1 x2 x3 x4 s0
    · refine ok_aload_n C 1 dL_isLike_21 rfl ?_
      refine ok_getNR C fnrL_140_13 dL_isLike_22 (fun q3 => ?_)
      refine ok_iload C 5 dL_isLike_25 rfl ?_
      refine ok_iald C dL_isLike_27 (fun v4 => ?_)
      refine ok_if_lt C 35 dL_isLike_28 (by decide) ?_ ?_
      · refine ok_iconst C (v := 0) dL_isLike_35 (by decide) ?_
        exact oL_isLike_36 C T hn hR hin ih a0 a1 x2 x3 x4 x5 0 s0
      · refine ok_iconst C (v := 1) dL_isLike_31 (by decide) ?_
        refine ok_goto C 36 dL_isLike_32 (by decide) ?_
        exact oL_isLike_36 C T hn hR hin ih a0 a1 x2 x3 x4 x5 1 s0
set_option maxHeartbeats 4000000 in
theorem oL_isLike {Γ : CX} (C : OKC Γ cL_isLike RL (some (.boolean))) (T : ∀ z ∈ (cx_c Γ).exceptionTable.toList, False) (hn : cx_nL Γ = 9) (hR : cx_fr Γ = 12 ∧ cx_lo Γ = 301) (hin : (cx_meth Γ).name = yL_isLike.name) : ∀ (a0 : Nat) (a1 : Nat) (s0 : AS), OK Γ 0 [(0, .ref a0), (1, .ref a1)] [] (fL_isLike a0 a1 s0) s0 := by
  intro a0 a1 s0
  unfold fL_isLike
  refine ok_iconst C (v := 0) dL_isLike_0 (by decide) ?_
  refine ok_istore_n C (i := 2) [(2, .int 0), (0, .ref a0), (1, .ref a1)] dL_isLike_1 rfl (by rw [hn]; decide) rfl ?_
  refine ok_iconst C (v := 0) dL_isLike_2 (by decide) ?_
  refine ok_istore_n C (i := 3) [(3, .int 0), (2, .int 0), (0, .ref a0), (1, .ref a1)] dL_isLike_3 rfl (by rw [hn]; decide) rfl ?_
  refine ok_iconst C (v := 0) dL_isLike_4 (by decide) ?_
  refine ok_istore C (i := 4) [(4, .int 0), (3, .int 0), (2, .int 0), (0, .ref a0), (1, .ref a1)] dL_isLike_5 (by rw [hn]; decide) rfl ?_
  refine ok_iconst C (v := 0) dL_isLike_7 (by decide) ?_
  refine ok_istore C (i := 5) [(5, .int 0), (4, .int 0), (3, .int 0), (2, .int 0), (0, .ref a0), (1, .ref a1)] dL_isLike_8 (by rw [hn]; decide) rfl ?_
  refine OK.sub (lv' := [(0, .ref a0), (1, .ref a1), (2, .int 0), (3, .int 0), (4, .int 0), (5, .int 0)]) [4, 5, 3, 2, 1, 0] rfl ?_
  exact oL_isLike_10 C T hn hR hin FU a0 a1 0 0 0 0 s0
theorem ctL_isLike {l : Launch} (hl : l.stackTraces = false) {D : va_G} {dA : Nat → ClassId} {B0 : Nat} (a0 : Nat) (a1 : Nat) : Ct l D dA B0 yL_isLike (.code yL_isLike cL_isLike 9 (some (.boolean)) :: ax_ALL) 12 301 [.ref a0, .ref a1] (fL_isLike a0 a1) :=
  Ct.of hl (by decide +kernel) (Nat.le_of_ble_eq_true rfl) fun Γ C _ _ _ _ e5 e6 e7 T hin => oL_isLike C T e5 ⟨e6, e7⟩ hin a0 a1 _
