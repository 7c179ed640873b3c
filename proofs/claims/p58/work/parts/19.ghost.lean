/-! FUNCTIONS ALONE: of what stands in no code here (another claim's model, its wrappers, methods that this law calls not) -/
def fX4_findMissing_3  : Nat → Nat → Nat → Int32 → Int32 → Int32 → AS → Option AR
  | 0, _, _, _, _, _, _ => none
  | n + 1, a0, a1, x2, x3, x4, s0 =>
    gI s0 a1 5 7 (fun v1 =>
    if v1 ≤ x4 then (
      some (.inl (some (.int ((-1)))), s0))
    else (
      gR s0 a1 5 10 (fun q2 =>
      aI s0 q2 100 x4 (fun v3 =>
      gR s0 a0 8 3 (fun q4 =>
      aI s0 q4 100 v3 (fun v5 =>
      uI s0 q4 v3 (v5 + 1) (fun s6 =>
      cV s6 a0 8 (fX4_studyFrom a0 a1 x4 s6) (qV (fun s7 =>
      cV s7 a0 8 (fX4_choose a0 a1 x2 x3 s7) (qI (fun v8 s9 =>
      gR s9 a0 8 3 (fun q10 =>
      aI s9 q10 100 v3 (fun v11 =>
      uI s9 q10 v3 (v11 - 1) (fun s12 =>
      if v8 = 0 then (
        lt (x4 + 1) (fun v13 =>
        fX4_findMissing_3 n a0 a1 x2 x3 v13 s12))
      else (
        some (.inl (some (.int v3)), s12))))))))))))))))
def fX4_findMissing (a0 : Nat) (a1 : Nat) (x2 : Int32) (x3 : Int32) (s0 : AS) : Option AR :=
  fX4_findMissing_3 FU a0 a1 x2 x3 0 s0
def fX4_addWays_70 (r20 : Nat → Int32 → Int32 → Int32 → AS → Option AR) (a0 : Nat) (x1 : Int32) (x3 : Int32) (x4 : Int32) (x5 : Int32) (s0 : AS) : Option AR :=
  gR s0 a0 8 1 (fun q1 =>
  if (1000003 : Int32) = 0 then none else (
  uI s0 q1 x4 (x5 - x5 / 1000003 * 1000003) (fun s2 =>
  lt (x4 + 1) (fun v3 =>
  r20 a0 x1 x3 v3 s2))))
def fX4_addWays_20  : Nat → Nat → Int32 → Int32 → Int32 → AS → Option AR
  | 0, _, _, _, _, _ => none
  | n + 1, a0, x1, x3, x4, s0 =>
    if (500 : Int32) < x4 then (
      some (.inl none, s0))
    else (
      gR s0 a0 8 1 (fun q1 =>
      aI s0 q1 100 (x4 - x1) (fun v2 =>
      gR s0 a0 8 2 (fun q3 =>
      aI s0 q3 100 x4 (fun v4 =>
      lt (v2 + v4) (fun v5 =>
      if x4 < x3 then (
        fX4_addWays_70 (fX4_addWays_20 n) a0 x1 x3 x4 v5 s0)
      else (
        gR s0 a0 8 2 (fun q6 =>
        aI s0 q6 100 (x4 - x3) (fun v7 =>
        lt (v5 + (1000003 - v7)) (fun v8 =>
        fX4_addWays_70 (fX4_addWays_20 n) a0 x1 x3 x4 v8 s0))))))))))
def fX4_addWays (a0 : Nat) (x1 : Int32) (x2 : Int32) (s0 : AS) : Option AR :=
  lt (x1 * (x2 + 1)) (fun v1 =>
  if x1 < (1 : Int32) then (
    some (.inl none, s0))
  else (
    if (1 : Int32) ≤ v1 then (
      fX4_addWays_20 FU a0 x1 v1 x1 s0)
    else (
      some (.inl none, s0))))
def fX4_studyWays_32  : Nat → Nat → Nat → Int32 → AS → Option AR
  | 0, _, _, _, _ => none
  | n + 1, a0, a1, x2, s0 =>
    gI s0 a1 5 7 (fun v1 =>
    if v1 ≤ x2 then (
      some (.inl none, s0))
    else (
      gR s0 a0 8 1 (fun q2 =>
      gR s0 a0 8 2 (fun q3 =>
      cpI 100 .int s0 q2 0 q3 0 501 (fun s4 =>
      gR s4 a1 5 9 (fun q5 =>
      aI s4 q5 100 x2 (fun v6 =>
      gR s4 a0 8 3 (fun q7 =>
      aI s4 q7 100 x2 (fun v8 =>
      cV s4 a0 8 (fX4_addWays a0 v6 v8 s4) (qV (fun s9 =>
      lt (x2 + 1) (fun v10 =>
      fX4_studyWays_32 n a0 a1 v10 s9))))))))))))
def fX4_studyWays_30  (a0 : Nat) (a1 : Nat) (s0 : AS) : Option AR :=
  fX4_studyWays_32 FU a0 a1 0 s0
def fX4_studyWays_23 (r2 : Nat → Nat → Int32 → AS → Option AR) (a0 : Nat) (a1 : Nat) (x2 : Int32) (t0 : Nat) (t1 : Int32) (t2 : Int32) (s0 : AS) : Option AR :=
  uI s0 t0 t1 t2 (fun s1 =>
  lt (x2 + 1) (fun v2 =>
  r2 a0 a1 v2 s1))
def fX4_studyWays_2  : Nat → Nat → Nat → Int32 → AS → Option AR
  | 0, _, _, _, _ => none
  | n + 1, a0, a1, x2, s0 =>
    if (500 : Int32) < x2 then (
      fX4_studyWays_30 a0 a1 s0)
    else (
      gR s0 a0 8 1 (fun q1 =>
      if x2 = 0 then (
        fX4_studyWays_23 (fX4_studyWays_2 n) a0 a1 x2 q1 x2 1 s0)
      else (
        fX4_studyWays_23 (fX4_studyWays_2 n) a0 a1 x2 q1 x2 0 s0)))
def fX4_studyWays (a0 : Nat) (a1 : Nat) (s0 : AS) : Option AR :=
  fX4_studyWays_2 FU a0 a1 0 s0
def fX4_waysOf (a0 : Nat) (x1 : Int32) (s0 : AS) : Option AR :=
  if x1 < 0 then (
    some (.inl (some (.int 0)), s0))
  else (
    if (500 : Int32) < x1 then (
      some (.inl (some (.int 0)), s0))
    else (
      gR s0 a0 8 1 (fun q1 =>
      aI s0 q1 100 x1 (fun v2 =>
      some (.inl (some (.int v2)), s0)))))
def fX4_countWays_21  : Nat → Nat → Nat → Int32 → Int32 → Int32 → AS → Option AR
  | 0, _, _, _, _, _, _ => none
  | n + 1, a0, a1, x2, x4, x5, s0 =>
    gI s0 a1 5 3 (fun v1 =>
    if v1 < x5 then (
      some (.inl (some (.int x4)), s0))
    else (
      gI s0 a1 5 2 (fun v2 =>
      cV s0 a0 8 (fX4_waysOf a0 ((x2 - v2) - x5) s0) (qI (fun v3 s4 =>
      if (1000003 : Int32) = 0 then none else (
      lt ((x4 + v3) - (x4 + v3) / 1000003 * 1000003) (fun v5 =>
      lt (x5 + 1) (fun v6 =>
      fX4_countWays_21 n a0 a1 x2 v5 v6 s4))))))))
def fX4_countWays (a0 : Nat) (a1 : Nat) (x2 : Int32) (x3 : Int32) (s0 : AS) : Option AR :=
  cV s0 a0 8 (fX4_studyWays a0 a1 s0) (qV (fun s1 =>
  if x3 = 0 then (
    cV s1 a0 8 (fX4_waysOf a0 x2 s1) (qI (fun v2 s3 =>
    some (.inl (some (.int v2)), s3))))
  else (
    fX4_countWays_21 FU a0 a1 x2 0 0 s1)))
def fX6_buffered (a0 : Nat) (s0 : AS) : Option AR :=
  gR s0 a0 10 0 (fun q1 =>
  gI s0 q1 6 2 (fun v2 =>
  some (.inl (some (.int v2)), s0)))
def fX6_chosen (a0 : Nat) (x1 : Int32) (x2 : Int32) (s0 : AS) : Option AR :=
  cV s0 a0 10 (fX6_needRow a0 x1 s0) (qR (fun q1 s2 =>
  cV s2 a0 10 (fX6_needKind a0 x2 s2) (qV (fun s3 =>
  gR s3 a0 10 3 (fun q4 =>
  cV s3 a0 10 (fX6_solve a0 q4 q1 s3) (qI (fun v5 s6 =>
  if v5 = 0 then (
    some (.inl (some (.int ((-1)))), s6))
  else (
    gR s6 a0 10 1 (fun q7 =>
    gR s6 q7 8 4 (fun q8 =>
    aI s6 q8 100 x2 (fun v9 =>
    some (.inl (some (.int v9)), s6))))))))))))
def fX6_ways (a0 : Nat) (x1 : Int32) (s0 : AS) : Option AR :=
  cV s0 a0 10 (fX6_needRow a0 x1 s0) (qR (fun q1 s2 =>
  gR s2 a0 10 1 (fun q3 =>
  gR s2 a0 10 3 (fun q4 =>
  cV s2 q3 8 (fX4_stockFrom q3 q4 s2) (qV (fun s5 =>
  gR s5 a0 10 1 (fun q6 =>
  gR s5 a0 10 8 (fun q7 =>
  gR s5 a0 10 8 (fun q8 =>
  cV s5 q1 7 (fX3_roomIn q1 q8 s5) (qI (fun v9 s10 =>
  gR s10 a0 10 3 (fun q11 =>
  cV s10 q11 9 (fX5_canHaveQuoin q11 q1 s10) (qI (fun v12 s13 =>
  cV s13 q6 8 (fX4_countWays q6 q7 v9 v12 s13) (qI (fun v14 s15 =>
  some (.inl (some (.int v14)), s15)))))))))))))))))
def fX6_nearest_114  (x3 : Int32) (x4 : Int32) (s0 : AS) : Option AR :=
  lt (if (0 : Int32) < (x3 - x4) then (x3 - x4) else (0 : Int32)) (fun v1 =>
  some (.inl (some (.int v1)), s0))
def fX6_nearest_96  (x3 : Int32) (x4 : Int32) (x5 : Int32) (s0 : AS) : Option AR :=
  lt (if (0 : Int32) < ((x3 - x5) - x4) then ((x3 - x5) - x4) else (0 : Int32)) (fun v1 =>
  some (.inl (some (.int v1)), s0))
def fX6_nearest_79  : Nat → Nat → Int32 → Int32 → Int32 → AS → Option AR
  | 0, _, _, _, _, _ => none
  | n + 1, a0, x3, x4, x5, s0 =>
    if x5 ≤ 0 then (
      fX6_nearest_114 x3 x4 s0)
    else (
      gR s0 a0 10 1 (fun q1 =>
      cV s0 q1 8 (fX4_canMake q1 x5 s0) (qI (fun v2 s3 =>
      if v2 = 0 then (
        lt (x5 + (-1)) (fun v4 =>
        fX6_nearest_79 n a0 x3 x4 v4 s3))
      else (
        fX6_nearest_96 x3 x4 x5 s3)))))
def fX6_nearest_52  (a0 : Nat) (x3 : Int32) (t0 : Int32) (s0 : AS) : Option AR :=
  gR s0 a0 10 1 (fun q1 =>
  gR s0 a0 10 3 (fun q2 =>
  cV s0 q1 8 (fX4_stockFrom q1 q2 s0) (qV (fun s3 =>
  gR s3 a0 10 1 (fun q4 =>
  gR s3 a0 10 8 (fun q5 =>
  cV s3 q4 8 (fX4_study q4 q5 s3) (qV (fun s6 =>
  fX6_nearest_79 FU a0 x3 t0 x3 s6))))))))
def fX6_nearest_32  (a0 : Nat) (a2 : Nat) (t0 : Int32) (t1 : Int32) (s0 : AS) : Option AR :=
  lt (t0 - t1) (fun v1 =>
  cV s0 a2 7 (fX3_hasQuoin a2 s0) (qI (fun v2 s3 =>
  if v2 = 0 then (
    fX6_nearest_52 a0 v1 0 s3)
  else (
    gR s3 a0 10 8 (fun q4 =>
    gI s3 q4 5 3 (fun v5 =>
    fX6_nearest_52 a0 v1 v5 s3))))))
def fX6_nearest (a0 : Nat) (x1 : Int32) (s0 : AS) : Option AR :=
  cV s0 a0 10 (fX6_needRow a0 x1 s0) (qR (fun q1 s2 =>
  gR s2 a0 10 8 (fun q3 =>
  cV s2 q1 7 (fX3_roomIn q1 q3 s2) (qI (fun v4 s5 =>
  cV s5 q1 7 (fX3_hasQuoin q1 s5) (qI (fun v6 s7 =>
  if v6 = 0 then (
    fX6_nearest_32 a0 q1 v4 0 s7)
  else (
    gR s7 a0 10 8 (fun q8 =>
    gI s7 q8 5 2 (fun v9 =>
    fX6_nearest_32 a0 q1 v4 v9 s7))))))))))
def fX6_missing (a0 : Nat) (x1 : Int32) (s0 : AS) : Option AR :=
  cV s0 a0 10 (fX6_needRow a0 x1 s0) (qR (fun q1 s2 =>
  gR s2 a0 10 3 (fun q3 =>
  cV s2 a0 10 (fX6_solve a0 q3 q1 s2) (qI (fun v4 s5 =>
  if v4 = 0 then (
    gR s5 a0 10 1 (fun q6 =>
    gR s5 a0 10 8 (fun q7 =>
    gR s5 a0 10 8 (fun q8 =>
    cV s5 q1 7 (fX3_roomIn q1 q8 s5) (qI (fun v9 s10 =>
    gR s10 a0 10 3 (fun q11 =>
    cV s10 q11 9 (fX5_canHaveQuoin q11 q1 s10) (qI (fun v12 s13 =>
    cV s13 q6 8 (fX4_findMissing q6 q7 v9 v12 s13) (qI (fun v14 s15 =>
    some (.inl (some (.int v14)), s15))))))))))))
  else (
    some (.inl (some (.int ((-1)))), s5)))))))
def fX6_freshChoice (a0 : Nat) (x1 : Int32) (s0 : AS) : Option AR :=
  cV s0 a0 10 (fX6_needRow a0 x1 s0) (qR (fun q1 s2 =>
  gR s2 a0 10 4 (fun q3 =>
  gR s2 a0 10 3 (fun q4 =>
  cV s2 q3 9 (fX5_copyFrom q3 q4 s2) (qV (fun s5 =>
  gR s5 a0 10 4 (fun q6 =>
  cV s5 q6 9 (fX5_empty q6 x1 s5) (qV (fun s7 =>
  gR s7 a0 10 4 (fun q8 =>
  gR s7 a0 10 4 (fun q9 =>
  gR s7 q9 9 0 (fun q10 =>
  aR s7 q10 111 x1 (fun q11 =>
  cV s7 a0 10 (fX6_solve a0 q8 q11 s7) (qI (fun v12 s13 =>
  if v12 = 0 then (
    some (.inl (some (.int ((-1)))), s13))
  else (
    gR s13 a0 10 1 (fun q14 =>
    gI s13 q14 8 5 (fun v15 =>
    some (.inl (some (.int v15)), s13)))))))))))))))))))
def fX6_fallsIn_53  : Nat → Nat → Int32 → Int32 → Int32 → AS → Option AR
  | 0, _, _, _, _, _ => none
  | n + 1, a0, x4, x5, x6, s0 =>
    if (200 : Int32) < x6 then (
      some (.inl (some (.int ((-1)))), s0))
    else (
      lt (x5 + x4) (fun v1 =>
      gR s0 a0 10 8 (fun q2 =>
      gI s0 q2 5 6 (fun v3 =>
      if v1 ≤ v3 then (
        lt (x6 + 1) (fun v4 =>
        fX6_fallsIn_53 n a0 x4 v1 v4 s0))
      else (
        some (.inl (some (.int x6)), s0))))))
def fX6_fallsIn_38  (a0 : Nat) (a3 : Nat) (t0 : Int32) (s0 : AS) : Option AR :=
  gR s0 a0 10 8 (fun q1 =>
  cV s0 a3 7 (fX3_loosenessIn a3 q1 s0) (qI (fun v2 s3 =>
  fX6_fallsIn_53 FU a0 t0 v2 1 s3)))
def fX6_fallsIn (a0 : Nat) (x1 : Int32) (x2 : Int32) (s0 : AS) : Option AR :=
  cV s0 a0 10 (fX6_needRow a0 x1 s0) (qR (fun q1 s2 =>
  gI s2 q1 7 1 (fun v3 =>
  if v3 = 0 then (
    some (.inl (some (.int ((-1)))), s2))
  else (
    if x2 = 0 then (
      gR s2 a0 10 8 (fun q4 =>
      cV s2 q1 7 (fX3_growthInImpression q1 q4 s2) (qI (fun v5 s6 =>
      fX6_fallsIn_38 a0 q1 v5 s6))))
    else (
      gR s2 a0 10 8 (fun q7 =>
      cV s2 q1 7 (fX3_growthInDay q1 q7 s2) (qI (fun v8 s9 =>
      fX6_fallsIn_38 a0 q1 v8 s9))))))))
def fX6_lockable_87 (r30 : Nat → Int32 → Int32 → AS → Option AR) (a0 : Nat) (x1 : Int32) (x2 : Int32) (s0 : AS) : Option AR :=
  lt (x2 + 1) (fun v1 =>
  r30 a0 x1 v1 s0)
def fX6_lockable_30  : Nat → Nat → Int32 → Int32 → AS → Option AR
  | 0, _, _, _, _ => none
  | n + 1, a0, x1, x2, s0 =>
    gR s0 a0 10 8 (fun q1 =>
    gI s0 q1 5 1 (fun v2 =>
    if v2 ≤ x2 then (
      some (.inl (some (.int x1)), s0))
    else (
      gR s0 a0 10 3 (fun q3 =>
      gR s0 q3 9 0 (fun q4 =>
      aR s0 q4 111 x2 (fun q5 =>
      gR s0 a0 10 1 (fun q6 =>
      gR s0 a0 10 8 (fun q7 =>
      gR s0 a0 10 8 (fun q8 =>
      cV s0 q5 7 (fX3_roomIn q5 q8 s0) (qI (fun v9 s10 =>
      gR s10 a0 10 3 (fun q11 =>
      cV s10 q11 9 (fX5_canHaveQuoin q11 q5 s10) (qI (fun v12 s13 =>
      cV s13 q6 8 (fX4_choose q6 q7 v9 v12 s13) (qI (fun v14 s15 =>
      if v14 = 0 then (
        fX6_lockable_87 (fX6_lockable_30 n) a0 x1 x2 s15)
      else (
        lt (x1 ||| (1 <<< (x2 &&& 31))) (fun v16 =>
        fX6_lockable_87 (fX6_lockable_30 n) a0 v16 x2 s15))))))))))))))))))
def fX6_lockable (a0 : Nat) (s0 : AS) : Option AR :=
  cV s0 a0 10 (fX6_needChase a0 s0) (qV (fun s1 =>
  gR s1 a0 10 1 (fun q2 =>
  gR s1 a0 10 3 (fun q3 =>
  cV s1 q2 8 (fX4_stockFrom q2 q3 s1) (qV (fun s4 =>
  gR s4 a0 10 1 (fun q5 =>
  gR s4 a0 10 8 (fun q6 =>
  cV s4 q5 8 (fX4_study q5 q6 s4) (qV (fun s7 =>
  fX6_lockable_30 FU a0 0 0 s7))))))))))
def fX6_lockedAll_70  (a0 : Nat) (s0 : AS) : Option AR :=
  gR s0 a0 10 4 (fun q1 =>
  gR s0 a0 10 8 (fun q2 =>
  cV s0 q1 9 (fX5_tightRows q1 q2 s0) (qI (fun v3 s4 =>
  some (.inl (some (.int v3)), s4)))))
def fX6_lockedAll_64 (r17 : Nat → Int32 → AS → Option AR) (a0 : Nat) (x1 : Int32) (s0 : AS) : Option AR :=
  lt (x1 + 1) (fun v1 =>
  r17 a0 v1 s0)
def fX6_lockedAll_17  : Nat → Nat → Int32 → AS → Option AR
  | 0, _, _, _ => none
  | n + 1, a0, x1, s0 =>
    gR s0 a0 10 8 (fun q1 =>
    gI s0 q1 5 1 (fun v2 =>
    if v2 ≤ x1 then (
      fX6_lockedAll_70 a0 s0)
    else (
      gR s0 a0 10 4 (fun q3 =>
      gR s0 a0 10 4 (fun q4 =>
      gR s0 q4 9 0 (fun q5 =>
      aR s0 q5 111 x1 (fun q6 =>
      cV s0 a0 10 (fX6_solve a0 q3 q6 s0) (qI (fun v7 s8 =>
      if v7 = 0 then (
        fX6_lockedAll_64 (fX6_lockedAll_17 n) a0 x1 s8)
      else (
        gR s8 a0 10 4 (fun q9 =>
        gR s8 a0 10 8 (fun q10 =>
        gR s8 a0 10 1 (fun q11 =>
        cV s8 q9 9 (fX5_fill q9 q10 x1 q11 s8) (qV (fun s12 =>
        fX6_lockedAll_64 (fX6_lockedAll_17 n) a0 x1 s12)))))))))))))))
def fX6_lockedAll (a0 : Nat) (s0 : AS) : Option AR :=
  cV s0 a0 10 (fX6_needChase a0 s0) (qV (fun s1 =>
  gR s1 a0 10 4 (fun q2 =>
  gR s1 a0 10 3 (fun q3 =>
  cV s1 q2 9 (fX5_copyFrom q2 q3 s1) (qV (fun s4 =>
  fX6_lockedAll_17 FU a0 0 s4))))))
def fX6_writeChoice_147  (a0 : Nat) (s0 : AS) : Option AR :=
  gR s0 a0 10 7 (fun q1 =>
  cV s0 q1 1 (fJ4_length_8abf5 q1 s0) (qI (fun v2 s3 =>
  some (.inl (some (.int v2)), s3))))
def fX6_writeChoice_125  (a0 : Nat) (s0 : AS) : Option AR :=
  gR s0 a0 10 1 (fun q1 =>
  gI s0 q1 8 7 (fun v2 =>
  if v2 = (-1 : Int32) then (
    fX6_writeChoice_147 a0 s0)
  else (
    gR s0 a0 10 1 (fun q3 =>
    gI s0 q3 8 7 (fun v4 =>
    cV s0 a0 10 (fX6_writeOpening a0 v4 s0) (qV (fun s5 =>
    fX6_writeChoice_147 a0 s5)))))))
def fX6_writeChoice_119 (r46 : Nat → Int32 → AS → Option AR) (a0 : Nat) (x3 : Int32) (s0 : AS) : Option AR :=
  lt (x3 + 1) (fun v1 =>
  r46 a0 v1 s0)
def fX6_writeChoice_46  : Nat → Nat → Int32 → AS → Option AR
  | 0, _, _, _ => none
  | n + 1, a0, x3, s0 =>
    gR s0 a0 10 8 (fun q1 =>
    gI s0 q1 5 7 (fun v2 =>
    if v2 ≤ x3 then (
      fX6_writeChoice_125 a0 s0)
    else (
      gR s0 a0 10 8 (fun q3 =>
      gR s0 q3 5 10 (fun q4 =>
      aI s0 q4 100 x3 (fun v5 =>
      gR s0 a0 10 1 (fun q6 =>
      gR s0 q6 8 4 (fun q7 =>
      aI s0 q7 100 v5 (fun v8 =>
      if v8 ≤ 0 then (
        fX6_writeChoice_119 (fX6_writeChoice_46 n) a0 x3 s0)
      else (
        cV s0 a0 10 (fX6_writeGapBefore a0 s0) (qV (fun s9 =>
        gR s9 a0 10 7 (fun q10 =>
        gR s9 a0 10 1 (fun q11 =>
        gR s9 q11 8 4 (fun q12 =>
        aI s9 q12 100 v5 (fun v13 =>
        cV s9 q10 1 (fJ4_append_bf812 q10 v13 s9) (qR (fun q14 s15 =>
        gR s15 a0 10 7 (fun q16 =>
        cV s15 q16 1 (fJ4_append_cf468 q16 120 s15) (qR (fun q17 s18 =>
        cV s18 a0 10 (fX6_writeKind a0 v5 s18) (qV (fun s19 =>
        fX6_writeChoice_119 (fX6_writeChoice_46 n) a0 x3 s19)))))))))))))))))))))))
def fX6_writeChoice (a0 : Nat) (x1 : Int32) (s0 : AS) : Option AR :=
  cV s0 a0 10 (fX6_needRow a0 x1 s0) (qR (fun q1 s2 =>
  gR s2 a0 10 7 (fun q3 =>
  cV s2 q3 1 (fJ4_setLength_d00df q3 0 s2) (qV (fun s4 =>
  gR s4 a0 10 3 (fun q5 =>
  cV s4 a0 10 (fX6_solve a0 q5 q1 s4) (qI (fun v6 s7 =>
  if v6 = 0 then (
    gR s7 a0 10 7 (fun q8 =>
    cV s7 q8 1 (fJ4_append_cf468 q8 45 s7) (qR (fun q9 s10 =>
    gR s10 a0 10 7 (fun q11 =>
    cV s10 q11 1 (fJ4_length_8abf5 q11 s10) (qI (fun v12 s13 =>
    some (.inl (some (.int v12)), s13))))))))
  else (
    fX6_writeChoice_46 FU a0 0 s7)))))))))
def fX7_init (a0 : Nat) (s0 : AS) : Option AR :=
  nA s0 101 10 (fun q1 s2 =>
  sR s2 a0 11 10 q1 (fun s3 =>
  nA s3 100 10 (fun q4 s5 =>
  sR s5 a0 11 11 q4 (fun s6 =>
  nA s6 100 4112 (fun q7 s8 =>
  sR s8 a0 11 12 q7 (fun s9 =>
  nA s9 100 4112 (fun q10 s11 =>
  sR s11 a0 11 13 q10 (fun s12 =>
  nA s12 100 41120 (fun q13 s14 =>
  sR s14 a0 11 14 q13 (fun s15 =>
  nA s15 101 2 (fun q16 s17 =>
  sR s17 a0 11 16 q16 (fun s18 =>
  nA s18 100 500 (fun q19 s20 =>
  sR s20 a0 11 17 q19 (fun s21 =>
  sI s21 a0 11 20 ((-1)) (fun s22 =>
  nA s22 100 4112 (fun q23 s24 =>
  sR s24 a0 11 28 q23 (fun s25 =>
  nA s25 100 8 (fun q26 s27 =>
  sR s27 a0 11 29 q26 (fun s28 =>
  nA s28 100 10 (fun q29 s30 =>
  sR s30 a0 11 30 q29 (fun s31 =>
  nA s31 101 10 (fun q32 s33 =>
  sR s33 a0 11 31 q32 (fun s34 =>
  nA s34 100 10 (fun q35 s36 =>
  sR s36 a0 11 33 q35 (fun s37 =>
  nA s37 100 5511 (fun q38 s39 =>
  sR s39 a0 11 34 q38 (fun s40 =>
  nA s40 100 10 (fun q41 s42 =>
  sR s42 a0 11 35 q41 (fun s43 =>
  sI s43 a0 11 37 ((-1)) (fun s44 =>
  nA s44 100 501 (fun q45 s46 =>
  sR s46 a0 11 38 q45 (fun s47 =>
  nA s47 100 3000 (fun q48 s49 =>
  sR s49 a0 11 39 q48 (fun s50 =>
  some (.inl none, s50)))))))))))))))))))))))))))))))))))
def fX7_thrown (a0 : Nat) (s0 : AS) : Option AR :=
  gI s0 a0 11 0 (fun v1 =>
  some (.inl (some (.int v1)), s0))
def fX7_in (x0 : Int32) (x1 : Int32) (x2 : Int32) (s0 : AS) : Option AR :=
  if x0 < x1 then (
    rZ 0 s0)
  else (
    if x2 < x0 then (
      rZ 0 s0)
    else (
      rZ 1 s0))
def fX7_flag (x0 : Int32) (s0 : AS) : Option AR :=
  if x0 = 0 then (
    some (.inl (some (.int 0)), s0))
  else (
    some (.inl (some (.int 1)), s0))
def fX7_refuse_16  (a0 : Nat) (s0 : AS) : Option AR :=
  gI s0 a0 11 0 (fun v1 =>
  if v1 = 0 then (
    rZ 0 s0)
  else (
    rZ 1 s0))
def fX7_refuse (a0 : Nat) (x1 : Int32) (x2 : Int32) (s0 : AS) : Option AR :=
  gI s0 a0 11 0 (fun v1 =>
  if v1 = 0 then (
    if x1 = 0 then (
      fX7_refuse_16 a0 s0)
    else (
      sI s0 a0 11 0 x2 (fun s2 =>
      fX7_refuse_16 a0 s2)))
  else (
    fX7_refuse_16 a0 s0))
def fX7_notLoaded_18  (t0 : Nat) (t1 : Int32) (s0 : AS) : Option AR :=
  cV s0 t0 11 (fX7_refuse t0 t1 1 s0) (qI (fun v1 s2 =>
  rZ v1 s2))
def fX7_notLoaded (a0 : Nat) (s0 : AS) : Option AR :=
  sI s0 a0 11 0 0 (fun s1 =>
  gI s1 a0 11 1 (fun v2 =>
  if v2 = 0 then (
    fX7_notLoaded_18 a0 1 s1)
  else (
    fX7_notLoaded_18 a0 0 s1)))
def fX7_append_113  (a0 : Nat) (s0 : AS) : Option AR :=
  gI s0 a0 11 18 (fun v1 =>
  sI s0 a0 11 18 (v1 + 20) (fun s2 =>
  gI s2 a0 11 18 (fun v3 =>
  some (.inl (some (.int v3)), s2))))
def fX7_append_76 (r23 : Nat → Int32 → Int32 → Int32 → Int32 → Int32 → Int32 → AS → Option AR) (a0 : Nat) (x1 : Int32) (x2 : Int32) (x3 : Int32) (x4 : Int32) (x5 : Int32) (x6 : Int32) (t0 : Int32) (s0 : AS) : Option AR :=
  gR s0 a0 11 17 (fun q1 =>
  gI s0 a0 11 18 (fun v2 =>
  if (4 : Int32) = 0 then none else (
  uI s0 q1 (v2 + x6) ((t0 >>> ((24 - (8 * (x6 - x6 / 4 * 4))) &&& 31)) &&& 255) (fun s3 =>
  lt (x6 + 1) (fun v4 =>
  r23 a0 x1 x2 x3 x4 x5 v4 s3)))))
def fX7_append_23  : Nat → Nat → Int32 → Int32 → Int32 → Int32 → Int32 → Int32 → AS → Option AR
  | 0, _, _, _, _, _, _, _, _ => none
  | n + 1, a0, x1, x2, x3, x4, x5, x6, s0 =>
    if (20 : Int32) ≤ x6 then (
      fX7_append_113 a0 s0)
    else (
      if (4 : Int32) ≤ x6 then (
        if (8 : Int32) ≤ x6 then (
          if (12 : Int32) ≤ x6 then (
            if (16 : Int32) ≤ x6 then (
              fX7_append_76 (fX7_append_23 n) a0 x1 x2 x3 x4 x5 x6 x5 s0)
            else (
              fX7_append_76 (fX7_append_23 n) a0 x1 x2 x3 x4 x5 x6 x4 s0))
          else (
            fX7_append_76 (fX7_append_23 n) a0 x1 x2 x3 x4 x5 x6 x3 s0))
        else (
          fX7_append_76 (fX7_append_23 n) a0 x1 x2 x3 x4 x5 x6 x2 s0))
      else (
        fX7_append_76 (fX7_append_23 n) a0 x1 x2 x3 x4 x5 x6 x1 s0))
def fX7_append (a0 : Nat) (x1 : Int32) (x2 : Int32) (x3 : Int32) (x4 : Int32) (x5 : Int32) (s0 : AS) : Option AR :=
  sI s0 a0 11 0 0 (fun s1 =>
  gI s1 a0 11 18 (fun v2 =>
  if (v2 + 20) ≤ (500 : Int32) then (
    fX7_append_23 FU a0 x1 x2 x3 x4 x5 0 s1)
  else (
    some (.inl (some (.int ((-1)))), s1))))
def fX7_buffered (a0 : Nat) (s0 : AS) : Option AR :=
  sI s0 a0 11 0 0 (fun s1 =>
  gI s1 a0 11 18 (fun v2 =>
  some (.inl (some (.int v2)), s1)))
def fX7_parseError (a0 : Nat) (s0 : AS) : Option AR :=
  sI s0 a0 11 0 0 (fun s1 =>
  gI s1 a0 11 19 (fun v2 =>
  some (.inl (some (.int v2)), s1)))
def fX7_errorPosition (a0 : Nat) (s0 : AS) : Option AR :=
  sI s0 a0 11 0 0 (fun s1 =>
  gI s1 a0 11 20 (fun v2 =>
  some (.inl (some (.int v2)), s1)))
def fX7_seen (a0 : Nat) (x1 : Int32) (s0 : AS) : Option AR :=
  gI s0 a0 11 21 (fun v1 =>
  if v1 ≤ x1 then (
    some (.inl (some (.int ((-1)))), s0))
  else (
    gR s0 a0 11 17 (fun q2 =>
    aI s0 q2 100 x1 (fun v3 =>
    some (.inl (some (.int v3)), s0)))))
def fX7_isSmall (x0 : Int32) (s0 : AS) : Option AR :=
  if x0 < (97 : Int32) then (
    rZ 0 s0)
  else (
    if (122 : Int32) < x0 then (
      rZ 0 s0)
    else (
      rZ 1 s0))
def fX7_isDigit (x0 : Int32) (s0 : AS) : Option AR :=
  if x0 < (48 : Int32) then (
    rZ 0 s0)
  else (
    if (57 : Int32) < x0 then (
      rZ 0 s0)
    else (
      rZ 1 s0))
def fX7_token_232  (a0 : Nat) (t0 : Nat) (t1 : Int32) (s0 : AS) : Option AR :=
  sI s0 t0 11 24 t1 (fun s1 =>
  gI s1 a0 11 22 (fun v2 =>
  sI s1 a0 11 22 (v2 + 1) (fun s3 =>
  some (.inl none, s3))))
def fX7_token_214  (t0 : Nat) (t1 : Int32) (s0 : AS) : Option AR :=
  sI s0 t0 11 24 t1 (fun s1 =>
  some (.inl none, s1))
def fX7_token_195  (a0 : Nat) (s0 : AS) : Option AR :=
  gI s0 a0 11 22 (fun v1 =>
  gI s0 a0 11 23 (fun v2 =>
  if (v1 - v2) ≤ (3 : Int32) then (
    fX7_token_214 a0 2 s0)
  else (
    fX7_token_214 a0 4 s0)))
def fX7_token_179 (r128 : Nat → AS → Option AR) (a0 : Nat) (t0 : Nat) (t1 : Int32) (s0 : AS) : Option AR :=
  sI s0 t0 11 25 t1 (fun s1 =>
  gI s1 a0 11 22 (fun v2 =>
  sI s1 a0 11 22 (v2 + 1) (fun s3 =>
  r128 a0 s3)))
def fX7_token_128  : Nat → Nat → AS → Option AR
  | 0, _, _ => none
  | n + 1, a0, s0 =>
    gI s0 a0 11 22 (fun v1 =>
    cV s0 a0 11 (fX7_seen a0 v1 s0) (qI (fun v2 s3 =>
    cS s3 (fX7_isDigit v2 s3) (qI (fun v4 s5 =>
    if v4 = 0 then (
      fX7_token_195 a0 s5)
    else (
      gI s5 a0 11 22 (fun v6 =>
      gI s5 a0 11 23 (fun v7 =>
      if (3 : Int32) ≤ (v6 - v7) then (
        fX7_token_179 (fX7_token_128 n) a0 a0 0 s5)
      else (
        gI s5 a0 11 25 (fun v8 =>
        gI s5 a0 11 22 (fun v9 =>
        cV s5 a0 11 (fX7_seen a0 v9 s5) (qI (fun v10 s11 =>
        fX7_token_179 (fX7_token_128 n) a0 a0 (((10 * v8) + v10) - 48) s11)))))))))))))
def fX7_token_110  (t0 : Nat) (t1 : Int32) (s0 : AS) : Option AR :=
  sI s0 t0 11 24 t1 (fun s1 =>
  some (.inl none, s1))
def fX7_token_90  (a0 : Nat) (s0 : AS) : Option AR :=
  gI s0 a0 11 22 (fun v1 =>
  gI s0 a0 11 23 (fun v2 =>
  if (v1 - v2) ≤ (6 : Int32) then (
    fX7_token_110 a0 1 s0)
  else (
    fX7_token_110 a0 4 s0)))
def fX7_token_63  : Nat → Nat → AS → Option AR
  | 0, _, _ => none
  | n + 1, a0, s0 =>
    gI s0 a0 11 22 (fun v1 =>
    cV s0 a0 11 (fX7_seen a0 v1 s0) (qI (fun v2 s3 =>
    cS s3 (fX7_isSmall v2 s3) (qI (fun v4 s5 =>
    if v4 = 0 then (
      fX7_token_90 a0 s5)
    else (
      gI s5 a0 11 22 (fun v6 =>
      sI s5 a0 11 22 (v6 + 1) (fun s7 =>
      fX7_token_63 n a0 s7))))))))
def fX7_token_26  (a0 : Nat) (s0 : AS) : Option AR :=
  gI s0 a0 11 22 (fun v1 =>
  sI s0 a0 11 23 v1 (fun s2 =>
  gI s2 a0 11 22 (fun v3 =>
  cV s2 a0 11 (fX7_seen a0 v3 s2) (qI (fun v4 s5 =>
  if v4 = (-1 : Int32) then (
    sI s5 a0 11 24 0 (fun s11 =>
    some (.inl none, s11)))
  else (
    cS s5 (fX7_isSmall v4 s5) (qI (fun v6 s7 =>
    if v6 = 0 then (
      cS s7 (fX7_isDigit v4 s7) (qI (fun v8 s9 =>
      if v8 = 0 then (
        if v4 = (59 : Int32) then (
          fX7_token_232 a0 a0 3 s9)
        else (
          fX7_token_232 a0 a0 4 s9))
      else (
        sI s9 a0 11 25 0 (fun s10 =>
        fX7_token_128 FU a0 s10)))))
    else (
      fX7_token_63 FU a0 s7)))))))))
def fX7_token_0  : Nat → Nat → AS → Option AR
  | 0, _, _ => none
  | n + 1, a0, s0 =>
    gI s0 a0 11 22 (fun v1 =>
    cV s0 a0 11 (fX7_seen a0 v1 s0) (qI (fun v2 s3 =>
    if v2 = (32 : Int32) then (
      gI s3 a0 11 22 (fun v4 =>
      sI s3 a0 11 22 (v4 + 1) (fun s5 =>
      fX7_token_0 n a0 s5)))
    else (
      fX7_token_26 a0 s3))))
def fX7_token (a0 : Nat) (s0 : AS) : Option AR :=
  gI s0 a0 11 22 (fun v1 =>
  cV s0 a0 11 (fX7_seen a0 v1 s0) (qI (fun v2 s3 =>
  if v2 = (32 : Int32) then (
    gI s3 a0 11 22 (fun v4 =>
    sI s3 a0 11 22 (v4 + 1) (fun s5 =>
    fX7_token_0 FU a0 s5)))
  else (
    fX7_token_26 a0 s3))))
def fX7_fails (a0 : Nat) (x1 : Int32) (s0 : AS) : Option AR :=
  gI s0 a0 11 26 (fun v1 =>
  if v1 = 0 then (
    sI s0 a0 11 26 x1 (fun s2 =>
    gI s2 a0 11 23 (fun v3 =>
    sI s2 a0 11 27 v3 (fun s4 =>
    some (.inl none, s4)))))
  else (
    some (.inl none, s0)))
def fX7_failsIf (a0 : Nat) (x1 : Int32) (x2 : Int32) (s0 : AS) : Option AR :=
  if x1 = 0 then (
    some (.inl none, s0))
  else (
    cV s0 a0 11 (fX7_fails a0 x2 s0) (qV (fun s1 =>
    some (.inl none, s1))))
def fX7_goesOn (a0 : Nat) (s0 : AS) : Option AR :=
  gI s0 a0 11 26 (fun v1 =>
  if v1 = 0 then (
    cV s0 a0 11 (fX7_token a0 s0) (qV (fun s2 =>
    some (.inl none, s2))))
  else (
    some (.inl none, s0)))
def fX7_isWord_35  : Nat → Nat → Nat → Int32 → AS → Option AR
  | 0, _, _, _, _ => none
  | n + 1, a0, a1, x2, s0 =>
    cK s0 a1 (fJ0_length_8abf5 a1 s0) (qI (fun v1 s2 =>
    if v1 ≤ x2 then (
      rZ 1 s2)
    else (
      gI s2 a0 11 23 (fun v3 =>
      cV s2 a0 11 (fX7_seen a0 (v3 + x2) s2) (qI (fun v4 s5 =>
      cK s5 a1 (fJ0_charAt_5068e a1 x2 s5) (qI (fun v6 s7 =>
      if v4 = v6 then (
        lt (x2 + 1) (fun v8 =>
        fX7_isWord_35 n a0 a1 v8 s7))
      else (
        rZ 0 s7)))))))))
def fX7_isWord (a0 : Nat) (a1 : Nat) (s0 : AS) : Option AR :=
  gI s0 a0 11 26 (fun v1 =>
  if v1 = 0 then (
    gI s0 a0 11 24 (fun v2 =>
    if v2 = (1 : Int32) then (
      gI s0 a0 11 22 (fun v3 =>
      gI s0 a0 11 23 (fun v4 =>
      cK s0 a1 (fJ0_length_8abf5 a1 s0) (qI (fun v5 s6 =>
      if (v3 - v4) = v5 then (
        fX7_isWord_35 FU a0 a1 0 s6)
      else (
        rZ 0 s6))))))
    else (
      rZ 0 s0)))
  else (
    rZ 0 s0))
def fX7_word_14  (a0 : Nat) (t0 : Nat) (t1 : Int32) (s0 : AS) : Option AR :=
  cV s0 t0 11 (fX7_failsIf t0 t1 1 s0) (qV (fun s1 =>
  cV s1 a0 11 (fX7_goesOn a0 s1) (qV (fun s2 =>
  some (.inl none, s2)))))
def fX7_word (a0 : Nat) (a1 : Nat) (s0 : AS) : Option AR :=
  cV s0 a0 11 (fX7_isWord a0 a1 s0) (qI (fun v1 s2 =>
  if v1 = 0 then (
    fX7_word_14 a0 a0 1 s2)
  else (
    fX7_word_14 a0 a0 0 s2)))
def fX7_looks_33  (a0 : Nat) (x1 : Int32) (s0 : AS) : Option AR :=
  gI s0 a0 11 26 (fun v1 =>
  if v1 = 0 then (
    gI s0 a0 11 25 (fun v2 =>
    some (.inl (some (.int v2)), s0)))
  else (
    some (.inl (some (.int x1)), s0)))
def fX7_looks (a0 : Nat) (x1 : Int32) (x2 : Int32) (s0 : AS) : Option AR :=
  gI s0 a0 11 24 (fun v1 =>
  if v1 = (2 : Int32) then (
    gI s0 a0 11 25 (fun v2 =>
    cS s0 (fX7_in v2 x1 x2 s0) (qI (fun v3 s4 =>
    if v3 = 0 then (
      cV s4 a0 11 (fX7_fails a0 2 s4) (qV (fun s5 =>
      fX7_looks_33 a0 x1 s5)))
    else (
      fX7_looks_33 a0 x1 s4)))))
  else (
    cV s0 a0 11 (fX7_fails a0 1 s0) (qV (fun s6 =>
    fX7_looks_33 a0 x1 s6))))
def fX7_takes (a0 : Nat) (x1 : Int32) (x2 : Int32) (s0 : AS) : Option AR :=
  cV s0 a0 11 (fX7_looks a0 x1 x2 s0) (qI (fun v1 s2 =>
  cV s2 a0 11 (fX7_goesOn a0 s2) (qV (fun s3 =>
  some (.inl (some (.int v1)), s3)))))
def fX7_holds_65  (a0 : Nat) (s0 : AS) : Option AR :=
  gR s0 a0 11 29 (fun q1 =>
  gI s0 a0 11 2 (fun v2 =>
  uI s0 q1 0 v2 (fun s3 =>
  gR s3 a0 11 29 (fun q4 =>
  gI s3 a0 11 3 (fun v5 =>
  uI s3 q4 1 v5 (fun s6 =>
  gR s6 a0 11 29 (fun q7 =>
  gI s6 a0 11 4 (fun v8 =>
  uI s6 q7 2 v8 (fun s9 =>
  gR s9 a0 11 29 (fun q10 =>
  gI s9 a0 11 5 (fun v11 =>
  uI s9 q10 3 v11 (fun s12 =>
  gR s12 a0 11 29 (fun q13 =>
  gI s12 a0 11 6 (fun v14 =>
  uI s12 q13 4 v14 (fun s15 =>
  gR s15 a0 11 29 (fun q16 =>
  gI s15 a0 11 7 (fun v17 =>
  uI s15 q16 5 v17 (fun s18 =>
  gR s18 a0 11 29 (fun q19 =>
  gI s18 a0 11 8 (fun v20 =>
  uI s18 q19 6 v20 (fun s21 =>
  gR s21 a0 11 29 (fun q22 =>
  gI s21 a0 11 9 (fun v23 =>
  uI s21 q22 7 v23 (fun s24 =>
  some (.inl none, s24)))))))))))))))))))))))))
def fX7_holds_29  : Nat → Nat → Int32 → AS → Option AR
  | 0, _, _, _ => none
  | n + 1, a0, x1, s0 =>
    if (10 : Int32) ≤ x1 then (
      fX7_holds_65 a0 s0)
    else (
      gR s0 a0 11 30 (fun q1 =>
      gR s0 a0 11 11 (fun q2 =>
      aI s0 q2 100 x1 (fun v3 =>
      uI s0 q1 x1 v3 (fun s4 =>
      gR s4 a0 11 31 (fun q5 =>
      gR s4 a0 11 10 (fun q6 =>
      aI s4 q6 101 x1 (fun v7 =>
      uN 101 .boolean s4 q5 x1 v7 (fun s8 =>
      lt (x1 + 1) (fun v9 =>
      fX7_holds_29 n a0 v9 s8))))))))))
def fX7_holds_27  (a0 : Nat) (s0 : AS) : Option AR :=
  fX7_holds_29 FU a0 0 s0
def fX7_holds_2  : Nat → Nat → Int32 → AS → Option AR
  | 0, _, _, _ => none
  | n + 1, a0, x1, s0 =>
    if (4112 : Int32) ≤ x1 then (
      fX7_holds_27 a0 s0)
    else (
      gR s0 a0 11 28 (fun q1 =>
      gR s0 a0 11 12 (fun q2 =>
      aI s0 q2 100 x1 (fun v3 =>
      uI s0 q1 x1 v3 (fun s4 =>
      lt (x1 + 1) (fun v5 =>
      fX7_holds_2 n a0 v5 s4))))))
def fX7_holds (a0 : Nat) (s0 : AS) : Option AR :=
  fX7_holds_2 FU a0 0 s0
def fX7_laysBack_65  (a0 : Nat) (s0 : AS) : Option AR :=
  gR s0 a0 11 29 (fun q1 =>
  aI s0 q1 100 0 (fun v2 =>
  sI s0 a0 11 2 v2 (fun s3 =>
  gR s3 a0 11 29 (fun q4 =>
  aI s3 q4 100 1 (fun v5 =>
  sI s3 a0 11 3 v5 (fun s6 =>
  gR s6 a0 11 29 (fun q7 =>
  aI s6 q7 100 2 (fun v8 =>
  sI s6 a0 11 4 v8 (fun s9 =>
  gR s9 a0 11 29 (fun q10 =>
  aI s9 q10 100 3 (fun v11 =>
  sI s9 a0 11 5 v11 (fun s12 =>
  gR s12 a0 11 29 (fun q13 =>
  aI s12 q13 100 4 (fun v14 =>
  sI s12 a0 11 6 v14 (fun s15 =>
  gR s15 a0 11 29 (fun q16 =>
  aI s15 q16 100 5 (fun v17 =>
  sI s15 a0 11 7 v17 (fun s18 =>
  gR s18 a0 11 29 (fun q19 =>
  aI s18 q19 100 6 (fun v20 =>
  sI s18 a0 11 8 v20 (fun s21 =>
  gR s21 a0 11 29 (fun q22 =>
  aI s21 q22 100 7 (fun v23 =>
  sI s21 a0 11 9 v23 (fun s24 =>
  some (.inl none, s24)))))))))))))))))))))))))
def fX7_laysBack_29  : Nat → Nat → Int32 → AS → Option AR
  | 0, _, _, _ => none
  | n + 1, a0, x1, s0 =>
    if (10 : Int32) ≤ x1 then (
      fX7_laysBack_65 a0 s0)
    else (
      gR s0 a0 11 11 (fun q1 =>
      gR s0 a0 11 30 (fun q2 =>
      aI s0 q2 100 x1 (fun v3 =>
      uI s0 q1 x1 v3 (fun s4 =>
      gR s4 a0 11 10 (fun q5 =>
      gR s4 a0 11 31 (fun q6 =>
      aI s4 q6 101 x1 (fun v7 =>
      uN 101 .boolean s4 q5 x1 v7 (fun s8 =>
      lt (x1 + 1) (fun v9 =>
      fX7_laysBack_29 n a0 v9 s8))))))))))
def fX7_laysBack_27  (a0 : Nat) (s0 : AS) : Option AR :=
  fX7_laysBack_29 FU a0 0 s0
def fX7_laysBack_2  : Nat → Nat → Int32 → AS → Option AR
  | 0, _, _, _ => none
  | n + 1, a0, x1, s0 =>
    if (4112 : Int32) ≤ x1 then (
      fX7_laysBack_27 a0 s0)
    else (
      gR s0 a0 11 12 (fun q1 =>
      gR s0 a0 11 28 (fun q2 =>
      aI s0 q2 100 x1 (fun v3 =>
      uI s0 q1 x1 v3 (fun s4 =>
      lt (x1 + 1) (fun v5 =>
      fX7_laysBack_2 n a0 v5 s4))))))
def fX7_laysBack (a0 : Nat) (s0 : AS) : Option AR :=
  fX7_laysBack_2 FU a0 0 s0
def fX7_puts (a0 : Nat) (x1 : Int32) (x2 : Int32) (x3 : Int32) (s0 : AS) : Option AR :=
  gR s0 a0 11 12 (fun q1 =>
  uI s0 q1 ((16 + (512 * x1)) + x2) x3 (fun s2 =>
  some (.inl none, s2)))
def fX7_clears_34  : Nat → Nat → Int32 → AS → Option AR
  | 0, _, _, _ => none
  | n + 1, a0, x1, s0 =>
    if (8 : Int32) ≤ x1 then (
      some (.inl none, s0))
    else (
      cV s0 a0 11 (fX7_puts a0 x1 2 ((-1)) s0) (qV (fun s1 =>
      lt (x1 + 1) (fun v2 =>
      fX7_clears_34 n a0 v2 s1))))
def fX7_clears_32  (a0 : Nat) (s0 : AS) : Option AR :=
  fX7_clears_34 FU a0 0 s0
def fX7_clears_12  : Nat → Nat → Int32 → AS → Option AR
  | 0, _, _, _ => none
  | n + 1, a0, x1, s0 =>
    if (4112 : Int32) ≤ x1 then (
      fX7_clears_32 a0 s0)
    else (
      gR s0 a0 11 12 (fun q1 =>
      uI s0 q1 x1 0 (fun s2 =>
      lt (x1 + 1) (fun v3 =>
      fX7_clears_12 n a0 v3 s2))))
def fX7_clears (a0 : Nat) (s0 : AS) : Option AR :=
  sI s0 a0 11 9 0 (fun s1 =>
  sI s1 a0 11 32 0 (fun s2 =>
  fX7_clears_12 FU a0 0 s2))
def fX7_ofLength_32 (r2 : Nat → Int32 → Int32 → Int32 → AS → Option AR) (a0 : Nat) (x1 : Int32) (x2 : Int32) (x3 : Int32) (s0 : AS) : Option AR :=
  lt (x3 + 1) (fun v1 =>
  r2 a0 x1 x2 v1 s0)
def fX7_ofLength_2  : Nat → Nat → Int32 → Int32 → Int32 → AS → Option AR
  | 0, _, _, _, _, _ => none
  | n + 1, a0, x1, x2, x3, s0 =>
    gI s0 a0 11 9 (fun v1 =>
    if v1 ≤ x3 then (
      some (.inl (some (.int ((-1)))), s0))
    else (
      gR s0 a0 11 10 (fun q2 =>
      aI s0 q2 101 x3 (fun v3 =>
      if v3 = x1 then (
        gR s0 a0 11 11 (fun q4 =>
        aI s0 q4 100 x3 (fun v5 =>
        if v5 = x2 then (
          some (.inl (some (.int x3)), s0))
        else (
          fX7_ofLength_32 (fX7_ofLength_2 n) a0 x1 x2 x3 s0))))
      else (
        fX7_ofLength_32 (fX7_ofLength_2 n) a0 x1 x2 x3 s0)))))
def fX7_ofLength (a0 : Nat) (x1 : Int32) (x2 : Int32) (s0 : AS) : Option AR :=
  fX7_ofLength_2 FU a0 x1 x2 0 s0
def fX7_kindLine_54  (a0 : Nat) (x1 : Int32) (x2 : Int32) (t0 : Nat) (t1 : Int32) (s0 : AS) : Option AR :=
  cV s0 t0 11 (fX7_failsIf t0 t1 3 s0) (qV (fun s1 =>
  cV s1 a0 11 (fX7_goesOn a0 s1) (qV (fun s2 =>
  cV s2 a0 11 (fX7_takes a0 0 99 s2) (qI (fun v3 s4 =>
  gI s4 a0 11 26 (fun v5 =>
  if v5 = 0 then (
    gR s4 a0 11 10 (fun q6 =>
    gI s4 a0 11 9 (fun v7 =>
    uN 101 .boolean s4 q6 v7 x1 (fun s8 =>
    gR s8 a0 11 11 (fun q9 =>
    gI s8 a0 11 9 (fun v10 =>
    uI s8 q9 v10 x2 (fun s11 =>
    gR s11 a0 11 12 (fun q12 =>
    gI s11 a0 11 9 (fun v13 =>
    uI s11 q12 (6 + v13) v3 (fun s14 =>
    gI s14 a0 11 9 (fun v15 =>
    sI s14 a0 11 9 (v15 + 1) (fun s16 =>
    some (.inl none, s16)))))))))))))
  else (
    some (.inl none, s4)))))))))
def fX7_kindLine_53  (a0 : Nat) (x1 : Int32) (x2 : Int32) (t0 : Nat) (s0 : AS) : Option AR :=
  fX7_kindLine_54 a0 x1 x2 t0 0 s0
def fX7_kindLine_15  (a0 : Nat) (x1 : Int32) (t0 : Nat) (t1 : Int32) (s0 : AS) : Option AR :=
  cV s0 t0 11 (fX7_failsIf t0 t1 4 s0) (qV (fun s1 =>
  cV s1 a0 11 (fX7_goesOn a0 s1) (qV (fun s2 =>
  cV s2 a0 11 (fX7_looks a0 1 99 s2) (qI (fun v3 s4 =>
  gI s4 a0 11 26 (fun v5 =>
  if v5 = 0 then (
    cV s4 a0 11 (fX7_ofLength a0 x1 v3 s4) (qI (fun v6 s7 =>
    if v6 = (-1 : Int32) then (
      fX7_kindLine_53 a0 x1 v3 a0 s7)
    else (
      fX7_kindLine_54 a0 x1 v3 a0 1 s7))))
  else (
    fX7_kindLine_53 a0 x1 v3 a0 s4))))))))
def fX7_kindLine (a0 : Nat) (x1 : Int32) (s0 : AS) : Option AR :=
  gI s0 a0 11 9 (fun v1 =>
  if v1 = (10 : Int32) then (
    fX7_kindLine_15 a0 x1 a0 1 s0)
  else (
    fX7_kindLine_15 a0 x1 a0 0 s0))
def fX7_of (a0 : Nat) (x1 : Int32) (x2 : Int32) (s0 : AS) : Option AR :=
  gR s0 a0 11 12 (fun q1 =>
  aI s0 q1 100 ((16 + (512 * x1)) + x2) (fun v2 =>
  some (.inl (some (.int v2)), s0)))
def fX7_adds (a0 : Nat) (x1 : Int32) (x2 : Int32) (s0 : AS) : Option AR :=
  cV s0 a0 11 (fX7_of a0 x1 0 s0) (qI (fun v1 s2 =>
  cV s2 a0 11 (fX7_puts a0 x1 (5 + v1) x2 s2) (qV (fun s3 =>
  cV s3 a0 11 (fX7_of a0 x1 0 s3) (qI (fun v4 s5 =>
  cV s5 a0 11 (fX7_puts a0 x1 0 (v4 + 1) s5) (qV (fun s6 =>
  some (.inl none, s6)))))))))
def fX7_blocksLong_4  : Nat → Nat → Int32 → Int32 → Int32 → AS → Option AR
  | 0, _, _, _, _, _ => none
  | n + 1, a0, x1, x2, x3, s0 =>
    cV s0 a0 11 (fX7_of a0 x1 0 s0) (qI (fun v1 s2 =>
    if v1 ≤ x3 then (
      some (.inl (some (.int x2)), s2))
    else (
      cV s2 a0 11 (fX7_of a0 x1 (5 + x3) s2) (qI (fun v3 s4 =>
      lt (x2 + v3) (fun v5 =>
      lt (x3 + 1) (fun v6 =>
      fX7_blocksLong_4 n a0 x1 v5 v6 s4)))))))
def fX7_blocksLong (a0 : Nat) (x1 : Int32) (s0 : AS) : Option AR :=
  fX7_blocksLong_4 FU a0 x1 0 0 s0
def fX7_hasQuoin (a0 : Nat) (x1 : Int32) (s0 : AS) : Option AR :=
  cV s0 a0 11 (fX7_of a0 x1 2 s0) (qI (fun v1 s2 =>
  if v1 = (-1 : Int32) then (
    rZ 0 s2)
  else (
    rZ 1 s2)))
def fX7_quoinLong (a0 : Nat) (x1 : Int32) (s0 : AS) : Option AR :=
  cV s0 a0 11 (fX7_hasQuoin a0 x1 s0) (qI (fun v1 s2 =>
  if v1 = 0 then (
    some (.inl (some (.int 0)), s2))
  else (
    gI s2 a0 11 4 (fun v3 =>
    cV s2 a0 11 (fX7_of a0 x1 2 s2) (qI (fun v4 s5 =>
    cV s5 a0 11 (fX7_of a0 x1 3 s5) (qI (fun v6 s7 =>
    some (.inl (some (.int ((v3 + v4) - v6))), s7)))))))))
def fX7_filledLong_14  : Nat → Nat → Int32 → Int32 → Int32 → AS → Option AR
  | 0, _, _, _, _, _ => none
  | n + 1, a0, x1, x2, x3, s0 =>
    cV s0 a0 11 (fX7_of a0 x1 1 s0) (qI (fun v1 s2 =>
    if v1 ≤ x3 then (
      some (.inl (some (.int x2)), s2))
    else (
      gR s2 a0 11 11 (fun q3 =>
      cV s2 a0 11 (fX7_of a0 x1 (11 + x3) s2) (qI (fun v4 s5 =>
      aI s5 q3 100 v4 (fun v6 =>
      lt (x2 + v6) (fun v7 =>
      lt (x3 + 1) (fun v8 =>
      fX7_filledLong_14 n a0 x1 v7 v8 s5)))))))))
def fX7_filledLong (a0 : Nat) (x1 : Int32) (s0 : AS) : Option AR :=
  cV s0 a0 11 (fX7_blocksLong a0 x1 s0) (qI (fun v1 s2 =>
  cV s2 a0 11 (fX7_quoinLong a0 x1 s2) (qI (fun v3 s4 =>
  lt (v1 + v3) (fun v5 =>
  fX7_filledLong_14 FU a0 x1 v5 0 s4)))))
def fX7_gap (a0 : Nat) (x1 : Int32) (s0 : AS) : Option AR :=
  gI s0 a0 11 2 (fun v1 =>
  cV s0 a0 11 (fX7_filledLong a0 x1 s0) (qI (fun v2 s3 =>
  some (.inl (some (.int (v1 - v2))), s3))))
def fX7_rowLine_152 (r61 : Nat → Int32 → AS → Option AR) (a0 : Nat) (x1 : Int32) (s0 : AS) : Option AR :=
  cV s0 a0 11 (fX7_goesOn a0 s0) (qV (fun s1 =>
  r61 a0 x1 s1))
def fX7_rowLine_135 (r61 : Nat → Int32 → AS → Option AR) (a0 : Nat) (x1 : Int32) (x2 : Int32) (t0 : Nat) (t1 : Int32) (s0 : AS) : Option AR :=
  cV s0 t0 11 (fX7_failsIf t0 t1 5 s0) (qV (fun s1 =>
  gI s1 a0 11 26 (fun v2 =>
  if v2 = 0 then (
    cV s1 a0 11 (fX7_adds a0 x1 x2 s1) (qV (fun s3 =>
    fX7_rowLine_152 r61 a0 x1 s3)))
  else (
    fX7_rowLine_152 r61 a0 x1 s1))))
def fX7_rowLine_134 (r61 : Nat → Int32 → AS → Option AR) (a0 : Nat) (x1 : Int32) (x2 : Int32) (t0 : Nat) (s0 : AS) : Option AR :=
  fX7_rowLine_135 r61 a0 x1 x2 t0 0 s0
def fX7_rowLine_109 (r61 : Nat → Int32 → AS → Option AR) (a0 : Nat) (x1 : Int32) (x2 : Int32) (t0 : Nat) (t1 : Int32) (s0 : AS) : Option AR :=
  cV s0 t0 11 (fX7_failsIf t0 t1 4 s0) (qV (fun s1 =>
  gI s1 a0 11 26 (fun v2 =>
  if v2 = 0 then (
    cV s1 a0 11 (fX7_gap a0 x1 s1) (qI (fun v3 s4 =>
    if x2 ≤ v3 then (
      fX7_rowLine_134 r61 a0 x1 x2 a0 s4)
    else (
      fX7_rowLine_135 r61 a0 x1 x2 a0 1 s4))))
  else (
    fX7_rowLine_134 r61 a0 x1 x2 a0 s1))))
def fX7_rowLine_108 (r61 : Nat → Int32 → AS → Option AR) (a0 : Nat) (x1 : Int32) (x2 : Int32) (t0 : Nat) (s0 : AS) : Option AR :=
  fX7_rowLine_109 r61 a0 x1 x2 t0 0 s0
def fX7_rowLine_61  : Nat → Nat → Int32 → AS → Option AR
  | 0, _, _, _ => none
  | n + 1, a0, x1, s0 =>
    gI s0 a0 11 26 (fun v1 =>
    if v1 = 0 then (
      gI s0 a0 11 24 (fun v2 =>
      if v2 = (2 : Int32) then (
        cV s0 a0 11 (fX7_looks a0 1 200 s0) (qI (fun v3 s4 =>
        gI s4 a0 11 26 (fun v5 =>
        if v5 = 0 then (
          cV s4 a0 11 (fX7_of a0 x1 0 s4) (qI (fun v6 s7 =>
          if v6 = (6 : Int32) then (
            fX7_rowLine_109 (fX7_rowLine_61 n) a0 x1 v3 a0 1 s7)
          else (
            fX7_rowLine_108 (fX7_rowLine_61 n) a0 x1 v3 a0 s7))))
        else (
          fX7_rowLine_108 (fX7_rowLine_61 n) a0 x1 v3 a0 s4)))))
      else (
        some (.inl none, s0))))
    else (
      some (.inl none, s0)))
def fX7_rowLine_41  (a0 : Nat) (x1 : Int32) (t0 : Nat) (t1 : Int32) (s0 : AS) : Option AR :=
  cV s0 t0 11 (fX7_failsIf t0 t1 3 s0) (qV (fun s1 =>
  gI s1 a0 11 32 (fun v2 =>
  sI s1 a0 11 32 (v2 ||| (1 <<< (x1 &&& 31))) (fun s3 =>
  cV s3 a0 11 (fX7_goesOn a0 s3) (qV (fun s4 =>
  fX7_rowLine_61 FU a0 x1 s4))))))
def fX7_rowLine_40  (a0 : Nat) (x1 : Int32) (t0 : Nat) (s0 : AS) : Option AR :=
  fX7_rowLine_41 a0 x1 t0 0 s0
def fX7_rowLine (a0 : Nat) (s0 : AS) : Option AR :=
  cV s0 a0 11 (fX7_goesOn a0 s0) (qV (fun s1 =>
  gI s1 a0 11 3 (fun v2 =>
  cV s1 a0 11 (fX7_looks a0 0 (v2 - 1) s1) (qI (fun v3 s4 =>
  gI s4 a0 11 26 (fun v5 =>
  if v5 = 0 then (
    gI s4 a0 11 32 (fun v6 =>
    if ((v6 >>> (v3 &&& 31)) &&& 1) = (1 : Int32) then (
      fX7_rowLine_41 a0 v3 a0 1 s4)
    else (
      fX7_rowLine_40 a0 v3 a0 s4)))
  else (
    fX7_rowLine_40 a0 v3 a0 s4)))))))
def fX7_line_18  (a0 : Nat) (s0 : AS) : Option AR :=
  cV s0 a0 11 (fX7_isWord a0 1000032 s0) (qI (fun v1 s2 =>
  cV s2 a0 11 (fX7_kindLine a0 v1 s2) (qV (fun s3 =>
  some (.inl none, s3)))))
def fX7_line (a0 : Nat) (s0 : AS) : Option AR :=
  cV s0 a0 11 (fX7_isWord a0 1000031 s0) (qI (fun v1 s2 =>
  if v1 = 0 then (
    cV s2 a0 11 (fX7_isWord a0 1000032 s2) (qI (fun v3 s4 =>
    if v3 = 0 then (
      cV s4 a0 11 (fX7_isWord a0 1000033 s4) (qI (fun v5 s6 =>
      if v5 = 0 then (
        cV s6 a0 11 (fX7_fails a0 1 s6) (qV (fun s7 =>
        some (.inl none, s7))))
      else (
        cV s6 a0 11 (fX7_rowLine a0 s6) (qV (fun s8 =>
        some (.inl none, s8)))))))
    else (
      fX7_line_18 a0 s4))))
  else (
    fX7_line_18 a0 s2)))
def fX7_reads_201  (t0 : Nat) (t1 : Int32) (s0 : AS) : Option AR :=
  cV s0 t0 11 (fX7_failsIf t0 t1 1 s0) (qV (fun s1 =>
  some (.inl none, s1)))
def fX7_reads_188  (a0 : Nat) (s0 : AS) : Option AR :=
  gI s0 a0 11 24 (fun v1 =>
  if v1 = 0 then (
    fX7_reads_201 a0 0 s0)
  else (
    fX7_reads_201 a0 1 s0))
def fX7_reads_162  : Nat → Nat → AS → Option AR
  | 0, _, _ => none
  | n + 1, a0, s0 =>
    gI s0 a0 11 26 (fun v1 =>
    if v1 = 0 then (
      gI s0 a0 11 24 (fun v2 =>
      if v2 = (3 : Int32) then (
        cV s0 a0 11 (fX7_token a0 s0) (qV (fun s3 =>
        cV s3 a0 11 (fX7_line a0 s3) (qV (fun s4 =>
        fX7_reads_162 n a0 s4)))))
      else (
        fX7_reads_188 a0 s0)))
    else (
      fX7_reads_188 a0 s0))
def fX7_reads_114  (a0 : Nat) (t0 : Nat) (t1 : Int32) (s0 : AS) : Option AR :=
  cV s0 t0 11 (fX7_failsIf t0 t1 1 s0) (qV (fun s1 =>
  cV s1 a0 11 (fX7_goesOn a0 s1) (qV (fun s2 =>
  cV s2 a0 11 (fX7_word a0 1000035 s2) (qV (fun s3 =>
  cV s3 a0 11 (fX7_takes a0 0 9 s3) (qI (fun v4 s5 =>
  sI s5 a0 11 6 v4 (fun s6 =>
  cV s6 a0 11 (fX7_takes a0 0 9 s6) (qI (fun v7 s8 =>
  sI s8 a0 11 7 v7 (fun s9 =>
  cV s9 a0 11 (fX7_takes a0 1 999 s9) (qI (fun v10 s11 =>
  sI s11 a0 11 8 v10 (fun s12 =>
  fX7_reads_162 FU a0 s12)))))))))))))))
def fX7_reads_113  (a0 : Nat) (t0 : Nat) (s0 : AS) : Option AR :=
  fX7_reads_114 a0 t0 0 s0
def fX7_reads (a0 : Nat) (x1 : Int32) (s0 : AS) : Option AR :=
  sI s0 a0 11 21 x1 (fun s1 =>
  sI s1 a0 11 22 0 (fun s2 =>
  sI s2 a0 11 26 0 (fun s3 =>
  sI s3 a0 11 27 ((-1)) (fun s4 =>
  cV s4 a0 11 (fX7_clears a0 s4) (qV (fun s5 =>
  cV s5 a0 11 (fX7_token a0 s5) (qV (fun s6 =>
  cV s6 a0 11 (fX7_word a0 1000034 s6) (qV (fun s7 =>
  cV s7 a0 11 (fX7_takes a0 10 500 s7) (qI (fun v8 s9 =>
  sI s9 a0 11 2 v8 (fun s10 =>
  cV s10 a0 11 (fX7_takes a0 1 8 s10) (qI (fun v11 s12 =>
  sI s12 a0 11 3 v11 (fun s13 =>
  cV s13 a0 11 (fX7_takes a0 1 50 s13) (qI (fun v14 s15 =>
  sI s15 a0 11 4 v14 (fun s16 =>
  cV s16 a0 11 (fX7_takes a0 0 20 s16) (qI (fun v17 s18 =>
  sI s18 a0 11 5 v17 (fun s19 =>
  gR s19 a0 11 12 (fun q20 =>
  cV s19 a0 11 (fX7_takes a0 0 20 s19) (qI (fun v21 s22 =>
  uI s22 q20 0 v21 (fun s23 =>
  gI s23 a0 11 26 (fun v24 =>
  if v24 = 0 then (
    gI s23 a0 11 24 (fun v25 =>
    if v25 = (3 : Int32) then (
      fX7_reads_113 a0 a0 s23)
    else (
      fX7_reads_114 a0 a0 1 s23)))
  else (
    fX7_reads_113 a0 a0 s23))))))))))))))))))))))))))))
def fX7_load_86  (a0 : Nat) (t0 : Nat) (t1 : Int32) (s0 : AS) : Option AR :=
  cV s0 t0 11 (fX7_refuse t0 t1 2 s0) (qI (fun v1 s2 =>
  if v1 = 0 then (
    sZ s2 a0 11 1 1 (fun s3 =>
    sI s3 a0 11 15 0 (fun s4 =>
    gR s4 a0 11 16 (fun q5 =>
    uN 101 .boolean s4 q5 0 0 (fun s6 =>
    gR s6 a0 11 16 (fun q7 =>
    uN 101 .boolean s6 q7 1 0 (fun s8 =>
    gI s8 a0 11 9 (fun v9 =>
    some (.inl (some (.int v9)), s8)))))))))
  else (
    cV s2 a0 11 (fX7_laysBack a0 s2) (qV (fun s10 =>
    some (.inl (some (.int 0)), s10))))))
def fX7_load_70  (a0 : Nat) (t0 : Nat) (t1 : Int32) (s0 : AS) : Option AR :=
  sI s0 t0 11 20 t1 (fun s1 =>
  gI s1 a0 11 26 (fun v2 =>
  if v2 = 0 then (
    fX7_load_86 a0 a0 0 s1)
  else (
    fX7_load_86 a0 a0 1 s1)))
def fX7_load_23  (a0 : Nat) (x1 : Int32) (t0 : Nat) (t1 : Int32) (s0 : AS) : Option AR :=
  cV s0 t0 11 (fX7_refuse t0 t1 1 s0) (qI (fun v1 s2 =>
  if v1 = 0 then (
    sI s2 a0 11 18 0 (fun s3 =>
    cV s3 a0 11 (fX7_holds a0 s3) (qV (fun s4 =>
    cV s4 a0 11 (fX7_reads a0 x1 s4) (qV (fun s5 =>
    gI s5 a0 11 26 (fun v6 =>
    sI s5 a0 11 19 v6 (fun s7 =>
    gI s7 a0 11 26 (fun v8 =>
    if v8 = 0 then (
      fX7_load_70 a0 a0 ((-1)) s7)
    else (
      gI s7 a0 11 27 (fun v9 =>
      fX7_load_70 a0 a0 v9 s7)))))))))))
  else (
    some (.inl (some (.int 0)), s2))))
def fX7_load (a0 : Nat) (x1 : Int32) (s0 : AS) : Option AR :=
  sI s0 a0 11 0 0 (fun s1 =>
  gI s1 a0 11 18 (fun v2 =>
  cS s1 (fX7_in x1 0 v2 s1) (qI (fun v3 s4 =>
  if v3 = 0 then (
    fX7_load_23 a0 x1 a0 1 s4)
  else (
    fX7_load_23 a0 x1 a0 0 s4)))))
def fX7_woodIn_37 (r4 : Nat → Int32 → Int32 → Int32 → AS → Option AR) (a0 : Nat) (x1 : Int32) (x3 : Int32) (t0 : Int32) (t1 : Int32) (s0 : AS) : Option AR :=
  cS s0 (fX7_flag t1 s0) (qI (fun v1 s2 =>
  lt (t0 + v1) (fun v3 =>
  lt (x3 + 1) (fun v4 =>
  r4 a0 x1 v3 v4 s2))))
def fX7_woodIn_4  : Nat → Nat → Int32 → Int32 → Int32 → AS → Option AR
  | 0, _, _, _, _, _ => none
  | n + 1, a0, x1, x2, x3, s0 =>
    cV s0 a0 11 (fX7_of a0 x1 1 s0) (qI (fun v1 s2 =>
    if v1 ≤ x3 then (
      some (.inl (some (.int x2)), s2))
    else (
      gR s2 a0 11 10 (fun q3 =>
      cV s2 a0 11 (fX7_of a0 x1 (11 + x3) s2) (qI (fun v4 s5 =>
      aI s5 q3 101 v4 (fun v6 =>
      if v6 = 0 then (
        fX7_woodIn_37 (fX7_woodIn_4 n) a0 x1 x3 x2 1 s5)
      else (
        fX7_woodIn_37 (fX7_woodIn_4 n) a0 x1 x3 x2 0 s5))))))))
def fX7_woodIn (a0 : Nat) (x1 : Int32) (s0 : AS) : Option AR :=
  fX7_woodIn_4 FU a0 x1 0 0 s0
def fX7_isTightRow (a0 : Nat) (x1 : Int32) (s0 : AS) : Option AR :=
  cV s0 a0 11 (fX7_gap a0 x1 s0) (qI (fun v1 s2 =>
  if v1 = 0 then (
    cV s2 a0 11 (fX7_of a0 x1 4 s2) (qI (fun v3 s4 =>
    if v3 = 0 then (
      rZ 1 s4)
    else (
      rZ 0 s4))))
  else (
    rZ 0 s2)))
def fX7_putsPiece (a0 : Nat) (x1 : Int32) (x2 : Int32) (s0 : AS) : Option AR :=
  cV s0 a0 11 (fX7_of a0 x1 1 s0) (qI (fun v1 s2 =>
  cV s2 a0 11 (fX7_puts a0 x1 (11 + v1) x2 s2) (qV (fun s3 =>
  cV s3 a0 11 (fX7_of a0 x1 1 s3) (qI (fun v4 s5 =>
  cV s5 a0 11 (fX7_puts a0 x1 1 (v4 + 1) s5) (qV (fun s6 =>
  gR s6 a0 11 12 (fun q7 =>
  aI s6 q7 100 (6 + x2) (fun v8 =>
  uI s6 q7 (6 + x2) (v8 - 1) (fun s9 =>
  some (.inl none, s9))))))))))))
def fX7_takesQuoin (a0 : Nat) (x1 : Int32) (s0 : AS) : Option AR :=
  cV s0 a0 11 (fX7_hasQuoin a0 x1 s0) (qI (fun v1 s2 =>
  if v1 = 0 then (
    some (.inl none, s2))
  else (
    cV s2 a0 11 (fX7_puts a0 x1 2 ((-1)) s2) (qV (fun s3 =>
    cV s3 a0 11 (fX7_puts a0 x1 3 0 s3) (qV (fun s4 =>
    gR s4 a0 11 12 (fun q5 =>
    aI s4 q5 100 0 (fun v6 =>
    uI s4 q5 0 (v6 + 1) (fun s7 =>
    some (.inl none, s7)))))))))))
def fX7_empties_41  (a0 : Nat) (x1 : Int32) (x2 : Int32) (s0 : AS) : Option AR :=
  cV s0 a0 11 (fX7_puts a0 x1 1 0 s0) (qV (fun s1 =>
  cV s1 a0 11 (fX7_puts a0 x1 4 0 s1) (qV (fun s2 =>
  cV s2 a0 11 (fX7_takesQuoin a0 x1 s2) (qV (fun s3 =>
  some (.inl (some (.int x2)), s3)))))))
def fX7_empties_9  : Nat → Nat → Int32 → Int32 → Int32 → AS → Option AR
  | 0, _, _, _, _, _ => none
  | n + 1, a0, x1, x2, x3, s0 =>
    if x2 ≤ x3 then (
      fX7_empties_41 a0 x1 x2 s0)
    else (
      gR s0 a0 11 12 (fun q1 =>
      cV s0 a0 11 (fX7_of a0 x1 (11 + x3) s0) (qI (fun v2 s3 =>
      aI s3 q1 100 (6 + v2) (fun v4 =>
      uI s3 q1 (6 + v2) (v4 + 1) (fun s5 =>
      lt (x3 + 1) (fun v6 =>
      fX7_empties_9 n a0 x1 x2 v6 s5)))))))
def fX7_empties (a0 : Nat) (x1 : Int32) (s0 : AS) : Option AR :=
  cV s0 a0 11 (fX7_of a0 x1 1 s0) (qI (fun v1 s2 =>
  fX7_empties_9 FU a0 x1 v1 0 s2))
def fX7_looseness (a0 : Nat) (x1 : Int32) (s0 : AS) : Option AR :=
  cV s0 a0 11 (fX7_of a0 x1 4 s0) (qI (fun v1 s2 =>
  cV s2 a0 11 (fX7_gap a0 x1 s2) (qI (fun v3 s4 =>
  some (.inl (some (.int (v1 + (10 * v3)))), s4)))))
def fX7_looksAtRows_77 (r4 : Nat → Int32 → Int32 → AS → Option AR) (a0 : Nat) (x1 : Int32) (x2 : Int32) (s0 : AS) : Option AR :=
  lt (x2 + 1) (fun v1 =>
  r4 a0 x1 v1 s0)
def fX7_looksAtRows_4  : Nat → Nat → Int32 → Int32 → AS → Option AR
  | 0, _, _, _, _ => none
  | n + 1, a0, x1, x2, s0 =>
    gI s0 a0 11 3 (fun v1 =>
    if v1 ≤ x2 then (
      some (.inl (some (.int x1)), s0))
    else (
      cV s0 a0 11 (fX7_of a0 x2 0 s0) (qI (fun v2 s3 =>
      if v2 ≤ 0 then (
        fX7_looksAtRows_77 (fX7_looksAtRows_4 n) a0 x1 x2 s3)
      else (
        cV s3 a0 11 (fX7_looseness a0 x2 s3) (qI (fun v4 s5 =>
        gI s5 a0 11 8 (fun v6 =>
        if v4 ≤ v6 then (
          fX7_looksAtRows_77 (fX7_looksAtRows_4 n) a0 x1 x2 s5)
        else (
          lt (x1 ||| (1 <<< (x2 &&& 31))) (fun v7 =>
          gR s5 a0 11 12 (fun q8 =>
          aI s5 q8 100 4 (fun v9 =>
          cV s5 a0 11 (fX7_of a0 x2 0 s5) (qI (fun v10 s11 =>
          uI s11 q8 4 (v9 + v10) (fun s12 =>
          gR s12 a0 11 12 (fun q13 =>
          aI s12 q13 100 5 (fun v14 =>
          uI s12 q13 5 (v14 + 1) (fun s15 =>
          cV s15 a0 11 (fX7_puts a0 x2 0 0 s15) (qV (fun s16 =>
          cV s16 a0 11 (fX7_empties a0 x2 s16) (qI (fun v17 s18 =>
          fX7_looksAtRows_77 (fX7_looksAtRows_4 n) a0 v7 x2 s18))))))))))))))))))))))
def fX7_looksAtRows (a0 : Nat) (s0 : AS) : Option AR :=
  fX7_looksAtRows_4 FU a0 0 0 s0
def fX7_areGood_49 (r4 : Nat → Int32 → Int32 → AS → Option AR) (a0 : Nat) (x2 : Int32) (t0 : Int32) (s0 : AS) : Option AR :=
  lt (x2 + 1) (fun v1 =>
  r4 a0 t0 v1 s0)
def fX7_areGood_48 (r4 : Nat → Int32 → Int32 → AS → Option AR) (a0 : Nat) (x2 : Int32) (s0 : AS) : Option AR :=
  fX7_areGood_49 r4 a0 x2 0 s0
def fX7_areGood_44 (r4 : Nat → Int32 → Int32 → AS → Option AR) (a0 : Nat) (x2 : Int32) (s0 : AS) : Option AR :=
  fX7_areGood_49 r4 a0 x2 1 s0
def fX7_areGood_4  : Nat → Nat → Int32 → Int32 → AS → Option AR
  | 0, _, _, _, _ => none
  | n + 1, a0, x1, x2, s0 =>
    gI s0 a0 11 3 (fun v1 =>
    if v1 ≤ x2 then (
      rZ x1 s0)
    else (
      if x1 = 0 then (
        fX7_areGood_48 (fX7_areGood_4 n) a0 x2 s0)
      else (
        cV s0 a0 11 (fX7_of a0 x2 0 s0) (qI (fun v2 s3 =>
        if v2 = 0 then (
          fX7_areGood_44 (fX7_areGood_4 n) a0 x2 s3)
        else (
          cV s3 a0 11 (fX7_gap a0 x2 s3) (qI (fun v4 s5 =>
          if v4 = 0 then (
            cV s5 a0 11 (fX7_of a0 x2 4 s5) (qI (fun v6 s7 =>
            if (10 : Int32) ≤ v6 then (
              fX7_areGood_48 (fX7_areGood_4 n) a0 x2 s7)
            else (
              fX7_areGood_44 (fX7_areGood_4 n) a0 x2 s7))))
          else (
            fX7_areGood_48 (fX7_areGood_4 n) a0 x2 s5)))))))))
def fX7_areGood (a0 : Nat) (s0 : AS) : Option AR :=
  fX7_areGood_4 FU a0 1 0 s0
def fX7_prints_78  (x1 : Int32) (t0 : Nat) (t1 : Int32) (t2 : Int32) (t3 : Int32) (s0 : AS) : Option AR :=
  cS s0 (fX7_flag t3 s0) (qI (fun v1 s2 =>
  uI s2 t0 t1 (t2 + v1) (fun s3 =>
  some (.inl (some (.int x1)), s3))))
def fX7_prints_77  (x1 : Int32) (t0 : Nat) (t1 : Int32) (t2 : Int32) (s0 : AS) : Option AR :=
  fX7_prints_78 x1 t0 t1 t2 0 s0
def fX7_prints_40  (a0 : Nat) (s0 : AS) : Option AR :=
  cV s0 a0 11 (fX7_looksAtRows a0 s0) (qI (fun v1 s2 =>
  gR s2 a0 11 12 (fun q3 =>
  aI s2 q3 100 1 (fun v4 =>
  uI s2 q3 1 (v4 + 1) (fun s5 =>
  gR s5 a0 11 12 (fun q6 =>
  aI s5 q6 100 2 (fun v7 =>
  if v1 = 0 then (
    cV s5 a0 11 (fX7_areGood a0 s5) (qI (fun v8 s9 =>
    if v8 = 0 then (
      fX7_prints_77 v1 q6 2 v7 s9)
    else (
      fX7_prints_78 v1 q6 2 v7 1 s9))))
  else (
    fX7_prints_77 v1 q6 2 v7 s5))))))))
def fX7_prints_2  : Nat → Nat → Int32 → AS → Option AR
  | 0, _, _, _ => none
  | n + 1, a0, x1, s0 =>
    gI s0 a0 11 3 (fun v1 =>
    if v1 ≤ x1 then (
      fX7_prints_40 a0 s0)
    else (
      cV s0 a0 11 (fX7_of a0 x1 4 s0) (qI (fun v2 s3 =>
      gI s3 a0 11 6 (fun v4 =>
      cV s3 a0 11 (fX7_of a0 x1 0 s3) (qI (fun v5 s6 =>
      cV s6 a0 11 (fX7_puts a0 x1 4 (v2 + (v4 * v5)) s6) (qV (fun s7 =>
      lt (x1 + 1) (fun v8 =>
      fX7_prints_2 n a0 v8 s7))))))))))
def fX7_prints (a0 : Nat) (s0 : AS) : Option AR :=
  fX7_prints_2 FU a0 0 s0
def fX7_passes_39  (a0 : Nat) (s0 : AS) : Option AR :=
  gR s0 a0 11 12 (fun q1 =>
  aI s0 q1 100 3 (fun v2 =>
  uI s0 q1 3 (v2 + 1) (fun s3 =>
  cV s3 a0 11 (fX7_looksAtRows a0 s3) (qI (fun v4 s5 =>
  some (.inl (some (.int v4)), s5))))))
def fX7_passes_2  : Nat → Nat → Int32 → AS → Option AR
  | 0, _, _, _ => none
  | n + 1, a0, x1, s0 =>
    gI s0 a0 11 3 (fun v1 =>
    if v1 ≤ x1 then (
      fX7_passes_39 a0 s0)
    else (
      cV s0 a0 11 (fX7_of a0 x1 4 s0) (qI (fun v2 s3 =>
      gI s3 a0 11 7 (fun v4 =>
      cV s3 a0 11 (fX7_woodIn a0 x1 s3) (qI (fun v5 s6 =>
      cV s6 a0 11 (fX7_puts a0 x1 4 (v2 + (v4 * v5)) s6) (qV (fun s7 =>
      lt (x1 + 1) (fun v8 =>
      fX7_passes_2 n a0 v8 s7))))))))))
def fX7_passes (a0 : Nat) (s0 : AS) : Option AR :=
  fX7_passes_2 FU a0 0 s0
def fX7_ones_4  : Nat → Int32 → Int32 → Int32 → AS → Option AR
  | 0, _, _, _, _ => none
  | n + 1, x0, x1, x2, s0 =>
    if (8 : Int32) ≤ x2 then (
      some (.inl (some (.int x1)), s0))
    else (
      lt (x1 + ((x0 >>> (x2 &&& 31)) &&& 1)) (fun v1 =>
      lt (x2 + 1) (fun v2 =>
      fX7_ones_4 n x0 v1 v2 s0)))
def fX7_ones (x0 : Int32) (s0 : AS) : Option AR :=
  fX7_ones_4 FU x0 0 0 s0
def fX7_isAhead (a0 : Nat) (x1 : Int32) (x2 : Int32) (s0 : AS) : Option AR :=
  gR s0 a0 11 11 (fun q1 =>
  aI s0 q1 100 x1 (fun v2 =>
  gR s0 a0 11 11 (fun q3 =>
  aI s0 q3 100 x2 (fun v4 =>
  if v4 < v2 then (
    rZ 1 s0)
  else (
    gR s0 a0 11 11 (fun q5 =>
    aI s0 q5 100 x1 (fun v6 =>
    gR s0 a0 11 11 (fun q7 =>
    aI s0 q7 100 x2 (fun v8 =>
    if v6 = v8 then (
      gR s0 a0 11 10 (fun q9 =>
      aI s0 q9 101 x1 (fun v10 =>
      if v10 = 0 then (
        rZ 0 s0)
      else (
        gR s0 a0 11 10 (fun q11 =>
        aI s0 q11 101 x2 (fun v12 =>
        if v12 = 0 then (
          rZ 1 s0)
        else (
          rZ 0 s0)))))))
    else (
      rZ 0 s0))))))))))
def fX7_laysOrder_53 (r2 : Nat → Int32 → AS → Option AR) (a0 : Nat) (x1 : Int32) (x2 : Int32) (s0 : AS) : Option AR :=
  gR s0 a0 11 33 (fun q1 =>
  uI s0 q1 x2 x1 (fun s2 =>
  lt (x1 + 1) (fun v3 =>
  r2 a0 v3 s2)))
def fX7_laysOrder_42 (r2 : Nat → Int32 → AS → Option AR) (r14 : Nat → Int32 → Int32 → Int32 → AS → Option AR) (a0 : Nat) (x1 : Int32) (x3 : Int32) (t0 : Int32) (t1 : Int32) (s0 : AS) : Option AR :=
  cS s0 (fX7_flag t1 s0) (qI (fun v1 s2 =>
  lt (t0 + v1) (fun v3 =>
  lt (x3 + 1) (fun v4 =>
  r14 a0 x1 v3 v4 s2))))
def fX7_laysOrder_41 (r2 : Nat → Int32 → AS → Option AR) (r14 : Nat → Int32 → Int32 → Int32 → AS → Option AR) (a0 : Nat) (x1 : Int32) (x3 : Int32) (t0 : Int32) (s0 : AS) : Option AR :=
  fX7_laysOrder_42 r2 r14 a0 x1 x3 t0 0 s0
def fX7_laysOrder_14 (r2 : Nat → Int32 → AS → Option AR) : Nat → Nat → Int32 → Int32 → Int32 → AS → Option AR
  | 0, _, _, _, _, _ => none
  | n + 1, a0, x1, x2, x3, s0 =>
    gI s0 a0 11 9 (fun v1 =>
    if v1 ≤ x3 then (
      fX7_laysOrder_53 r2 a0 x1 x2 s0)
    else (
      if x3 = x1 then (
        fX7_laysOrder_41 r2 (fX7_laysOrder_14 r2 n) a0 x1 x3 x2 s0)
      else (
        cV s0 a0 11 (fX7_isAhead a0 x3 x1 s0) (qI (fun v2 s3 =>
        if v2 = 0 then (
          fX7_laysOrder_41 r2 (fX7_laysOrder_14 r2 n) a0 x1 x3 x2 s3)
        else (
          fX7_laysOrder_42 r2 (fX7_laysOrder_14 r2 n) a0 x1 x3 x2 1 s3))))))
def fX7_laysOrder_2  : Nat → Nat → Int32 → AS → Option AR
  | 0, _, _, _ => none
  | n + 1, a0, x1, s0 =>
    gI s0 a0 11 9 (fun v1 =>
    if v1 ≤ x1 then (
      some (.inl none, s0))
    else (
      fX7_laysOrder_14 (fX7_laysOrder_2 n) FU a0 x1 0 0 s0))
def fX7_laysOrder (a0 : Nat) (s0 : AS) : Option AR :=
  fX7_laysOrder_2 FU a0 0 s0
def fX7_leftOf_22  (t0 : Int32) (t1 : Int32) (s0 : AS) : Option AR :=
  cS s0 (fX7_flag t1 s0) (qI (fun v1 s2 =>
  some (.inl (some (.int (t0 + v1))), s2)))
def fX7_leftOf (a0 : Nat) (x1 : Int32) (s0 : AS) : Option AR :=
  gR s0 a0 11 12 (fun q1 =>
  aI s0 q1 100 (6 + x1) (fun v2 =>
  gI s0 a0 11 37 (fun v3 =>
  if x1 = v3 then (
    fX7_leftOf_22 v2 1 s0)
  else (
    fX7_leftOf_22 v2 0 s0))))
def fX7_fewestWith_15  : Nat → Nat → Int32 → Int32 → Int32 → Int32 → Int32 → AS → Option AR
  | 0, _, _, _, _, _, _, _ => none
  | n + 1, a0, x1, x2, x3, x4, x5, s0 =>
    cV s0 a0 11 (fX7_leftOf a0 x3 s0) (qI (fun v1 s2 =>
    if v1 < x5 then (
      some (.inl (some (.int x4)), s2))
    else (
      gR s2 a0 11 11 (fun q3 =>
      aI s2 q3 100 x3 (fun v4 =>
      if x2 < (x5 * v4) then (
        some (.inl (some (.int x4)), s2))
      else (
        gR s2 a0 11 34 (fun q5 =>
        gR s2 a0 11 11 (fun q6 =>
        aI s2 q6 100 x3 (fun v7 =>
        aI s2 q5 100 (((501 * (x1 + 1)) + x2) - (x5 * v7)) (fun v8 =>
        lt (if (x5 + v8) < x4 then (x5 + v8) else x4) (fun v9 =>
        lt (x5 + 1) (fun v10 =>
        fX7_fewestWith_15 n a0 x1 x2 x3 v9 v10 s2))))))))))))
def fX7_fewestWith (a0 : Nat) (x1 : Int32) (x2 : Int32) (s0 : AS) : Option AR :=
  gR s0 a0 11 33 (fun q1 =>
  aI s0 q1 100 x1 (fun v2 =>
  fX7_fewestWith_15 FU a0 x1 x2 v2 1000000 0 s0))
def fX7_laysFewest_85 (r50 : Nat → Int32 → Int32 → AS → Option AR) (a0 : Nat) (x1 : Int32) (x2 : Int32) (s0 : AS) : Option AR :=
  lt (x2 + (-1)) (fun v1 =>
  r50 a0 x1 v1 s0)
def fX7_laysFewest_56 (r50 : Nat → Int32 → Int32 → AS → Option AR) : Nat → Nat → Int32 → Int32 → Int32 → AS → Option AR
  | 0, _, _, _, _, _ => none
  | n + 1, a0, x1, x2, x3, s0 =>
    if x1 < x3 then (
      fX7_laysFewest_85 r50 a0 x1 x2 s0)
    else (
      gR s0 a0 11 34 (fun q1 =>
      cV s0 a0 11 (fX7_fewestWith a0 x2 x3 s0) (qI (fun v2 s3 =>
      uI s3 q1 ((501 * x2) + x3) v2 (fun s4 =>
      lt (x3 + 1) (fun v5 =>
      fX7_laysFewest_56 r50 n a0 x1 x2 v5 s4))))))
def fX7_laysFewest_50  : Nat → Nat → Int32 → Int32 → AS → Option AR
  | 0, _, _, _, _ => none
  | n + 1, a0, x1, x2, s0 =>
    if x2 < 0 then (
      some (.inl none, s0))
    else (
      fX7_laysFewest_56 (fX7_laysFewest_50 n) FU a0 x1 x2 0 s0)
def fX7_laysFewest_43  (a0 : Nat) (x1 : Int32) (s0 : AS) : Option AR :=
  gI s0 a0 11 9 (fun v1 =>
  lt (v1 - 1) (fun v2 =>
  fX7_laysFewest_50 FU a0 x1 v2 s0))
def fX7_laysFewest_36 (r6 : Nat → Int32 → Int32 → AS → Option AR) (a0 : Nat) (x1 : Int32) (x2 : Int32) (t0 : Nat) (t1 : Int32) (t2 : Int32) (s0 : AS) : Option AR :=
  uI s0 t0 t1 t2 (fun s1 =>
  lt (x2 + 1) (fun v2 =>
  r6 a0 x1 v2 s1))
def fX7_laysFewest_6  : Nat → Nat → Int32 → Int32 → AS → Option AR
  | 0, _, _, _, _ => none
  | n + 1, a0, x1, x2, s0 =>
    if x1 < x2 then (
      fX7_laysFewest_43 a0 x1 s0)
    else (
      gR s0 a0 11 34 (fun q1 =>
      gI s0 a0 11 9 (fun v2 =>
      if x2 = 0 then (
        fX7_laysFewest_36 (fX7_laysFewest_6 n) a0 x1 x2 q1 ((501 * v2) + x2) 0 s0)
      else (
        fX7_laysFewest_36 (fX7_laysFewest_6 n) a0 x1 x2 q1 ((501 * v2) + x2) 1000000 s0))))
def fX7_laysFewest (a0 : Nat) (x1 : Int32) (s0 : AS) : Option AR :=
  cV s0 a0 11 (fX7_laysOrder a0 s0) (qV (fun s1 =>
  fX7_laysFewest_6 FU a0 x1 0 s1))
def fX7_need (a0 : Nat) (x1 : Int32) (s0 : AS) : Option AR :=
  cV s0 a0 11 (fX7_gap a0 x1 s0) (qI (fun v1 s2 =>
  cV s2 a0 11 (fX7_quoinLong a0 x1 s2) (qI (fun v3 s4 =>
  some (.inl (some (.int (v1 + v3))), s4)))))
def fX7_canOpen (a0 : Nat) (x1 : Int32) (s0 : AS) : Option AR :=
  cV s0 a0 11 (fX7_hasQuoin a0 x1 s0) (qI (fun v1 s2 =>
  if v1 = 0 then (
    gR s2 a0 11 12 (fun q3 =>
    aI s2 q3 100 0 (fun v4 =>
    if v4 ≤ 0 then (
      rZ 0 s2)
    else (
      rZ 1 s2))))
  else (
    rZ 1 s2)))
def fX7_sumFor (a0 : Nat) (x1 : Int32) (x2 : Int32) (s0 : AS) : Option AR :=
  if x2 = (-1 : Int32) then (
    cV s0 a0 11 (fX7_need a0 x1 s0) (qI (fun v4 s5 =>
    some (.inl (some (.int v4)), s5))))
  else (
    cV s0 a0 11 (fX7_need a0 x1 s0) (qI (fun v1 s2 =>
    gI s2 a0 11 4 (fun v3 =>
    some (.inl (some (.int ((v1 - v3) - x2))), s2)))))
def fX7_laysChosen_121 (r4 : Nat → Int32 → Int32 → AS → Option AR) (a0 : Nat) (x2 : Int32) (x3 : Int32) (x4 : Int32) (x5 : Int32) (s0 : AS) : Option AR :=
  gR s0 a0 11 35 (fun q1 =>
  uI s0 q1 x4 x5 (fun s2 =>
  gR s2 a0 11 11 (fun q3 =>
  aI s2 q3 100 x4 (fun v4 =>
  lt (x2 - (x5 * v4)) (fun v5 =>
  lt (x3 + 1) (fun v6 =>
  r4 a0 v5 v6 s2))))))
def fX7_laysChosen_113 (r4 : Nat → Int32 → Int32 → AS → Option AR) (r26 : Nat → Int32 → Int32 → Int32 → Int32 → Int32 → AS → Option AR) (a0 : Nat) (x2 : Int32) (x3 : Int32) (x4 : Int32) (x6 : Int32) (t0 : Int32) (s0 : AS) : Option AR :=
  lt (x6 + 1) (fun v1 =>
  r26 a0 x2 x3 x4 t0 v1 s0)
def fX7_laysChosen_99 (r4 : Nat → Int32 → Int32 → AS → Option AR) (r26 : Nat → Int32 → Int32 → Int32 → Int32 → Int32 → AS → Option AR) (a0 : Nat) (x2 : Int32) (x3 : Int32) (x4 : Int32) (x5 : Int32) (x6 : Int32) (t0 : Int32) (s0 : AS) : Option AR :=
  if t0 = 0 then (
    fX7_laysChosen_113 r4 r26 a0 x2 x3 x4 x6 x5 s0)
  else (
    fX7_laysChosen_113 r4 r26 a0 x2 x3 x4 x6 x6 s0)
def fX7_laysChosen_26 (r4 : Nat → Int32 → Int32 → AS → Option AR) : Nat → Nat → Int32 → Int32 → Int32 → Int32 → Int32 → AS → Option AR
  | 0, _, _, _, _, _, _, _ => none
  | n + 1, a0, x2, x3, x4, x5, x6, s0 =>
    cV s0 a0 11 (fX7_leftOf a0 x4 s0) (qI (fun v1 s2 =>
    if v1 < x6 then (
      fX7_laysChosen_121 r4 a0 x2 x3 x4 x5 s2)
    else (
      gR s2 a0 11 11 (fun q3 =>
      aI s2 q3 100 x4 (fun v4 =>
      if x2 < (x6 * v4) then (
        fX7_laysChosen_121 r4 a0 x2 x3 x4 x5 s2)
      else (
        gR s2 a0 11 34 (fun q5 =>
        gR s2 a0 11 11 (fun q6 =>
        aI s2 q6 100 x4 (fun v7 =>
        aI s2 q5 100 (((501 * (x3 + 1)) + x2) - (x6 * v7)) (fun v8 =>
        gR s2 a0 11 34 (fun q9 =>
        aI s2 q9 100 ((501 * x3) + x2) (fun v10 =>
        if (x6 + v8) = v10 then (
          fX7_laysChosen_99 r4 (fX7_laysChosen_26 r4 n) a0 x2 x3 x4 x5 x6 1 s2)
        else (
          fX7_laysChosen_99 r4 (fX7_laysChosen_26 r4 n) a0 x2 x3 x4 x5 x6 0 s2)))))))))))))
def fX7_laysChosen_4  : Nat → Nat → Int32 → Int32 → AS → Option AR
  | 0, _, _, _, _ => none
  | n + 1, a0, x2, x3, s0 =>
    gI s0 a0 11 9 (fun v1 =>
    if v1 ≤ x3 then (
      some (.inl none, s0))
    else (
      gR s0 a0 11 33 (fun q2 =>
      aI s0 q2 100 x3 (fun v3 =>
      fX7_laysChosen_26 (fX7_laysChosen_4 n) FU a0 x2 x3 v3 0 0 s0))))
def fX7_laysChosen (a0 : Nat) (x1 : Int32) (s0 : AS) : Option AR :=
  fX7_laysChosen_4 FU a0 x1 0 s0
def fX7_chooses_109  (a0 : Nat) (x1 : Int32) (x3 : Int32) (s0 : AS) : Option AR :=
  if x3 < (1000000 : Int32) then (
    gI s0 a0 11 36 (fun v1 =>
    cV s0 a0 11 (fX7_sumFor a0 x1 v1 s0) (qI (fun v2 s3 =>
    cV s3 a0 11 (fX7_laysChosen a0 v2 s3) (qV (fun s4 =>
    rZ 1 s4))))))
  else (
    rZ 0 s0)
def fX7_chooses_103 (r57 : Nat → Int32 → Int32 → Int32 → Int32 → AS → Option AR) (a0 : Nat) (x1 : Int32) (x3 : Int32) (x5 : Int32) (x6 : Int32) (s0 : AS) : Option AR :=
  lt (x6 + 1) (fun v1 =>
  r57 a0 x1 x3 x5 v1 s0)
def fX7_chooses_57  : Nat → Nat → Int32 → Int32 → Int32 → Int32 → AS → Option AR
  | 0, _, _, _, _, _, _ => none
  | n + 1, a0, x1, x3, x5, x6, s0 =>
    if x5 < x6 then (
      fX7_chooses_109 a0 x1 x3 s0)
    else (
      cV s0 a0 11 (fX7_sumFor a0 x1 x6 s0) (qI (fun v1 s2 =>
      if v1 < 0 then (
        fX7_chooses_103 (fX7_chooses_57 n) a0 x1 x3 x5 x6 s2)
      else (
        gR s2 a0 11 34 (fun q3 =>
        aI s2 q3 100 v1 (fun v4 =>
        if x3 ≤ v4 then (
          fX7_chooses_103 (fX7_chooses_57 n) a0 x1 x3 x5 x6 s2)
        else (
          gR s2 a0 11 34 (fun q5 =>
          aI s2 q5 100 v1 (fun v6 =>
          sI s2 a0 11 36 x6 (fun s7 =>
          fX7_chooses_103 (fX7_chooses_57 n) a0 x1 v6 x5 x6 s7))))))))))
def fX7_chooses_51  (a0 : Nat) (x1 : Int32) (x3 : Int32) (x4 : Int32) (t0 : Int32) (s0 : AS) : Option AR :=
  fX7_chooses_57 FU a0 x1 x3 t0 x4 s0
def fX7_chooses_33  (a0 : Nat) (x1 : Int32) (x3 : Int32) (t0 : Int32) (s0 : AS) : Option AR :=
  cV s0 a0 11 (fX7_canOpen a0 x1 s0) (qI (fun v1 s2 =>
  if v1 = 0 then (
    fX7_chooses_51 a0 x1 x3 t0 ((-1)) s2)
  else (
    gI s2 a0 11 5 (fun v3 =>
    fX7_chooses_51 a0 x1 x3 t0 v3 s2))))
def fX7_chooses (a0 : Nat) (x1 : Int32) (s0 : AS) : Option AR :=
  cV s0 a0 11 (fX7_need a0 x1 s0) (qI (fun v1 s2 =>
  cV s2 a0 11 (fX7_laysFewest a0 v1 s2) (qV (fun s3 =>
  sI s3 a0 11 36 ((-1)) (fun s4 =>
  cV s4 a0 11 (fX7_canOpen a0 x1 s4) (qI (fun v5 s6 =>
  if v5 = 0 then (
    fX7_chooses_33 a0 x1 1000000 ((-1)) s6)
  else (
    fX7_chooses_33 a0 x1 1000000 0 s6))))))))
def fX7_chosenMany_36 (r4 : Nat → Int32 → Int32 → Int32 → AS → Option AR) (a0 : Nat) (x1 : Int32) (x3 : Int32) (t0 : Int32) (t1 : Int32) (s0 : AS) : Option AR :=
  lt (t0 + t1) (fun v1 =>
  lt (x3 + 1) (fun v2 =>
  r4 a0 x1 v1 v2 s0))
def fX7_chosenMany_30 (r4 : Nat → Int32 → Int32 → Int32 → AS → Option AR) (a0 : Nat) (x1 : Int32) (x3 : Int32) (t0 : Int32) (s0 : AS) : Option AR :=
  gR s0 a0 11 35 (fun q1 =>
  aI s0 q1 100 x3 (fun v2 =>
  fX7_chosenMany_36 r4 a0 x1 x3 t0 v2 s0))
def fX7_chosenMany_4  : Nat → Nat → Int32 → Int32 → Int32 → AS → Option AR
  | 0, _, _, _, _, _ => none
  | n + 1, a0, x1, x2, x3, s0 =>
    gI s0 a0 11 9 (fun v1 =>
    if v1 ≤ x3 then (
      some (.inl (some (.int x2)), s0))
    else (
      if x1 = 0 then (
        fX7_chosenMany_30 (fX7_chosenMany_4 n) a0 x1 x3 x2 s0)
      else (
        gR s0 a0 11 10 (fun q2 =>
        aI s0 q2 101 x3 (fun v3 =>
        if v3 = 0 then (
          fX7_chosenMany_30 (fX7_chosenMany_4 n) a0 x1 x3 x2 s0)
        else (
          fX7_chosenMany_36 (fX7_chosenMany_4 n) a0 x1 x3 x2 0 s0))))))
def fX7_chosenMany (a0 : Nat) (x1 : Int32) (s0 : AS) : Option AR :=
  fX7_chosenMany_4 FU a0 x1 0 0 s0
def fX7_chosenLong_4  : Nat → Nat → Int32 → Int32 → AS → Option AR
  | 0, _, _, _, _ => none
  | n + 1, a0, x1, x2, s0 =>
    gI s0 a0 11 9 (fun v1 =>
    if v1 ≤ x2 then (
      some (.inl (some (.int x1)), s0))
    else (
      gR s0 a0 11 35 (fun q2 =>
      aI s0 q2 100 x2 (fun v3 =>
      gR s0 a0 11 11 (fun q4 =>
      aI s0 q4 100 x2 (fun v5 =>
      lt (x1 + (v3 * v5)) (fun v6 =>
      lt (x2 + 1) (fun v7 =>
      fX7_chosenLong_4 n a0 v6 v7 s0))))))))
def fX7_chosenLong (a0 : Nat) (s0 : AS) : Option AR :=
  fX7_chosenLong_4 FU a0 0 0 s0
def fX7_laysWays_121 (r33 : Nat → Int32 → Int32 → AS → Option AR) (a0 : Nat) (x1 : Int32) (x2 : Int32) (s0 : AS) : Option AR :=
  lt (x2 + 1) (fun v1 =>
  r33 a0 x1 v1 s0)
def fX7_laysWays_107 (r33 : Nat → Int32 → Int32 → AS → Option AR) (r43 : Nat → Int32 → Int32 → Int32 → AS → Option AR) (a0 : Nat) (x1 : Int32) (x2 : Int32) (x3 : Int32) (x4 : Int32) (s0 : AS) : Option AR :=
  gR s0 a0 11 38 (fun q1 =>
  uI s0 q1 x3 x4 (fun s2 =>
  lt (x3 + (-1)) (fun v3 =>
  r43 a0 x1 x2 v3 s2)))
def fX7_laysWays_53 (r33 : Nat → Int32 → Int32 → AS → Option AR) (r43 : Nat → Int32 → Int32 → Int32 → AS → Option AR) : Nat → Nat → Int32 → Int32 → Int32 → Int32 → Int32 → AS → Option AR
  | 0, _, _, _, _, _, _, _ => none
  | n + 1, a0, x1, x2, x3, x4, x5, s0 =>
    cV s0 a0 11 (fX7_leftOf a0 x2 s0) (qI (fun v1 s2 =>
    if v1 < x5 then (
      fX7_laysWays_107 r33 r43 a0 x1 x2 x3 x4 s2)
    else (
      gR s2 a0 11 11 (fun q3 =>
      aI s2 q3 100 x2 (fun v4 =>
      if x3 < (x5 * v4) then (
        fX7_laysWays_107 r33 r43 a0 x1 x2 x3 x4 s2)
      else (
        gR s2 a0 11 38 (fun q5 =>
        gR s2 a0 11 11 (fun q6 =>
        aI s2 q6 100 x2 (fun v7 =>
        aI s2 q5 100 (x3 - (x5 * v7)) (fun v8 =>
        if (1000003 : Int32) = 0 then none else (
        lt ((x4 + v8) - (x4 + v8) / 1000003 * 1000003) (fun v9 =>
        lt (x5 + 1) (fun v10 =>
        fX7_laysWays_53 r33 r43 n a0 x1 x2 x3 v9 v10 s2)))))))))))))
def fX7_laysWays_43 (r33 : Nat → Int32 → Int32 → AS → Option AR) : Nat → Nat → Int32 → Int32 → Int32 → AS → Option AR
  | 0, _, _, _, _, _ => none
  | n + 1, a0, x1, x2, x3, s0 =>
    if x3 < 0 then (
      fX7_laysWays_121 r33 a0 x1 x2 s0)
    else (
      fX7_laysWays_53 r33 (fX7_laysWays_43 r33 n) FU a0 x1 x2 x3 0 0 s0)
def fX7_laysWays_33  : Nat → Nat → Int32 → Int32 → AS → Option AR
  | 0, _, _, _, _ => none
  | n + 1, a0, x1, x2, s0 =>
    gI s0 a0 11 9 (fun v1 =>
    if v1 ≤ x2 then (
      some (.inl none, s0))
    else (
      fX7_laysWays_43 (fX7_laysWays_33 n) FU a0 x1 x2 x1 s0))
def fX7_laysWays_31  (a0 : Nat) (x1 : Int32) (s0 : AS) : Option AR :=
  fX7_laysWays_33 FU a0 x1 0 s0
def fX7_laysWays_21 (r2 : Nat → Int32 → Int32 → AS → Option AR) (a0 : Nat) (x1 : Int32) (x2 : Int32) (t0 : Nat) (t1 : Int32) (t2 : Int32) (s0 : AS) : Option AR :=
  cS s0 (fX7_flag t2 s0) (qI (fun v1 s2 =>
  uI s2 t0 t1 v1 (fun s3 =>
  lt (x2 + 1) (fun v4 =>
  r2 a0 x1 v4 s3))))
def fX7_laysWays_2  : Nat → Nat → Int32 → Int32 → AS → Option AR
  | 0, _, _, _, _ => none
  | n + 1, a0, x1, x2, s0 =>
    if x1 < x2 then (
      fX7_laysWays_31 a0 x1 s0)
    else (
      gR s0 a0 11 38 (fun q1 =>
      if x2 = 0 then (
        fX7_laysWays_21 (fX7_laysWays_2 n) a0 x1 x2 q1 x2 1 s0)
      else (
        fX7_laysWays_21 (fX7_laysWays_2 n) a0 x1 x2 q1 x2 0 s0)))
def fX7_laysWays (a0 : Nat) (x1 : Int32) (s0 : AS) : Option AR :=
  fX7_laysWays_2 FU a0 x1 0 s0
def fX7_locks_110  (a0 : Nat) (x1 : Int32) (s0 : AS) : Option AR :=
  cV s0 a0 11 (fX7_puts a0 x1 4 0 s0) (qV (fun s1 =>
  rZ 1 s1))
def fX7_locks_104 (r62 : Nat → Int32 → Int32 → AS → Option AR) (a0 : Nat) (x1 : Int32) (x2 : Int32) (s0 : AS) : Option AR :=
  lt (x2 + 1) (fun v1 =>
  r62 a0 x1 v1 s0)
def fX7_locks_72 (r62 : Nat → Int32 → Int32 → AS → Option AR) : Nat → Nat → Int32 → Int32 → Int32 → AS → Option AR
  | 0, _, _, _, _, _ => none
  | n + 1, a0, x1, x2, x3, s0 =>
    gR s0 a0 11 35 (fun q1 =>
    gR s0 a0 11 33 (fun q2 =>
    aI s0 q2 100 x2 (fun v3 =>
    aI s0 q1 100 v3 (fun v4 =>
    if v4 ≤ x3 then (
      fX7_locks_104 r62 a0 x1 x2 s0)
    else (
      gR s0 a0 11 33 (fun q5 =>
      aI s0 q5 100 x2 (fun v6 =>
      cV s0 a0 11 (fX7_putsPiece a0 x1 v6 s0) (qV (fun s7 =>
      lt (x3 + 1) (fun v8 =>
      fX7_locks_72 r62 n a0 x1 x2 v8 s7))))))))))
def fX7_locks_62  : Nat → Nat → Int32 → Int32 → AS → Option AR
  | 0, _, _, _, _ => none
  | n + 1, a0, x1, x2, s0 =>
    gI s0 a0 11 9 (fun v1 =>
    if v1 ≤ x2 then (
      fX7_locks_110 a0 x1 s0)
    else (
      fX7_locks_72 (fX7_locks_62 n) FU a0 x1 x2 0 s0))
def fX7_locks_60  (a0 : Nat) (x1 : Int32) (s0 : AS) : Option AR :=
  fX7_locks_62 FU a0 x1 0 s0
def fX7_locks_38  (a0 : Nat) (x1 : Int32) (t0 : Nat) (t1 : Int32) (t2 : Int32) (t3 : Int32) (s0 : AS) : Option AR :=
  cS s0 (fX7_flag t3 s0) (qI (fun v1 s2 =>
  uI s2 t0 t1 (t2 - v1) (fun s3 =>
  gI s3 a0 11 36 (fun v4 =>
  cV s3 a0 11 (fX7_puts a0 x1 2 v4 s3) (qV (fun s5 =>
  cV s5 a0 11 (fX7_puts a0 x1 3 0 s5) (qV (fun s6 =>
  fX7_locks_60 a0 x1 s6))))))))
def fX7_locks (a0 : Nat) (x1 : Int32) (s0 : AS) : Option AR :=
  cV s0 a0 11 (fX7_chooses a0 x1 s0) (qI (fun v1 s2 =>
  if v1 = 0 then (
    rZ 0 s2)
  else (
    gI s2 a0 11 36 (fun v3 =>
    if v3 = (-1 : Int32) then (
      fX7_locks_60 a0 x1 s2)
    else (
      gR s2 a0 11 12 (fun q4 =>
      aI s2 q4 100 0 (fun v5 =>
      cV s2 a0 11 (fX7_hasQuoin a0 x1 s2) (qI (fun v6 s7 =>
      if v6 = 0 then (
        fX7_locks_38 a0 x1 q4 0 v5 1 s7)
      else (
        fX7_locks_38 a0 x1 q4 0 v5 0 s7))))))))))
def fX7_sumOver_4  : Nat → Nat → Int32 → Int32 → Int32 → AS → Option AR
  | 0, _, _, _, _, _ => none
  | n + 1, a0, x1, x2, x3, s0 =>
    gI s0 a0 11 3 (fun v1 =>
    if v1 ≤ x3 then (
      some (.inl (some (.int x2)), s0))
    else (
      cV s0 a0 11 (fX7_of a0 x3 x1 s0) (qI (fun v2 s3 =>
      lt (x2 + v2) (fun v4 =>
      lt (x3 + 1) (fun v5 =>
      fX7_sumOver_4 n a0 x1 v4 v5 s3))))))
def fX7_sumOver (a0 : Nat) (x1 : Int32) (s0 : AS) : Option AR :=
  fX7_sumOver_4 FU a0 x1 0 0 s0
def fX7_tightRows_4  : Nat → Nat → Int32 → Int32 → AS → Option AR
  | 0, _, _, _, _ => none
  | n + 1, a0, x1, x2, s0 =>
    gI s0 a0 11 3 (fun v1 =>
    if v1 ≤ x2 then (
      some (.inl (some (.int x1)), s0))
    else (
      cV s0 a0 11 (fX7_isTightRow a0 x2 s0) (qI (fun v2 s3 =>
      cS s3 (fX7_flag v2 s3) (qI (fun v4 s5 =>
      lt (x1 + v4) (fun v6 =>
      lt (x2 + 1) (fun v7 =>
      fX7_tightRows_4 n a0 v6 v7 s5))))))))
def fX7_tightRows (a0 : Nat) (s0 : AS) : Option AR :=
  fX7_tightRows_4 FU a0 0 0 s0
def fX7_leftAll_36 (r4 : Nat → Int32 → Int32 → Int32 → AS → Option AR) (a0 : Nat) (x1 : Int32) (x3 : Int32) (t0 : Int32) (t1 : Int32) (t2 : Int32) (s0 : AS) : Option AR :=
  lt (t0 + (t1 * t2)) (fun v1 =>
  lt (x3 + 1) (fun v2 =>
  r4 a0 x1 v1 v2 s0))
def fX7_leftAll_4  : Nat → Nat → Int32 → Int32 → Int32 → AS → Option AR
  | 0, _, _, _, _, _ => none
  | n + 1, a0, x1, x2, x3, s0 =>
    gI s0 a0 11 9 (fun v1 =>
    if v1 ≤ x3 then (
      some (.inl (some (.int x2)), s0))
    else (
      gR s0 a0 11 12 (fun q2 =>
      aI s0 q2 100 (6 + x3) (fun v3 =>
      if x1 = 0 then (
        fX7_leftAll_36 (fX7_leftAll_4 n) a0 x1 x3 x2 v3 1 s0)
      else (
        gR s0 a0 11 11 (fun q4 =>
        aI s0 q4 100 x3 (fun v5 =>
        fX7_leftAll_36 (fX7_leftAll_4 n) a0 x1 x3 x2 v3 v5 s0)))))))
def fX7_leftAll (a0 : Nat) (x1 : Int32) (s0 : AS) : Option AR :=
  fX7_leftAll_4 FU a0 x1 0 0 s0
def fX7_count_136  (a0 : Nat) (x1 : Int32) (s0 : AS) : Option AR :=
  gR s0 a0 11 12 (fun q1 =>
  aI s0 q1 100 ((1 + x1) - 6) (fun v2 =>
  some (.inl (some (.int v2)), s0)))
def fX7_count_23  (a0 : Nat) (x1 : Int32) (t0 : Nat) (t1 : Int32) (s0 : AS) : Option AR :=
  cV s0 t0 11 (fX7_refuse t0 t1 2 s0) (qI (fun v1 s2 =>
  if v1 = 0 then (
    if x1 = 0 then (
      gI s2 a0 11 3 (fun v3 =>
      some (.inl (some (.int v3)), s2)))
    else (
    if x1 = 1 then (
      gI s2 a0 11 9 (fun v4 =>
      some (.inl (some (.int v4)), s2)))
    else (
    if x1 = 2 then (
      gR s2 a0 11 12 (fun q5 =>
      aI s2 q5 100 0 (fun v6 =>
      some (.inl (some (.int v6)), s2))))
    else (
    if x1 = 3 then (
      cV s2 a0 11 (fX7_sumOver a0 0 s2) (qI (fun v7 s8 =>
      some (.inl (some (.int v7)), s8))))
    else (
    if x1 = 4 then (
      cV s2 a0 11 (fX7_sumOver a0 1 s2) (qI (fun v9 s10 =>
      some (.inl (some (.int v9)), s10))))
    else (
    if x1 = 5 then (
      cV s2 a0 11 (fX7_tightRows a0 s2) (qI (fun v11 s12 =>
      some (.inl (some (.int v11)), s12))))
    else (
    if x1 = 6 then (
      fX7_count_136 a0 x1 s2)
    else (
    if x1 = 7 then (
      fX7_count_136 a0 x1 s2)
    else (
    if x1 = 8 then (
      fX7_count_136 a0 x1 s2)
    else (
    if x1 = 9 then (
      fX7_count_136 a0 x1 s2)
    else (
    if x1 = 10 then (
      fX7_count_136 a0 x1 s2)
    else (
    if x1 = 11 then (
      cV s2 a0 11 (fX7_leftAll a0 0 s2) (qI (fun v13 s14 =>
      some (.inl (some (.int v13)), s14))))
    else (
    fX7_count_136 a0 x1 s2)))))))))))))
  else (
    some (.inl (some (.int 0)), s2))))
def fX7_count (a0 : Nat) (x1 : Int32) (s0 : AS) : Option AR :=
  cV s0 a0 11 (fX7_notLoaded a0 s0) (qI (fun v1 s2 =>
  if v1 = 0 then (
    cS s2 (fX7_in x1 0 11 s2) (qI (fun v3 s4 =>
    if v3 = 0 then (
      fX7_count_23 a0 x1 a0 1 s4)
    else (
      fX7_count_23 a0 x1 a0 0 s4))))
  else (
    some (.inl (some (.int 0)), s2))))
def fX7_setting_22  (a0 : Nat) (x1 : Int32) (t0 : Nat) (t1 : Int32) (s0 : AS) : Option AR :=
  cV s0 t0 11 (fX7_refuse t0 t1 2 s0) (qI (fun v1 s2 =>
  if v1 = 0 then (
    if x1 = 0 then (
      gI s2 a0 11 2 (fun v8 =>
      some (.inl (some (.int v8)), s2)))
    else (
      if x1 = (1 : Int32) then (
        gI s2 a0 11 4 (fun v7 =>
        some (.inl (some (.int v7)), s2)))
      else (
        if x1 = (2 : Int32) then (
          gI s2 a0 11 5 (fun v6 =>
          some (.inl (some (.int v6)), s2)))
        else (
          if x1 = (3 : Int32) then (
            gI s2 a0 11 6 (fun v5 =>
            some (.inl (some (.int v5)), s2)))
          else (
            if x1 = (4 : Int32) then (
              gI s2 a0 11 7 (fun v4 =>
              some (.inl (some (.int v4)), s2)))
            else (
              gI s2 a0 11 8 (fun v3 =>
              some (.inl (some (.int v3)), s2))))))))
  else (
    some (.inl (some (.int 0)), s2))))
def fX7_setting (a0 : Nat) (x1 : Int32) (s0 : AS) : Option AR :=
  cV s0 a0 11 (fX7_notLoaded a0 s0) (qI (fun v1 s2 =>
  if v1 = 0 then (
    cS s2 (fX7_in x1 0 5 s2) (qI (fun v3 s4 =>
    if v3 = 0 then (
      fX7_setting_22 a0 x1 a0 1 s4)
    else (
      fX7_setting_22 a0 x1 a0 0 s4))))
  else (
    some (.inl (some (.int 0)), s2))))
def fX7_isRow (a0 : Nat) (x1 : Int32) (s0 : AS) : Option AR :=
  gI s0 a0 11 3 (fun v1 =>
  cS s0 (fX7_in x1 0 (v1 - 1) s0) (qI (fun v2 s3 =>
  rZ v2 s3)))
def fX7_noRow_21  (t0 : Nat) (t1 : Int32) (s0 : AS) : Option AR :=
  cV s0 t0 11 (fX7_refuse t0 t1 2 s0) (qI (fun v1 s2 =>
  if v1 = 0 then (
    rZ 0 s2)
  else (
    rZ 1 s2)))
def fX7_noRow (a0 : Nat) (x1 : Int32) (s0 : AS) : Option AR :=
  cV s0 a0 11 (fX7_notLoaded a0 s0) (qI (fun v1 s2 =>
  if v1 = 0 then (
    cV s2 a0 11 (fX7_isRow a0 x1 s2) (qI (fun v3 s4 =>
    if v3 = 0 then (
      fX7_noRow_21 a0 1 s4)
    else (
      fX7_noRow_21 a0 0 s4))))
  else (
    rZ 1 s2)))
def fX7_row_24  (a0 : Nat) (x1 : Int32) (x2 : Int32) (t0 : Nat) (t1 : Int32) (s0 : AS) : Option AR :=
  cV s0 t0 11 (fX7_refuse t0 t1 3 s0) (qI (fun v1 s2 =>
  if v1 = 0 then (
    if x2 = 0 then (
      cV s2 a0 11 (fX7_of a0 x1 0 s2) (qI (fun v3 s4 =>
      some (.inl (some (.int v3)), s4))))
    else (
    if x2 = 1 then (
      cV s2 a0 11 (fX7_of a0 x1 1 s2) (qI (fun v5 s6 =>
      some (.inl (some (.int v5)), s6))))
    else (
    if x2 = 2 then (
      cV s2 a0 11 (fX7_filledLong a0 x1 s2) (qI (fun v7 s8 =>
      some (.inl (some (.int v7)), s8))))
    else (
    if x2 = 3 then (
      cV s2 a0 11 (fX7_gap a0 x1 s2) (qI (fun v9 s10 =>
      some (.inl (some (.int v9)), s10))))
    else (
    if x2 = 4 then (
      cV s2 a0 11 (fX7_of a0 x1 2 s2) (qI (fun v11 s12 =>
      some (.inl (some (.int v11)), s12))))
    else (
    if x2 = 5 then (
      cV s2 a0 11 (fX7_of a0 x1 4 s2) (qI (fun v13 s14 =>
      some (.inl (some (.int v13)), s14))))
    else (
    if x2 = 6 then (
      cV s2 a0 11 (fX7_woodIn a0 x1 s2) (qI (fun v15 s16 =>
      some (.inl (some (.int v15)), s16))))
    else (
    if x2 = 7 then (
      cV s2 a0 11 (fX7_blocksLong a0 x1 s2) (qI (fun v17 s18 =>
      some (.inl (some (.int v17)), s18))))
    else (
    cV s2 a0 11 (fX7_hasQuoin a0 x1 s2) (qI (fun v19 s20 =>
    if v19 = 0 then (
      some (.inl (some (.int ((-1)))), s20))
    else (
      cV s20 a0 11 (fX7_of a0 x1 3 s20) (qI (fun v21 s22 =>
      some (.inl (some (.int v21)), s22)))))))))))))))
  else (
    some (.inl (some (.int 0)), s2))))
def fX7_row (a0 : Nat) (x1 : Int32) (x2 : Int32) (s0 : AS) : Option AR :=
  cV s0 a0 11 (fX7_noRow a0 x1 s0) (qI (fun v1 s2 =>
  if v1 = 0 then (
    cS s2 (fX7_in x2 0 8 s2) (qI (fun v3 s4 =>
    if v3 = 0 then (
      fX7_row_24 a0 x1 x2 a0 1 s4)
    else (
      fX7_row_24 a0 x1 x2 a0 0 s4))))
  else (
    some (.inl (some (.int 0)), s2))))
def fX7_block_30  (a0 : Nat) (x1 : Int32) (x2 : Int32) (t0 : Nat) (t1 : Int32) (s0 : AS) : Option AR :=
  cV s0 t0 11 (fX7_refuse t0 t1 2 s0) (qI (fun v1 s2 =>
  if v1 = 0 then (
    cV s2 a0 11 (fX7_of a0 x1 (5 + x2) s2) (qI (fun v3 s4 =>
    some (.inl (some (.int v3)), s4))))
  else (
    some (.inl (some (.int 0)), s2))))
def fX7_block (a0 : Nat) (x1 : Int32) (x2 : Int32) (s0 : AS) : Option AR :=
  cV s0 a0 11 (fX7_noRow a0 x1 s0) (qI (fun v1 s2 =>
  if v1 = 0 then (
    cV s2 a0 11 (fX7_of a0 x1 0 s2) (qI (fun v3 s4 =>
    cS s4 (fX7_in x2 0 (v3 - 1) s4) (qI (fun v5 s6 =>
    if v5 = 0 then (
      fX7_block_30 a0 x1 x2 a0 1 s6)
    else (
      fX7_block_30 a0 x1 x2 a0 0 s6))))))
  else (
    some (.inl (some (.int 0)), s2))))
def fX7_piece_30  (a0 : Nat) (x1 : Int32) (x2 : Int32) (t0 : Nat) (t1 : Int32) (s0 : AS) : Option AR :=
  cV s0 t0 11 (fX7_refuse t0 t1 2 s0) (qI (fun v1 s2 =>
  if v1 = 0 then (
    cV s2 a0 11 (fX7_of a0 x1 (11 + x2) s2) (qI (fun v3 s4 =>
    some (.inl (some (.int v3)), s4))))
  else (
    some (.inl (some (.int 0)), s2))))
def fX7_piece (a0 : Nat) (x1 : Int32) (x2 : Int32) (s0 : AS) : Option AR :=
  cV s0 a0 11 (fX7_noRow a0 x1 s0) (qI (fun v1 s2 =>
  if v1 = 0 then (
    cV s2 a0 11 (fX7_of a0 x1 1 s2) (qI (fun v3 s4 =>
    cS s4 (fX7_in x2 0 (v3 - 1) s4) (qI (fun v5 s6 =>
    if v5 = 0 then (
      fX7_piece_30 a0 x1 x2 a0 1 s6)
    else (
      fX7_piece_30 a0 x1 x2 a0 0 s6))))))
  else (
    some (.inl (some (.int 0)), s2))))
def fX7_isKind (a0 : Nat) (x1 : Int32) (s0 : AS) : Option AR :=
  gI s0 a0 11 9 (fun v1 =>
  cS s0 (fX7_in x1 0 (v1 - 1) s0) (qI (fun v2 s3 =>
  rZ v2 s3)))
def fX7_usedOf_57 (r4 : Nat → Int32 → Int32 → Int32 → AS → Option AR) (a0 : Nat) (x1 : Int32) (x2 : Int32) (x3 : Int32) (s0 : AS) : Option AR :=
  lt (x3 + 1) (fun v1 =>
  r4 a0 x1 x2 v1 s0)
def fX7_usedOf_46 (r4 : Nat → Int32 → Int32 → Int32 → AS → Option AR) (r15 : Nat → Int32 → Int32 → Int32 → Int32 → AS → Option AR) (a0 : Nat) (x1 : Int32) (x3 : Int32) (x4 : Int32) (t0 : Int32) (t1 : Int32) (s0 : AS) : Option AR :=
  cS s0 (fX7_flag t1 s0) (qI (fun v1 s2 =>
  lt (t0 + v1) (fun v3 =>
  lt (x4 + 1) (fun v4 =>
  r15 a0 x1 v3 x3 v4 s2))))
def fX7_usedOf_15 (r4 : Nat → Int32 → Int32 → Int32 → AS → Option AR) : Nat → Nat → Int32 → Int32 → Int32 → Int32 → AS → Option AR
  | 0, _, _, _, _, _, _ => none
  | n + 1, a0, x1, x2, x3, x4, s0 =>
    cV s0 a0 11 (fX7_of a0 x3 1 s0) (qI (fun v1 s2 =>
    if v1 ≤ x4 then (
      fX7_usedOf_57 r4 a0 x1 x2 x3 s2)
    else (
      cV s2 a0 11 (fX7_of a0 x3 (11 + x4) s2) (qI (fun v3 s4 =>
      if v3 = x1 then (
        fX7_usedOf_46 r4 (fX7_usedOf_15 r4 n) a0 x1 x3 x4 x2 1 s4)
      else (
        fX7_usedOf_46 r4 (fX7_usedOf_15 r4 n) a0 x1 x3 x4 x2 0 s4))))))
def fX7_usedOf_4  : Nat → Nat → Int32 → Int32 → Int32 → AS → Option AR
  | 0, _, _, _, _, _ => none
  | n + 1, a0, x1, x2, x3, s0 =>
    gI s0 a0 11 3 (fun v1 =>
    if v1 ≤ x3 then (
      some (.inl (some (.int x2)), s0))
    else (
      fX7_usedOf_15 (fX7_usedOf_4 n) FU a0 x1 x2 x3 0 s0))
def fX7_usedOf (a0 : Nat) (x1 : Int32) (s0 : AS) : Option AR :=
  fX7_usedOf_4 FU a0 x1 0 0 s0
def fX7_kind_43  (a0 : Nat) (x1 : Int32) (x2 : Int32) (t0 : Nat) (t1 : Int32) (s0 : AS) : Option AR :=
  cV s0 t0 11 (fX7_refuse t0 t1 3 s0) (qI (fun v1 s2 =>
  if v1 = 0 then (
    if x2 = 0 then (
      gR s2 a0 11 10 (fun q9 =>
      aI s2 q9 101 x1 (fun v10 =>
      cS s2 (fX7_flag v10 s2) (qI (fun v11 s12 =>
      some (.inl (some (.int v11)), s12))))))
    else (
      if x2 = (1 : Int32) then (
        gR s2 a0 11 11 (fun q7 =>
        aI s2 q7 100 x1 (fun v8 =>
        some (.inl (some (.int v8)), s2))))
      else (
        if x2 = (2 : Int32) then (
          gR s2 a0 11 12 (fun q5 =>
          aI s2 q5 100 (6 + x1) (fun v6 =>
          some (.inl (some (.int v6)), s2))))
        else (
          cV s2 a0 11 (fX7_usedOf a0 x1 s2) (qI (fun v3 s4 =>
          some (.inl (some (.int v3)), s4)))))))
  else (
    some (.inl (some (.int 0)), s2))))
def fX7_kind_21  (a0 : Nat) (x1 : Int32) (x2 : Int32) (t0 : Nat) (t1 : Int32) (s0 : AS) : Option AR :=
  cV s0 t0 11 (fX7_refuse t0 t1 2 s0) (qI (fun v1 s2 =>
  if v1 = 0 then (
    cS s2 (fX7_in x2 0 3 s2) (qI (fun v3 s4 =>
    if v3 = 0 then (
      fX7_kind_43 a0 x1 x2 a0 1 s4)
    else (
      fX7_kind_43 a0 x1 x2 a0 0 s4))))
  else (
    some (.inl (some (.int 0)), s2))))
def fX7_kind (a0 : Nat) (x1 : Int32) (x2 : Int32) (s0 : AS) : Option AR :=
  cV s0 a0 11 (fX7_notLoaded a0 s0) (qI (fun v1 s2 =>
  if v1 = 0 then (
    cV s2 a0 11 (fX7_isKind a0 x1 s2) (qI (fun v3 s4 =>
    if v3 = 0 then (
      fX7_kind_21 a0 x1 x2 a0 1 s4)
    else (
      fX7_kind_21 a0 x1 x2 a0 0 s4))))
  else (
    some (.inl (some (.int 0)), s2))))
def fX7_kindOf (a0 : Nat) (x1 : Int32) (x2 : Int32) (s0 : AS) : Option AR :=
  cV s0 a0 11 (fX7_notLoaded a0 s0) (qI (fun v1 s2 =>
  if v1 = 0 then (
    cV s2 a0 11 (fX7_ofLength a0 x1 x2 s2) (qI (fun v3 s4 =>
    some (.inl (some (.int v3)), s4))))
  else (
    some (.inl (some (.int 0)), s2))))
def fX7_isTight (a0 : Nat) (x1 : Int32) (s0 : AS) : Option AR :=
  cV s0 a0 11 (fX7_noRow a0 x1 s0) (qI (fun v1 s2 =>
  if v1 = 0 then (
    cV s2 a0 11 (fX7_isTightRow a0 x1 s2) (qI (fun v3 s4 =>
    if v3 = 0 then (
      rZ 0 s4)
    else (
      rZ 1 s4))))
  else (
    rZ 0 s2)))
def fX7_canPut_22  (a0 : Nat) (x1 : Int32) (x2 : Int32) (t0 : Nat) (t1 : Int32) (s0 : AS) : Option AR :=
  cV s0 t0 11 (fX7_refuse t0 t1 2 s0) (qI (fun v1 s2 =>
  if v1 = 0 then (
    gR s2 a0 11 12 (fun q3 =>
    aI s2 q3 100 (6 + x2) (fun v4 =>
    if v4 ≤ 0 then (
      rZ 0 s2)
    else (
      cV s2 a0 11 (fX7_gap a0 x1 s2) (qI (fun v5 s6 =>
      gR s6 a0 11 11 (fun q7 =>
      aI s6 q7 100 x2 (fun v8 =>
      if v5 < v8 then (
        rZ 0 s6)
      else (
        rZ 1 s6)))))))))
  else (
    rZ 0 s2)))
def fX7_canPut (a0 : Nat) (x1 : Int32) (x2 : Int32) (s0 : AS) : Option AR :=
  cV s0 a0 11 (fX7_noRow a0 x1 s0) (qI (fun v1 s2 =>
  if v1 = 0 then (
    cV s2 a0 11 (fX7_isKind a0 x2 s2) (qI (fun v3 s4 =>
    if v3 = 0 then (
      fX7_canPut_22 a0 x1 x2 a0 1 s4)
    else (
      fX7_canPut_22 a0 x1 x2 a0 0 s4))))
  else (
    rZ 0 s2)))
def fX7_widestGap_39 (r13 : Nat → Int32 → Int32 → AS → Option AR) (a0 : Nat) (x2 : Int32) (t0 : Int32) (s0 : AS) : Option AR :=
  lt (x2 + 1) (fun v1 =>
  r13 a0 t0 v1 s0)
def fX7_widestGap_13  : Nat → Nat → Int32 → Int32 → AS → Option AR
  | 0, _, _, _, _ => none
  | n + 1, a0, x1, x2, s0 =>
    gI s0 a0 11 3 (fun v1 =>
    if v1 ≤ x2 then (
      some (.inl (some (.int x1)), s0))
    else (
      cV s0 a0 11 (fX7_gap a0 x2 s0) (qI (fun v2 s3 =>
      cV s3 a0 11 (fX7_gap a0 x1 s3) (qI (fun v4 s5 =>
      if v2 ≤ v4 then (
        fX7_widestGap_39 (fX7_widestGap_13 n) a0 x2 x1 s5)
      else (
        fX7_widestGap_39 (fX7_widestGap_13 n) a0 x2 x2 s5)))))))
def fX7_widestGap (a0 : Nat) (s0 : AS) : Option AR :=
  cV s0 a0 11 (fX7_notLoaded a0 s0) (qI (fun v1 s2 =>
  if v1 = 0 then (
    fX7_widestGap_13 FU a0 0 1 s2)
  else (
    some (.inl (some (.int 0)), s2))))
def fX7_loosest_50 (r13 : Nat → Int32 → Int32 → AS → Option AR) (a0 : Nat) (x1 : Int32) (x2 : Int32) (s0 : AS) : Option AR :=
  lt (x2 + 1) (fun v1 =>
  r13 a0 x1 v1 s0)
def fX7_loosest_48 (r13 : Nat → Int32 → Int32 → AS → Option AR) (a0 : Nat) (x2 : Int32) (s0 : AS) : Option AR :=
  fX7_loosest_50 r13 a0 x2 x2 s0
def fX7_loosest_13  : Nat → Nat → Int32 → Int32 → AS → Option AR
  | 0, _, _, _, _ => none
  | n + 1, a0, x1, x2, s0 =>
    gI s0 a0 11 3 (fun v1 =>
    if v1 ≤ x2 then (
      some (.inl (some (.int x1)), s0))
    else (
      cV s0 a0 11 (fX7_of a0 x2 0 s0) (qI (fun v2 s3 =>
      if v2 ≤ 0 then (
        fX7_loosest_50 (fX7_loosest_13 n) a0 x1 x2 s3)
      else (
        if x1 = (-1 : Int32) then (
          fX7_loosest_48 (fX7_loosest_13 n) a0 x2 s3)
        else (
          cV s3 a0 11 (fX7_looseness a0 x2 s3) (qI (fun v4 s5 =>
          cV s5 a0 11 (fX7_looseness a0 x1 s5) (qI (fun v6 s7 =>
          if v4 ≤ v6 then (
            fX7_loosest_50 (fX7_loosest_13 n) a0 x1 x2 s7)
          else (
            fX7_loosest_48 (fX7_loosest_13 n) a0 x2 s7)))))))))))
def fX7_loosest (a0 : Nat) (s0 : AS) : Option AR :=
  cV s0 a0 11 (fX7_notLoaded a0 s0) (qI (fun v1 s2 =>
  if v1 = 0 then (
    lt ((-1)) (fun v3 =>
    fX7_loosest_13 FU a0 v3 0 s2))
  else (
    some (.inl (some (.int 0)), s2))))
def fX7_longestLeft_49 (r13 : Nat → Int32 → Int32 → AS → Option AR) (a0 : Nat) (x1 : Int32) (x2 : Int32) (s0 : AS) : Option AR :=
  lt (x2 + 1) (fun v1 =>
  r13 a0 x1 v1 s0)
def fX7_longestLeft_47 (r13 : Nat → Int32 → Int32 → AS → Option AR) (a0 : Nat) (x2 : Int32) (s0 : AS) : Option AR :=
  fX7_longestLeft_49 r13 a0 x2 x2 s0
def fX7_longestLeft_13  : Nat → Nat → Int32 → Int32 → AS → Option AR
  | 0, _, _, _, _ => none
  | n + 1, a0, x1, x2, s0 =>
    gI s0 a0 11 9 (fun v1 =>
    if v1 ≤ x2 then (
      some (.inl (some (.int x1)), s0))
    else (
      gR s0 a0 11 12 (fun q2 =>
      aI s0 q2 100 (6 + x2) (fun v3 =>
      if v3 ≤ 0 then (
        fX7_longestLeft_49 (fX7_longestLeft_13 n) a0 x1 x2 s0)
      else (
        if x1 = (-1 : Int32) then (
          fX7_longestLeft_47 (fX7_longestLeft_13 n) a0 x2 s0)
        else (
          cV s0 a0 11 (fX7_isAhead a0 x2 x1 s0) (qI (fun v4 s5 =>
          if v4 = 0 then (
            fX7_longestLeft_49 (fX7_longestLeft_13 n) a0 x1 x2 s5)
          else (
            fX7_longestLeft_47 (fX7_longestLeft_13 n) a0 x2 s5)))))))))
def fX7_longestLeft (a0 : Nat) (s0 : AS) : Option AR :=
  cV s0 a0 11 (fX7_notLoaded a0 s0) (qI (fun v1 s2 =>
  if v1 = 0 then (
    lt ((-1)) (fun v3 =>
    fX7_longestLeft_13 FU a0 v3 0 s2))
  else (
    some (.inl (some (.int 0)), s2))))
def fX7_lengthLeft (a0 : Nat) (s0 : AS) : Option AR :=
  cV s0 a0 11 (fX7_notLoaded a0 s0) (qI (fun v1 s2 =>
  if v1 = 0 then (
    cV s2 a0 11 (fX7_leftAll a0 1 s2) (qI (fun v3 s4 =>
    some (.inl (some (.int v3)), s4))))
  else (
    some (.inl (some (.int 0)), s2))))
def fX7_meanGap_13  : Nat → Nat → Int32 → Int32 → AS → Option AR
  | 0, _, _, _, _ => none
  | n + 1, a0, x1, x2, s0 =>
    gI s0 a0 11 3 (fun v1 =>
    if v1 ≤ x2 then (
      gI s0 a0 11 3 (fun v2 =>
      if FP.ddiv (FP.i2d x1) (FP.i2d v2) &&& 0x7fffffffffffffff ≤ 0x7ff0000000000000 then (
      some (.inl (some (.double (FP.ddiv (FP.i2d x1) (FP.i2d v2)))), s0)) else none))
    else (
      cV s0 a0 11 (fX7_gap a0 x2 s0) (qI (fun v3 s4 =>
      lt (x1 + v3) (fun v5 =>
      lt (x2 + 1) (fun v6 =>
      fX7_meanGap_13 n a0 v5 v6 s4))))))
def fX7_meanGap (a0 : Nat) (s0 : AS) : Option AR :=
  cV s0 a0 11 (fX7_notLoaded a0 s0) (qI (fun v1 s2 =>
  if v1 = 0 then (
    fX7_meanGap_13 FU a0 0 0 s2)
  else (
    some (.inl (some (.double 0)), s2))))
def fX7_woodShare_43  (a0 : Nat) (x1 : Int32) (s0 : AS) : Option AR :=
  cV s0 a0 11 (fX7_sumOver a0 1 s0) (qI (fun v1 s2 =>
  if FP.fdiv (FP.i2f x1) (FP.i2f v1) &&& 0x7fffffff ≤ 0x7f800000 then (
  some (.inl (some (.float (FP.fdiv (FP.i2f x1) (FP.i2f v1)))), s2)) else none))
def fX7_woodShare_21  : Nat → Nat → Int32 → Int32 → AS → Option AR
  | 0, _, _, _, _ => none
  | n + 1, a0, x1, x2, s0 =>
    gI s0 a0 11 3 (fun v1 =>
    if v1 ≤ x2 then (
      fX7_woodShare_43 a0 x1 s0)
    else (
      cV s0 a0 11 (fX7_woodIn a0 x2 s0) (qI (fun v2 s3 =>
      lt (x1 + v2) (fun v4 =>
      lt (x2 + 1) (fun v5 =>
      fX7_woodShare_21 n a0 v4 v5 s3))))))
def fX7_woodShare (a0 : Nat) (s0 : AS) : Option AR :=
  cV s0 a0 11 (fX7_notLoaded a0 s0) (qI (fun v1 s2 =>
  if v1 = 0 then (
    cV s2 a0 11 (fX7_sumOver a0 1 s2) (qI (fun v3 s4 =>
    if v3 = 0 then (
      some (.inl (some (.float 0)), s4))
    else (
      fX7_woodShare_21 FU a0 0 0 s4))))
  else (
    some (.inl (some (.float 0)), s2))))
def fX7_goodShare (a0 : Nat) (s0 : AS) : Option AR :=
  cV s0 a0 11 (fX7_notLoaded a0 s0) (qI (fun v1 s2 =>
  if v1 = 0 then (
    gR s2 a0 11 12 (fun q3 =>
    aI s2 q3 100 1 (fun v4 =>
    if v4 = 0 then (
      some (.inl (some (.float 0)), s2))
    else (
      gR s2 a0 11 12 (fun q5 =>
      aI s2 q5 100 2 (fun v6 =>
      gR s2 a0 11 12 (fun q7 =>
      aI s2 q7 100 1 (fun v8 =>
      if FP.fdiv (FP.i2f v6) (FP.i2f v8) &&& 0x7fffffff ≤ 0x7f800000 then (
      some (.inl (some (.float (FP.fdiv (FP.i2f v6) (FP.i2f v8)))), s2)) else none))))))))
  else (
    some (.inl (some (.float 0)), s2))))
def fX7_choice_23  (a0 : Nat) (x1 : Int32) (x2 : Int32) (t0 : Nat) (t1 : Int32) (s0 : AS) : Option AR :=
  cV s0 t0 11 (fX7_refuse t0 t1 3 s0) (qI (fun v1 s2 =>
  if v1 = 0 then (
    cV s2 a0 11 (fX7_chooses a0 x1 s2) (qI (fun v3 s4 =>
    if v3 = 0 then (
      some (.inl (some (.int ((-1)))), s4))
    else (
      if x2 = 0 then (
        cV s4 a0 11 (fX7_chosenMany a0 0 s4) (qI (fun v10 s11 =>
        some (.inl (some (.int v10)), s11))))
      else (
        if x2 = (1 : Int32) then (
          gI s4 a0 11 36 (fun v9 =>
          some (.inl (some (.int v9)), s4)))
        else (
          if x2 = (2 : Int32) then (
            cV s4 a0 11 (fX7_chosenLong a0 s4) (qI (fun v7 s8 =>
            some (.inl (some (.int v7)), s8))))
          else (
            cV s4 a0 11 (fX7_chosenMany a0 1 s4) (qI (fun v5 s6 =>
            some (.inl (some (.int v5)), s6))))))))))
  else (
    some (.inl (some (.int 0)), s2))))
def fX7_choice (a0 : Nat) (x1 : Int32) (x2 : Int32) (s0 : AS) : Option AR :=
  cV s0 a0 11 (fX7_noRow a0 x1 s0) (qI (fun v1 s2 =>
  if v1 = 0 then (
    cS s2 (fX7_in x2 0 3 s2) (qI (fun v3 s4 =>
    if v3 = 0 then (
      fX7_choice_23 a0 x1 x2 a0 1 s4)
    else (
      fX7_choice_23 a0 x1 x2 a0 0 s4))))
  else (
    some (.inl (some (.int 0)), s2))))
def fX7_chosen_22  (a0 : Nat) (x1 : Int32) (x2 : Int32) (t0 : Nat) (t1 : Int32) (s0 : AS) : Option AR :=
  cV s0 t0 11 (fX7_refuse t0 t1 2 s0) (qI (fun v1 s2 =>
  if v1 = 0 then (
    cV s2 a0 11 (fX7_chooses a0 x1 s2) (qI (fun v3 s4 =>
    if v3 = 0 then (
      some (.inl (some (.int ((-1)))), s4))
    else (
      gR s4 a0 11 35 (fun q5 =>
      aI s4 q5 100 x2 (fun v6 =>
      some (.inl (some (.int v6)), s4)))))))
  else (
    some (.inl (some (.int 0)), s2))))
def fX7_chosen (a0 : Nat) (x1 : Int32) (x2 : Int32) (s0 : AS) : Option AR :=
  cV s0 a0 11 (fX7_noRow a0 x1 s0) (qI (fun v1 s2 =>
  if v1 = 0 then (
    cV s2 a0 11 (fX7_isKind a0 x2 s2) (qI (fun v3 s4 =>
    if v3 = 0 then (
      fX7_chosen_22 a0 x1 x2 a0 1 s4)
    else (
      fX7_chosen_22 a0 x1 x2 a0 0 s4))))
  else (
    some (.inl (some (.int 0)), s2))))
def fX7_ways_95 (r56 : Nat → Int32 → Int32 → Int32 → Int32 → AS → Option AR) (a0 : Nat) (x1 : Int32) (x3 : Int32) (x5 : Int32) (t0 : Int32) (s0 : AS) : Option AR :=
  lt (x5 + 1) (fun v1 =>
  r56 a0 x1 x3 t0 v1 s0)
def fX7_ways_56  : Nat → Nat → Int32 → Int32 → Int32 → Int32 → AS → Option AR
  | 0, _, _, _, _, _, _ => none
  | n + 1, a0, x1, x3, x4, x5, s0 =>
    if x3 < x5 then (
      some (.inl (some (.int x4)), s0))
    else (
      cV s0 a0 11 (fX7_sumFor a0 x1 x5 s0) (qI (fun v1 s2 =>
      if 0 ≤ v1 then (
        gR s2 a0 11 38 (fun q3 =>
        aI s2 q3 100 v1 (fun v4 =>
        if (1000003 : Int32) = 0 then none else (
        fX7_ways_95 (fX7_ways_56 n) a0 x1 x3 x5 ((x4 + v4) - (x4 + v4) / 1000003 * 1000003) s2))))
      else (
        fX7_ways_95 (fX7_ways_56 n) a0 x1 x3 x5 x4 s2))))
def fX7_ways_49  (a0 : Nat) (x1 : Int32) (x2 : Int32) (t0 : Int32) (s0 : AS) : Option AR :=
  fX7_ways_56 FU a0 x1 t0 0 x2 s0
def fX7_ways_32  (a0 : Nat) (x1 : Int32) (t0 : Int32) (s0 : AS) : Option AR :=
  cV s0 a0 11 (fX7_canOpen a0 x1 s0) (qI (fun v1 s2 =>
  if v1 = 0 then (
    fX7_ways_49 a0 x1 t0 ((-1)) s2)
  else (
    gI s2 a0 11 5 (fun v3 =>
    fX7_ways_49 a0 x1 t0 v3 s2))))
def fX7_ways (a0 : Nat) (x1 : Int32) (s0 : AS) : Option AR :=
  cV s0 a0 11 (fX7_noRow a0 x1 s0) (qI (fun v1 s2 =>
  if v1 = 0 then (
    cV s2 a0 11 (fX7_need a0 x1 s2) (qI (fun v3 s4 =>
    cV s4 a0 11 (fX7_laysWays a0 v3 s4) (qV (fun s5 =>
    cV s5 a0 11 (fX7_canOpen a0 x1 s5) (qI (fun v6 s7 =>
    if v6 = 0 then (
      fX7_ways_32 a0 x1 ((-1)) s7)
    else (
      fX7_ways_32 a0 x1 0 s7))))))))
  else (
    some (.inl (some (.int 0)), s2))))
def fX7_nearest_123 (r61 : Nat → Int32 → Int32 → Int32 → Int32 → AS → Option AR) (a0 : Nat) (x1 : Int32) (x4 : Int32) (x5 : Int32) (x6 : Int32) (s0 : AS) : Option AR :=
  lt (x6 + 1) (fun v1 =>
  r61 a0 x1 x4 x5 v1 s0)
def fX7_nearest_115 (r61 : Nat → Int32 → Int32 → Int32 → Int32 → AS → Option AR) (r80 : Nat → Int32 → Int32 → Int32 → Int32 → Int32 → Int32 → AS → Option AR) (a0 : Nat) (x1 : Int32) (x4 : Int32) (x6 : Int32) (x7 : Int32) (x8 : Int32) (t0 : Int32) (s0 : AS) : Option AR :=
  lt (x8 + 1) (fun v1 =>
  r80 a0 x1 x4 t0 x6 x7 v1 s0)
def fX7_nearest_80 (r61 : Nat → Int32 → Int32 → Int32 → Int32 → AS → Option AR) : Nat → Nat → Int32 → Int32 → Int32 → Int32 → Int32 → Int32 → AS → Option AR
  | 0, _, _, _, _, _, _, _, _ => none
  | n + 1, a0, x1, x4, x5, x6, x7, x8, s0 =>
    if x7 < x8 then (
      fX7_nearest_123 r61 a0 x1 x4 x5 x6 s0)
    else (
      gR s0 a0 11 34 (fun q1 =>
      aI s0 q1 100 x8 (fun v2 =>
      if (1000000 : Int32) ≤ v2 then (
        fX7_nearest_115 r61 (fX7_nearest_80 r61 n) a0 x1 x4 x6 x7 x8 x5 s0)
      else (
        lt (if (x7 - x8) < x5 then (x7 - x8) else x5) (fun v3 =>
        fX7_nearest_115 r61 (fX7_nearest_80 r61 n) a0 x1 x4 x6 x7 x8 v3 s0)))))
def fX7_nearest_61  : Nat → Nat → Int32 → Int32 → Int32 → Int32 → AS → Option AR
  | 0, _, _, _, _, _, _ => none
  | n + 1, a0, x1, x4, x5, x6, s0 =>
    if x4 < x6 then (
      some (.inl (some (.int x5)), s0))
    else (
      cV s0 a0 11 (fX7_sumFor a0 x1 x6 s0) (qI (fun v1 s2 =>
      fX7_nearest_80 (fX7_nearest_61 n) FU a0 x1 x4 x5 x6 v1 0 s2)))
def fX7_nearest_51  (a0 : Nat) (x1 : Int32) (x3 : Int32) (t0 : Int32) (s0 : AS) : Option AR :=
  fX7_nearest_61 FU a0 x1 t0 1000000 x3 s0
def fX7_nearest_34  (a0 : Nat) (x1 : Int32) (t0 : Int32) (s0 : AS) : Option AR :=
  cV s0 a0 11 (fX7_hasQuoin a0 x1 s0) (qI (fun v1 s2 =>
  if v1 = 0 then (
    fX7_nearest_51 a0 x1 t0 ((-1)) s2)
  else (
    gI s2 a0 11 5 (fun v3 =>
    fX7_nearest_51 a0 x1 t0 v3 s2))))
def fX7_nearest (a0 : Nat) (x1 : Int32) (s0 : AS) : Option AR :=
  cV s0 a0 11 (fX7_noRow a0 x1 s0) (qI (fun v1 s2 =>
  if v1 = 0 then (
    cV s2 a0 11 (fX7_need a0 x1 s2) (qI (fun v3 s4 =>
    cV s4 a0 11 (fX7_laysFewest a0 v3 s4) (qV (fun s5 =>
    cV s5 a0 11 (fX7_hasQuoin a0 x1 s5) (qI (fun v6 s7 =>
    if v6 = 0 then (
      fX7_nearest_34 a0 x1 ((-1)) s7)
    else (
      fX7_nearest_34 a0 x1 0 s7))))))))
  else (
    some (.inl (some (.int 0)), s2))))
def fX7_putsAside_2  : Nat → Nat → Int32 → AS → Option AR
  | 0, _, _, _ => none
  | n + 1, a0, x1, s0 =>
    if (4112 : Int32) ≤ x1 then (
      some (.inl none, s0))
    else (
      gR s0 a0 11 13 (fun q1 =>
      gR s0 a0 11 12 (fun q2 =>
      aI s0 q2 100 x1 (fun v3 =>
      uI s0 q1 x1 v3 (fun s4 =>
      lt (x1 + 1) (fun v5 =>
      fX7_putsAside_2 n a0 v5 s4))))))
def fX7_putsAside (a0 : Nat) (s0 : AS) : Option AR :=
  fX7_putsAside_2 FU a0 0 s0
def fX7_fetchesBack_2  : Nat → Nat → Int32 → Int32 → AS → Option AR
  | 0, _, _, _, _ => none
  | n + 1, a0, x1, x2, s0 =>
    if (4112 : Int32) ≤ x2 then (
      some (.inl (some (.int x1)), s0))
    else (
      gR s0 a0 11 12 (fun q1 =>
      gR s0 a0 11 13 (fun q2 =>
      aI s0 q2 100 x2 (fun v3 =>
      uI s0 q1 x2 v3 (fun s4 =>
      lt (x2 + 1) (fun v5 =>
      fX7_fetchesBack_2 n a0 x1 v5 s4))))))
def fX7_fetchesBack (a0 : Nat) (x1 : Int32) (s0 : AS) : Option AR :=
  fX7_fetchesBack_2 FU a0 x1 0 s0
def fX7_freshChoice_40  (t0 : Nat) (t1 : Int32) (s0 : AS) : Option AR :=
  cV s0 t0 11 (fX7_fetchesBack t0 t1 s0) (qI (fun v1 s2 =>
  some (.inl (some (.int v1)), s2)))
def fX7_freshChoice (a0 : Nat) (x1 : Int32) (s0 : AS) : Option AR :=
  cV s0 a0 11 (fX7_noRow a0 x1 s0) (qI (fun v1 s2 =>
  if v1 = 0 then (
    cV s2 a0 11 (fX7_putsAside a0 s2) (qV (fun s3 =>
    cV s3 a0 11 (fX7_empties a0 x1 s3) (qI (fun v4 s5 =>
    cV s5 a0 11 (fX7_chooses a0 x1 s5) (qI (fun v6 s7 =>
    if v6 = 0 then (
      fX7_freshChoice_40 a0 ((-1)) s7)
    else (
      cV s7 a0 11 (fX7_chosenMany a0 0 s7) (qI (fun v8 s9 =>
      fX7_freshChoice_40 a0 v8 s9))))))))))
  else (
    some (.inl (some (.int 0)), s2))))
def fX7_fillable_66 (r43 : Nat → Int32 → Int32 → Int32 → AS → Option AR) (a0 : Nat) (x1 : Int32) (x3 : Int32) (t0 : Int32) (t1 : Int32) (s0 : AS) : Option AR :=
  cS s0 (fX7_flag t1 s0) (qI (fun v1 s2 =>
  lt (t0 + v1) (fun v3 =>
  lt (x3 + 1) (fun v4 =>
  r43 a0 x1 v3 v4 s2))))
def fX7_fillable_43  : Nat → Nat → Int32 → Int32 → Int32 → AS → Option AR
  | 0, _, _, _, _, _ => none
  | n + 1, a0, x1, x2, x3, s0 =>
    if x1 < x3 then (
      some (.inl (some (.int x2)), s0))
    else (
      gR s0 a0 11 34 (fun q1 =>
      aI s0 q1 100 x3 (fun v2 =>
      if (1000000 : Int32) ≤ v2 then (
        fX7_fillable_66 (fX7_fillable_43 n) a0 x1 x3 x2 0 s0)
      else (
        fX7_fillable_66 (fX7_fillable_43 n) a0 x1 x3 x2 1 s0))))
def fX7_fillable_25  (a0 : Nat) (x1 : Int32) (t0 : Nat) (t1 : Int32) (s0 : AS) : Option AR :=
  cV s0 t0 11 (fX7_refuse t0 t1 2 s0) (qI (fun v1 s2 =>
  if v1 = 0 then (
    cV s2 a0 11 (fX7_laysFewest a0 x1 s2) (qV (fun s3 =>
    fX7_fillable_43 FU a0 x1 0 0 s3)))
  else (
    some (.inl (some (.int 0)), s2))))
def fX7_fillable (a0 : Nat) (x1 : Int32) (s0 : AS) : Option AR :=
  cV s0 a0 11 (fX7_notLoaded a0 s0) (qI (fun v1 s2 =>
  if v1 = 0 then (
    gI s2 a0 11 2 (fun v3 =>
    cS s2 (fX7_in x1 0 v3 s2) (qI (fun v4 s5 =>
    if v4 = 0 then (
      fX7_fillable_25 a0 x1 a0 1 s5)
    else (
      fX7_fillable_25 a0 x1 a0 0 s5)))))
  else (
    some (.inl (some (.int 0)), s2))))
def fX7_fewestIf_52  (t0 : Nat) (t1 : Int32) (s0 : AS) : Option AR :=
  cV s0 t0 11 (fX7_fetchesBack t0 t1 s0) (qI (fun v1 s2 =>
  some (.inl (some (.int v1)), s2)))
def fX7_fewestIf (a0 : Nat) (x1 : Int32) (x2 : Int32) (s0 : AS) : Option AR :=
  cV s0 a0 11 (fX7_of a0 x1 0 s0) (qI (fun v1 s2 =>
  if v1 = (6 : Int32) then (
    some (.inl (some (.int ((-1)))), s2))
  else (
    cV s2 a0 11 (fX7_gap a0 x1 s2) (qI (fun v3 s4 =>
    if x2 ≤ v3 then (
      cV s4 a0 11 (fX7_putsAside a0 s4) (qV (fun s5 =>
      cV s5 a0 11 (fX7_adds a0 x1 x2 s5) (qV (fun s6 =>
      cV s6 a0 11 (fX7_chooses a0 x1 s6) (qI (fun v7 s8 =>
      if v7 = 0 then (
        fX7_fewestIf_52 a0 ((-1)) s8)
      else (
        cV s8 a0 11 (fX7_chosenMany a0 0 s8) (qI (fun v9 s10 =>
        fX7_fewestIf_52 a0 v9 s10))))))))))
    else (
      some (.inl (some (.int ((-1)))), s4)))))))
def fX7_fewestAt_25  (a0 : Nat) (x1 : Int32) (x2 : Int32) (t0 : Nat) (t1 : Int32) (s0 : AS) : Option AR :=
  cV s0 t0 11 (fX7_refuse t0 t1 3 s0) (qI (fun v1 s2 =>
  if v1 = 0 then (
    cV s2 a0 11 (fX7_fewestIf a0 x1 x2 s2) (qI (fun v3 s4 =>
    some (.inl (some (.int v3)), s4))))
  else (
    some (.inl (some (.int 0)), s2))))
def fX7_fewestAt (a0 : Nat) (x1 : Int32) (x2 : Int32) (s0 : AS) : Option AR :=
  cV s0 a0 11 (fX7_noRow a0 x1 s0) (qI (fun v1 s2 =>
  if v1 = 0 then (
    cS s2 (fX7_in x2 1 200 s2) (qI (fun v3 s4 =>
    if v3 = 0 then (
      fX7_fewestAt_25 a0 x1 x2 a0 1 s4)
    else (
      fX7_fewestAt_25 a0 x1 x2 a0 0 s4))))
  else (
    some (.inl (some (.int 0)), s2))))
def fX7_rowFor_78 (r42 : Nat → Int32 → Int32 → Int32 → Int32 → AS → Option AR) (a0 : Nat) (x1 : Int32) (x2 : Int32) (x3 : Int32) (x4 : Int32) (s0 : AS) : Option AR :=
  lt (x4 + 1) (fun v1 =>
  r42 a0 x1 x2 x3 v1 s0)
def fX7_rowFor_42  : Nat → Nat → Int32 → Int32 → Int32 → Int32 → AS → Option AR
  | 0, _, _, _, _, _, _ => none
  | n + 1, a0, x1, x2, x3, x4, s0 =>
    gI s0 a0 11 3 (fun v1 =>
    if v1 ≤ x4 then (
      some (.inl (some (.int x2)), s0))
    else (
      cV s0 a0 11 (fX7_fewestIf a0 x4 x1 s0) (qI (fun v2 s3 =>
      if v2 = (-1 : Int32) then (
        fX7_rowFor_78 (fX7_rowFor_42 n) a0 x1 x2 x3 x4 s3)
      else (
        if x3 ≤ v2 then (
          fX7_rowFor_78 (fX7_rowFor_42 n) a0 x1 x2 x3 x4 s3)
        else (
          fX7_rowFor_78 (fX7_rowFor_42 n) a0 x1 x4 v2 x4 s3))))))
def fX7_rowFor_24  (a0 : Nat) (x1 : Int32) (t0 : Nat) (t1 : Int32) (s0 : AS) : Option AR :=
  cV s0 t0 11 (fX7_refuse t0 t1 2 s0) (qI (fun v1 s2 =>
  if v1 = 0 then (
    lt ((-1)) (fun v3 =>
    fX7_rowFor_42 FU a0 x1 v3 1000000 0 s2))
  else (
    some (.inl (some (.int 0)), s2))))
def fX7_rowFor (a0 : Nat) (x1 : Int32) (s0 : AS) : Option AR :=
  cV s0 a0 11 (fX7_notLoaded a0 s0) (qI (fun v1 s2 =>
  if v1 = 0 then (
    cS s2 (fX7_in x1 1 200 s2) (qI (fun v3 s4 =>
    if v3 = 0 then (
      fX7_rowFor_24 a0 x1 a0 1 s4)
    else (
      fX7_rowFor_24 a0 x1 a0 0 s4))))
  else (
    some (.inl (some (.int 0)), s2))))
def fX7_missing_70 (r24 : Nat → Int32 → Int32 → Int32 → AS → Option AR) (a0 : Nat) (x1 : Int32) (x2 : Int32) (x3 : Int32) (s0 : AS) : Option AR :=
  lt (x3 + 1) (fun v1 =>
  r24 a0 x1 x2 v1 s0)
def fX7_missing_68 (r24 : Nat → Int32 → Int32 → Int32 → AS → Option AR) (a0 : Nat) (x1 : Int32) (x3 : Int32) (s0 : AS) : Option AR :=
  fX7_missing_70 r24 a0 x1 x3 x3 s0
def fX7_missing_24  : Nat → Nat → Int32 → Int32 → Int32 → AS → Option AR
  | 0, _, _, _, _, _ => none
  | n + 1, a0, x1, x2, x3, s0 =>
    gI s0 a0 11 9 (fun v1 =>
    if v1 ≤ x3 then (
      some (.inl (some (.int x2)), s0))
    else (
      sI s0 a0 11 37 x3 (fun s2 =>
      cV s2 a0 11 (fX7_chooses a0 x1 s2) (qI (fun v3 s4 =>
      sI s4 a0 11 37 ((-1)) (fun s5 =>
      if v3 = 0 then (
        fX7_missing_70 (fX7_missing_24 n) a0 x1 x2 x3 s5)
      else (
        if x2 = (-1 : Int32) then (
          fX7_missing_68 (fX7_missing_24 n) a0 x1 x3 s5)
        else (
          cV s5 a0 11 (fX7_isAhead a0 x3 x2 s5) (qI (fun v6 s7 =>
          if v6 = 0 then (
            fX7_missing_70 (fX7_missing_24 n) a0 x1 x2 x3 s7)
          else (
            fX7_missing_68 (fX7_missing_24 n) a0 x1 x3 s7)))))))))))
def fX7_missing (a0 : Nat) (x1 : Int32) (s0 : AS) : Option AR :=
  cV s0 a0 11 (fX7_noRow a0 x1 s0) (qI (fun v1 s2 =>
  if v1 = 0 then (
    cV s2 a0 11 (fX7_chooses a0 x1 s2) (qI (fun v3 s4 =>
    if v3 = 0 then (
      lt ((-1)) (fun v5 =>
      fX7_missing_24 FU a0 x1 v5 0 s4))
    else (
      some (.inl (some (.int ((-1)))), s4)))))
  else (
    some (.inl (some (.int 0)), s2))))
def fX7_fallsIn_64  (t0 : Nat) (t1 : Int32) (s0 : AS) : Option AR :=
  cV s0 t0 11 (fX7_fetchesBack t0 t1 s0) (qI (fun v1 s2 =>
  some (.inl (some (.int v1)), s2)))
def fX7_fallsIn_51  (a0 : Nat) (x3 : Int32) (s0 : AS) : Option AR :=
  if (200 : Int32) < x3 then (
    fX7_fallsIn_64 a0 ((-1)) s0)
  else (
    fX7_fallsIn_64 a0 x3 s0)
def fX7_fallsIn_38 (r16 : Nat → Int32 → Int32 → Int32 → AS → Option AR) (a0 : Nat) (x1 : Int32) (x2 : Int32) (x3 : Int32) (t0 : Int32) (s0 : AS) : Option AR :=
  if ((t0 >>> (x1 &&& 31)) &&& 1) = 0 then (
    lt (x3 + 1) (fun v1 =>
    r16 a0 x1 x2 v1 s0))
  else (
    fX7_fallsIn_51 a0 x3 s0)
def fX7_fallsIn_16  : Nat → Nat → Int32 → Int32 → Int32 → AS → Option AR
  | 0, _, _, _, _, _ => none
  | n + 1, a0, x1, x2, x3, s0 =>
    if (200 : Int32) < x3 then (
      fX7_fallsIn_51 a0 x3 s0)
    else (
      if x2 = 0 then (
        cV s0 a0 11 (fX7_prints a0 s0) (qI (fun v1 s2 =>
        fX7_fallsIn_38 (fX7_fallsIn_16 n) a0 x1 x2 x3 v1 s2)))
      else (
        cV s0 a0 11 (fX7_passes a0 s0) (qI (fun v3 s4 =>
        fX7_fallsIn_38 (fX7_fallsIn_16 n) a0 x1 x2 x3 v3 s4))))
def fX7_fallsIn (a0 : Nat) (x1 : Int32) (x2 : Int32) (s0 : AS) : Option AR :=
  cV s0 a0 11 (fX7_noRow a0 x1 s0) (qI (fun v1 s2 =>
  if v1 = 0 then (
    cV s2 a0 11 (fX7_putsAside a0 s2) (qV (fun s3 =>
    fX7_fallsIn_16 FU a0 x1 x2 1 s3)))
  else (
    some (.inl (some (.int 0)), s2))))
def fX7_goodIn_63  (a0 : Nat) (x2 : Int32) (s0 : AS) : Option AR :=
  gR s0 a0 11 12 (fun q1 =>
  aI s0 q1 100 2 (fun v2 =>
  cV s0 a0 11 (fX7_fetchesBack a0 (v2 - x2) s0) (qI (fun v3 s4 =>
  some (.inl (some (.int v3)), s4)))))
def fX7_goodIn_46  : Nat → Nat → Int32 → Int32 → Int32 → AS → Option AR
  | 0, _, _, _, _, _ => none
  | n + 1, a0, x1, x2, x3, s0 =>
    if x1 ≤ x3 then (
      fX7_goodIn_63 a0 x2 s0)
    else (
      cV s0 a0 11 (fX7_prints a0 s0) (qI (fun v1 s2 =>
      lt (x3 + 1) (fun v3 =>
      fX7_goodIn_46 n a0 x1 x2 v3 s2))))
def fX7_goodIn_24  (a0 : Nat) (x1 : Int32) (t0 : Nat) (t1 : Int32) (s0 : AS) : Option AR :=
  cV s0 t0 11 (fX7_refuse t0 t1 2 s0) (qI (fun v1 s2 =>
  if v1 = 0 then (
    cV s2 a0 11 (fX7_putsAside a0 s2) (qV (fun s3 =>
    gR s3 a0 11 12 (fun q4 =>
    aI s3 q4 100 2 (fun v5 =>
    fX7_goodIn_46 FU a0 x1 v5 0 s3)))))
  else (
    some (.inl (some (.int 0)), s2))))
def fX7_goodIn (a0 : Nat) (x1 : Int32) (s0 : AS) : Option AR :=
  cV s0 a0 11 (fX7_notLoaded a0 s0) (qI (fun v1 s2 =>
  if v1 = 0 then (
    cS s2 (fX7_in x1 0 200 s2) (qI (fun v3 s4 =>
    if v3 = 0 then (
      fX7_goodIn_24 a0 x1 a0 1 s4)
    else (
      fX7_goodIn_24 a0 x1 a0 0 s4))))
  else (
    some (.inl (some (.int 0)), s2))))
def fX7_lockable_37 (r13 : Nat → Int32 → Int32 → AS → Option AR) (a0 : Nat) (x2 : Int32) (t0 : Int32) (t1 : Int32) (s0 : AS) : Option AR :=
  lt (t0 ||| t1) (fun v1 =>
  lt (x2 + 1) (fun v2 =>
  r13 a0 v1 v2 s0))
def fX7_lockable_13  : Nat → Nat → Int32 → Int32 → AS → Option AR
  | 0, _, _, _, _ => none
  | n + 1, a0, x1, x2, s0 =>
    gI s0 a0 11 3 (fun v1 =>
    if v1 ≤ x2 then (
      some (.inl (some (.int x1)), s0))
    else (
      cV s0 a0 11 (fX7_chooses a0 x2 s0) (qI (fun v2 s3 =>
      if v2 = 0 then (
        fX7_lockable_37 (fX7_lockable_13 n) a0 x2 x1 0 s3)
      else (
        fX7_lockable_37 (fX7_lockable_13 n) a0 x2 x1 (1 <<< (x2 &&& 31)) s3)))))
def fX7_lockable (a0 : Nat) (s0 : AS) : Option AR :=
  cV s0 a0 11 (fX7_notLoaded a0 s0) (qI (fun v1 s2 =>
  if v1 = 0 then (
    fX7_lockable_13 FU a0 0 0 s2)
  else (
    some (.inl (some (.int 0)), s2))))
def fX7_lockedAll_35  (a0 : Nat) (s0 : AS) : Option AR :=
  cV s0 a0 11 (fX7_tightRows a0 s0) (qI (fun v1 s2 =>
  cV s2 a0 11 (fX7_fetchesBack a0 v1 s2) (qI (fun v3 s4 =>
  some (.inl (some (.int v3)), s4)))))
def fX7_lockedAll_15  : Nat → Nat → Int32 → AS → Option AR
  | 0, _, _, _ => none
  | n + 1, a0, x1, s0 =>
    gI s0 a0 11 3 (fun v1 =>
    if v1 ≤ x1 then (
      fX7_lockedAll_35 a0 s0)
    else (
      cV s0 a0 11 (fX7_locks a0 x1 s0) (qI (fun v2 s3 =>
      lt (x1 + 1) (fun v4 =>
      fX7_lockedAll_15 n a0 v4 s3)))))
def fX7_lockedAll (a0 : Nat) (s0 : AS) : Option AR :=
  cV s0 a0 11 (fX7_notLoaded a0 s0) (qI (fun v1 s2 =>
  if v1 = 0 then (
    cV s2 a0 11 (fX7_putsAside a0 s2) (qV (fun s3 =>
    fX7_lockedAll_15 FU a0 0 s3)))
  else (
    some (.inl (some (.int 0)), s2))))
def fX7_says (a0 : Nat) (x1 : Int32) (s0 : AS) : Option AR :=
  gR s0 a0 11 39 (fun q1 =>
  gI s0 a0 11 40 (fun v2 =>
  uI s0 q1 v2 x1 (fun s3 =>
  gI s3 a0 11 40 (fun v4 =>
  sI s3 a0 11 40 (v4 + 1) (fun s5 =>
  some (.inl none, s5))))))
def fX7_saysNumber_18  : Nat → Nat → Int32 → Int32 → AS → Option AR
  | 0, _, _, _, _ => none
  | n + 1, a0, x1, x2, s0 =>
    if x2 ≤ 0 then (
      some (.inl none, s0))
    else (
      if x2 = 0 then none else (
      if (10 : Int32) = 0 then none else (
      cV s0 a0 11 (fX7_says a0 (48 + ((x1 / x2) - (x1 / x2) / 10 * 10)) s0) (qV (fun s1 =>
      if (10 : Int32) = 0 then none else (
      lt (x2 / 10) (fun v2 =>
      fX7_saysNumber_18 n a0 x1 v2 s1)))))))
def fX7_saysNumber_2  : Nat → Nat → Int32 → Int32 → AS → Option AR
  | 0, _, _, _, _ => none
  | n + 1, a0, x1, x2, s0 =>
    if x2 = 0 then none else (
    if (x1 / x2) < (10 : Int32) then (
      fX7_saysNumber_18 FU a0 x1 x2 s0)
    else (
      lt (10 * x2) (fun v1 =>
      fX7_saysNumber_2 n a0 x1 v1 s0)))
def fX7_saysNumber (a0 : Nat) (x1 : Int32) (s0 : AS) : Option AR :=
  fX7_saysNumber_2 FU a0 x1 1 s0
def fX7_saysBlank (a0 : Nat) (s0 : AS) : Option AR :=
  gI s0 a0 11 40 (fun v1 =>
  if v1 ≤ 0 then (
    some (.inl none, s0))
  else (
    cV s0 a0 11 (fX7_says a0 32 s0) (qV (fun s2 =>
    some (.inl none, s2)))))
def fX7_saysKind_17  (a0 : Nat) (x1 : Int32) (t0 : Nat) (t1 : Int32) (s0 : AS) : Option AR :=
  cV s0 t0 11 (fX7_says t0 t1 s0) (qV (fun s1 =>
  gR s1 a0 11 11 (fun q2 =>
  aI s1 q2 100 x1 (fun v3 =>
  cV s1 a0 11 (fX7_saysNumber a0 v3 s1) (qV (fun s4 =>
  some (.inl none, s4)))))))
def fX7_saysKind (a0 : Nat) (x1 : Int32) (s0 : AS) : Option AR :=
  gR s0 a0 11 10 (fun q1 =>
  aI s0 q1 101 x1 (fun v2 =>
  if v2 = 0 then (
    fX7_saysKind_17 a0 x1 a0 119 s0)
  else (
    fX7_saysKind_17 a0 x1 a0 109 s0)))
def fX7_saysQuoin (a0 : Nat) (x1 : Int32) (s0 : AS) : Option AR :=
  if x1 = (-1 : Int32) then (
    some (.inl none, s0))
  else (
    cV s0 a0 11 (fX7_saysBlank a0 s0) (qV (fun s1 =>
    cV s1 a0 11 (fX7_says a0 113 s1) (qV (fun s2 =>
    cV s2 a0 11 (fX7_saysNumber a0 x1 s2) (qV (fun s3 =>
    some (.inl none, s3))))))))
def fX7_writeRow_96  (a0 : Nat) (x1 : Int32) (s0 : AS) : Option AR :=
  cV s0 a0 11 (fX7_of a0 x1 2 s0) (qI (fun v1 s2 =>
  cV s2 a0 11 (fX7_saysQuoin a0 v1 s2) (qV (fun s3 =>
  gI s3 a0 11 40 (fun v4 =>
  some (.inl (some (.int v4)), s3))))))
def fX7_writeRow_63  : Nat → Nat → Int32 → Int32 → AS → Option AR
  | 0, _, _, _, _ => none
  | n + 1, a0, x1, x2, s0 =>
    cV s0 a0 11 (fX7_of a0 x1 1 s0) (qI (fun v1 s2 =>
    if v1 ≤ x2 then (
      fX7_writeRow_96 a0 x1 s2)
    else (
      cV s2 a0 11 (fX7_saysBlank a0 s2) (qV (fun s3 =>
      cV s3 a0 11 (fX7_of a0 x1 (11 + x2) s3) (qI (fun v4 s5 =>
      cV s5 a0 11 (fX7_saysKind a0 v4 s5) (qV (fun s6 =>
      lt (x2 + 1) (fun v7 =>
      fX7_writeRow_63 n a0 x1 v7 s6))))))))))
def fX7_writeRow_61  (a0 : Nat) (x1 : Int32) (s0 : AS) : Option AR :=
  fX7_writeRow_63 FU a0 x1 0 s0
def fX7_writeRow_17  : Nat → Nat → Int32 → Int32 → AS → Option AR
  | 0, _, _, _, _ => none
  | n + 1, a0, x1, x2, s0 =>
    cV s0 a0 11 (fX7_of a0 x1 0 s0) (qI (fun v1 s2 =>
    if v1 ≤ x2 then (
      fX7_writeRow_61 a0 x1 s2)
    else (
      cV s2 a0 11 (fX7_saysBlank a0 s2) (qV (fun s3 =>
      cV s3 a0 11 (fX7_says a0 91 s3) (qV (fun s4 =>
      cV s4 a0 11 (fX7_of a0 x1 (5 + x2) s4) (qI (fun v5 s6 =>
      cV s6 a0 11 (fX7_saysNumber a0 v5 s6) (qV (fun s7 =>
      cV s7 a0 11 (fX7_says a0 93 s7) (qV (fun s8 =>
      lt (x2 + 1) (fun v9 =>
      fX7_writeRow_17 n a0 x1 v9 s8))))))))))))))
def fX7_writeRow (a0 : Nat) (x1 : Int32) (s0 : AS) : Option AR :=
  cV s0 a0 11 (fX7_noRow a0 x1 s0) (qI (fun v1 s2 =>
  if v1 = 0 then (
    sI s2 a0 11 40 0 (fun s3 =>
    fX7_writeRow_17 FU a0 x1 0 s3))
  else (
    some (.inl (some (.int 0)), s2))))
def fX7_writeChoice_99  (a0 : Nat) (s0 : AS) : Option AR :=
  gI s0 a0 11 36 (fun v1 =>
  cV s0 a0 11 (fX7_saysQuoin a0 v1 s0) (qV (fun s2 =>
  gI s2 a0 11 40 (fun v3 =>
  some (.inl (some (.int v3)), s2)))))
def fX7_writeChoice_93 (r36 : Nat → Int32 → AS → Option AR) (a0 : Nat) (x2 : Int32) (s0 : AS) : Option AR :=
  lt (x2 + 1) (fun v1 =>
  r36 a0 v1 s0)
def fX7_writeChoice_36  : Nat → Nat → Int32 → AS → Option AR
  | 0, _, _, _ => none
  | n + 1, a0, x2, s0 =>
    gI s0 a0 11 9 (fun v1 =>
    if v1 ≤ x2 then (
      fX7_writeChoice_99 a0 s0)
    else (
      gR s0 a0 11 35 (fun q2 =>
      gR s0 a0 11 33 (fun q3 =>
      aI s0 q3 100 x2 (fun v4 =>
      aI s0 q2 100 v4 (fun v5 =>
      if v5 ≤ 0 then (
        fX7_writeChoice_93 (fX7_writeChoice_36 n) a0 x2 s0)
      else (
        cV s0 a0 11 (fX7_saysBlank a0 s0) (qV (fun s6 =>
        gR s6 a0 11 35 (fun q7 =>
        gR s6 a0 11 33 (fun q8 =>
        aI s6 q8 100 x2 (fun v9 =>
        aI s6 q7 100 v9 (fun v10 =>
        cV s6 a0 11 (fX7_saysNumber a0 v10 s6) (qV (fun s11 =>
        cV s11 a0 11 (fX7_says a0 120 s11) (qV (fun s12 =>
        gR s12 a0 11 33 (fun q13 =>
        aI s12 q13 100 x2 (fun v14 =>
        cV s12 a0 11 (fX7_saysKind a0 v14 s12) (qV (fun s15 =>
        fX7_writeChoice_93 (fX7_writeChoice_36 n) a0 x2 s15)))))))))))))))))))))
def fX7_writeChoice (a0 : Nat) (x1 : Int32) (s0 : AS) : Option AR :=
  cV s0 a0 11 (fX7_noRow a0 x1 s0) (qI (fun v1 s2 =>
  if v1 = 0 then (
    sI s2 a0 11 40 0 (fun s3 =>
    cV s3 a0 11 (fX7_chooses a0 x1 s3) (qI (fun v4 s5 =>
    if v4 = 0 then (
      cV s5 a0 11 (fX7_says a0 45 s5) (qV (fun s6 =>
      gI s6 a0 11 40 (fun v7 =>
      some (.inl (some (.int v7)), s6)))))
    else (
      fX7_writeChoice_36 FU a0 0 s5)))))
  else (
    some (.inl (some (.int 0)), s2))))
def fX7_writeStock_34 (r16 : Nat → Int32 → AS → Option AR) (a0 : Nat) (x1 : Int32) (s0 : AS) : Option AR :=
  cV s0 a0 11 (fX7_saysKind a0 x1 s0) (qV (fun s1 =>
  cV s1 a0 11 (fX7_says a0 58 s1) (qV (fun s2 =>
  gR s2 a0 11 12 (fun q3 =>
  aI s2 q3 100 (6 + x1) (fun v4 =>
  cV s2 a0 11 (fX7_saysNumber a0 v4 s2) (qV (fun s5 =>
  lt (x1 + 1) (fun v6 =>
  r16 a0 v6 s5)))))))))
def fX7_writeStock_16  : Nat → Nat → Int32 → AS → Option AR
  | 0, _, _, _ => none
  | n + 1, a0, x1, s0 =>
    gI s0 a0 11 9 (fun v1 =>
    if v1 ≤ x1 then (
      gI s0 a0 11 40 (fun v2 =>
      some (.inl (some (.int v2)), s0)))
    else (
      if x1 ≤ 0 then (
        fX7_writeStock_34 (fX7_writeStock_16 n) a0 x1 s0)
      else (
        cV s0 a0 11 (fX7_says a0 44 s0) (qV (fun s3 =>
        fX7_writeStock_34 (fX7_writeStock_16 n) a0 x1 s3)))))
def fX7_writeStock (a0 : Nat) (s0 : AS) : Option AR :=
  cV s0 a0 11 (fX7_notLoaded a0 s0) (qI (fun v1 s2 =>
  if v1 = 0 then (
    sI s2 a0 11 40 0 (fun s3 =>
    fX7_writeStock_16 FU a0 0 s3))
  else (
    some (.inl (some (.int 0)), s2))))
def fX7_textByte_25  (a0 : Nat) (x1 : Int32) (t0 : Nat) (t1 : Int32) (s0 : AS) : Option AR :=
  cV s0 t0 11 (fX7_refuse t0 t1 1 s0) (qI (fun v1 s2 =>
  if v1 = 0 then (
    gR s2 a0 11 39 (fun q3 =>
    aI s2 q3 100 x1 (fun v4 =>
    some (.inl (some (.int v4)), s2))))
  else (
    some (.inl (some (.int 0)), s2))))
def fX7_textByte (a0 : Nat) (x1 : Int32) (s0 : AS) : Option AR :=
  sI s0 a0 11 0 0 (fun s1 =>
  gI s1 a0 11 40 (fun v2 =>
  cS s1 (fX7_in x1 0 (v2 - 1) s1) (qI (fun v3 s4 =>
  if v3 = 0 then (
    fX7_textByte_25 a0 x1 a0 1 s4)
  else (
    fX7_textByte_25 a0 x1 a0 0 s4)))))
def fX7_keeps_2  : Nat → Nat → Int32 → Int32 → AS → Option AR
  | 0, _, _, _, _ => none
  | n + 1, a0, x1, x2, s0 =>
    if (4112 : Int32) ≤ x2 then (
      some (.inl none, s0))
    else (
      gR s0 a0 11 14 (fun q1 =>
      gR s0 a0 11 12 (fun q2 =>
      aI s0 q2 100 x2 (fun v3 =>
      uI s0 q1 ((4112 * x1) + x2) v3 (fun s4 =>
      lt (x2 + 1) (fun v5 =>
      fX7_keeps_2 n a0 x1 v5 s4))))))
def fX7_keeps (a0 : Nat) (x1 : Int32) (s0 : AS) : Option AR :=
  fX7_keeps_2 FU a0 x1 0 s0
def fX7_fetches_2  : Nat → Nat → Int32 → Int32 → AS → Option AR
  | 0, _, _, _, _ => none
  | n + 1, a0, x1, x2, s0 =>
    if (4112 : Int32) ≤ x2 then (
      some (.inl none, s0))
    else (
      gR s0 a0 11 12 (fun q1 =>
      gR s0 a0 11 14 (fun q2 =>
      aI s0 q2 100 ((4112 * x1) + x2) (fun v3 =>
      uI s0 q1 x2 v3 (fun s4 =>
      lt (x2 + 1) (fun v5 =>
      fX7_fetches_2 n a0 x1 v5 s4))))))
def fX7_fetches (a0 : Nat) (x1 : Int32) (s0 : AS) : Option AR :=
  fX7_fetches_2 FU a0 x1 0 s0
def fX7_keepsAll_50  (a0 : Nat) (s0 : AS) : Option AR :=
  gI s0 a0 11 15 (fun v1 =>
  cV s0 a0 11 (fX7_keeps a0 (0 + v1) s0) (qV (fun s2 =>
  gI s2 a0 11 15 (fun v3 =>
  sI s2 a0 11 15 (v3 + 1) (fun s4 =>
  some (.inl none, s4))))))
def fX7_keepsAll_40  (a0 : Nat) (s0 : AS) : Option AR :=
  gI s0 a0 11 15 (fun v1 =>
  sI s0 a0 11 15 (v1 - 1) (fun s2 =>
  fX7_keepsAll_50 a0 s2))
def fX7_keepsAll_11  : Nat → Nat → Int32 → AS → Option AR
  | 0, _, _, _ => none
  | n + 1, a0, x1, s0 =>
    if (28784 : Int32) ≤ x1 then (
      fX7_keepsAll_40 a0 s0)
    else (
      gR s0 a0 11 14 (fun q1 =>
      gR s0 a0 11 14 (fun q2 =>
      aI s0 q2 100 (x1 + 4112) (fun v3 =>
      uI s0 q1 x1 v3 (fun s4 =>
      lt (x1 + 1) (fun v5 =>
      fX7_keepsAll_11 n a0 v5 s4))))))
def fX7_keepsAll (a0 : Nat) (s0 : AS) : Option AR :=
  gI s0 a0 11 15 (fun v1 =>
  if v1 = (8 : Int32) then (
    fX7_keepsAll_11 FU a0 0 s0)
  else (
    fX7_keepsAll_50 a0 s0))
def fX7_place_45  (a0 : Nat) (x1 : Int32) (x2 : Int32) (t0 : Nat) (t1 : Int32) (s0 : AS) : Option AR :=
  cV s0 t0 11 (fX7_refuse t0 t1 3 s0) (qI (fun v1 s2 =>
  if v1 = 0 then (
    cV s2 a0 11 (fX7_keepsAll a0 s2) (qV (fun s3 =>
    cV s3 a0 11 (fX7_adds a0 x1 x2 s3) (qV (fun s4 =>
    cV s4 a0 11 (fX7_gap a0 x1 s4) (qI (fun v5 s6 =>
    some (.inl (some (.int v5)), s6))))))))
  else (
    some (.inl (some (.int 0)), s2))))
def fX7_place_40  (a0 : Nat) (x1 : Int32) (x2 : Int32) (t0 : Nat) (s0 : AS) : Option AR :=
  fX7_place_45 a0 x1 x2 t0 1 s0
def fX7_place (a0 : Nat) (x1 : Int32) (x2 : Int32) (s0 : AS) : Option AR :=
  cV s0 a0 11 (fX7_noRow a0 x1 s0) (qI (fun v1 s2 =>
  if v1 = 0 then (
    cS s2 (fX7_in x2 1 200 s2) (qI (fun v3 s4 =>
    if v3 = 0 then (
      fX7_place_40 a0 x1 x2 a0 s4)
    else (
      cV s4 a0 11 (fX7_of a0 x1 0 s4) (qI (fun v5 s6 =>
      if v5 = (6 : Int32) then (
        fX7_place_40 a0 x1 x2 a0 s6)
      else (
        cV s6 a0 11 (fX7_gap a0 x1 s6) (qI (fun v7 s8 =>
        if x2 ≤ v7 then (
          fX7_place_45 a0 x1 x2 a0 0 s8)
        else (
          fX7_place_40 a0 x1 x2 a0 s8))))))))))
  else (
    some (.inl (some (.int 0)), s2))))
def fX7_lift_94  (a0 : Nat) (x1 : Int32) (x3 : Int32) (s0 : AS) : Option AR :=
  cV s0 a0 11 (fX7_of a0 x1 0 s0) (qI (fun v1 s2 =>
  cV s2 a0 11 (fX7_puts a0 x1 0 (v1 - 1) s2) (qV (fun s3 =>
  some (.inl (some (.int x3)), s3)))))
def fX7_lift_55  : Nat → Nat → Int32 → Int32 → Int32 → AS → Option AR
  | 0, _, _, _, _, _ => none
  | n + 1, a0, x1, x3, x4, s0 =>
    cV s0 a0 11 (fX7_of a0 x1 0 s0) (qI (fun v1 s2 =>
    if (v1 - 1) ≤ x4 then (
      fX7_lift_94 a0 x1 x3 s2)
    else (
      cV s2 a0 11 (fX7_of a0 x1 ((5 + x4) + 1) s2) (qI (fun v3 s4 =>
      cV s4 a0 11 (fX7_puts a0 x1 (5 + x4) v3 s4) (qV (fun s5 =>
      lt (x4 + 1) (fun v6 =>
      fX7_lift_55 n a0 x1 x3 v6 s5))))))))
def fX7_lift_30  (a0 : Nat) (x1 : Int32) (x2 : Int32) (t0 : Nat) (t1 : Int32) (s0 : AS) : Option AR :=
  cV s0 t0 11 (fX7_refuse t0 t1 2 s0) (qI (fun v1 s2 =>
  if v1 = 0 then (
    cV s2 a0 11 (fX7_keepsAll a0 s2) (qV (fun s3 =>
    cV s3 a0 11 (fX7_of a0 x1 (5 + x2) s3) (qI (fun v4 s5 =>
    fX7_lift_55 FU a0 x1 v4 x2 s5)))))
  else (
    some (.inl (some (.int 0)), s2))))
def fX7_lift (a0 : Nat) (x1 : Int32) (x2 : Int32) (s0 : AS) : Option AR :=
  cV s0 a0 11 (fX7_noRow a0 x1 s0) (qI (fun v1 s2 =>
  if v1 = 0 then (
    cV s2 a0 11 (fX7_of a0 x1 0 s2) (qI (fun v3 s4 =>
    cS s4 (fX7_in x2 0 (v3 - 1) s4) (qI (fun v5 s6 =>
    if v5 = 0 then (
      fX7_lift_30 a0 x1 x2 a0 1 s6)
    else (
      fX7_lift_30 a0 x1 x2 a0 0 s6))))))
  else (
    some (.inl (some (.int 0)), s2))))
def fX7_put_61  (a0 : Nat) (x1 : Int32) (x2 : Int32) (t0 : Nat) (t1 : Int32) (s0 : AS) : Option AR :=
  cV s0 t0 11 (fX7_refuse t0 t1 3 s0) (qI (fun v1 s2 =>
  if v1 = 0 then (
    cV s2 a0 11 (fX7_keepsAll a0 s2) (qV (fun s3 =>
    cV s3 a0 11 (fX7_putsPiece a0 x1 x2 s3) (qV (fun s4 =>
    cV s4 a0 11 (fX7_gap a0 x1 s4) (qI (fun v5 s6 =>
    some (.inl (some (.int v5)), s6))))))))
  else (
    some (.inl (some (.int 0)), s2))))
def fX7_put_56  (a0 : Nat) (x1 : Int32) (x2 : Int32) (t0 : Nat) (s0 : AS) : Option AR :=
  fX7_put_61 a0 x1 x2 t0 1 s0
def fX7_put_22  (a0 : Nat) (x1 : Int32) (x2 : Int32) (t0 : Nat) (t1 : Int32) (s0 : AS) : Option AR :=
  cV s0 t0 11 (fX7_refuse t0 t1 2 s0) (qI (fun v1 s2 =>
  if v1 = 0 then (
    gR s2 a0 11 12 (fun q3 =>
    aI s2 q3 100 (6 + x2) (fun v4 =>
    if v4 = 0 then (
      fX7_put_56 a0 x1 x2 a0 s2)
    else (
      cV s2 a0 11 (fX7_gap a0 x1 s2) (qI (fun v5 s6 =>
      gR s6 a0 11 11 (fun q7 =>
      aI s6 q7 100 x2 (fun v8 =>
      if v8 ≤ v5 then (
        fX7_put_61 a0 x1 x2 a0 0 s6)
      else (
        fX7_put_56 a0 x1 x2 a0 s6)))))))))
  else (
    some (.inl (some (.int 0)), s2))))
def fX7_put (a0 : Nat) (x1 : Int32) (x2 : Int32) (s0 : AS) : Option AR :=
  cV s0 a0 11 (fX7_noRow a0 x1 s0) (qI (fun v1 s2 =>
  if v1 = 0 then (
    cV s2 a0 11 (fX7_isKind a0 x2 s2) (qI (fun v3 s4 =>
    if v3 = 0 then (
      fX7_put_22 a0 x1 x2 a0 1 s4)
    else (
      fX7_put_22 a0 x1 x2 a0 0 s4))))
  else (
    some (.inl (some (.int 0)), s2))))
def fX7_take_97  (a0 : Nat) (x1 : Int32) (x3 : Int32) (s0 : AS) : Option AR :=
  cV s0 a0 11 (fX7_of a0 x1 1 s0) (qI (fun v1 s2 =>
  cV s2 a0 11 (fX7_puts a0 x1 1 (v1 - 1) s2) (qV (fun s3 =>
  gR s3 a0 11 12 (fun q4 =>
  aI s3 q4 100 (6 + x3) (fun v5 =>
  uI s3 q4 (6 + x3) (v5 + 1) (fun s6 =>
  some (.inl (some (.int x3)), s6))))))))
def fX7_take_56  : Nat → Nat → Int32 → Int32 → Int32 → AS → Option AR
  | 0, _, _, _, _, _ => none
  | n + 1, a0, x1, x3, x4, s0 =>
    cV s0 a0 11 (fX7_of a0 x1 1 s0) (qI (fun v1 s2 =>
    if (v1 - 1) ≤ x4 then (
      fX7_take_97 a0 x1 x3 s2)
    else (
      cV s2 a0 11 (fX7_of a0 x1 ((11 + x4) + 1) s2) (qI (fun v3 s4 =>
      cV s4 a0 11 (fX7_puts a0 x1 (11 + x4) v3 s4) (qV (fun s5 =>
      lt (x4 + 1) (fun v6 =>
      fX7_take_56 n a0 x1 x3 v6 s5))))))))
def fX7_take_30  (a0 : Nat) (x1 : Int32) (x2 : Int32) (t0 : Nat) (t1 : Int32) (s0 : AS) : Option AR :=
  cV s0 t0 11 (fX7_refuse t0 t1 2 s0) (qI (fun v1 s2 =>
  if v1 = 0 then (
    cV s2 a0 11 (fX7_keepsAll a0 s2) (qV (fun s3 =>
    cV s3 a0 11 (fX7_of a0 x1 (11 + x2) s3) (qI (fun v4 s5 =>
    fX7_take_56 FU a0 x1 v4 x2 s5)))))
  else (
    some (.inl (some (.int 0)), s2))))
def fX7_take (a0 : Nat) (x1 : Int32) (x2 : Int32) (s0 : AS) : Option AR :=
  cV s0 a0 11 (fX7_noRow a0 x1 s0) (qI (fun v1 s2 =>
  if v1 = 0 then (
    cV s2 a0 11 (fX7_of a0 x1 1 s2) (qI (fun v3 s4 =>
    cS s4 (fX7_in x2 0 (v3 - 1) s4) (qI (fun v5 s6 =>
    if v5 = 0 then (
      fX7_take_30 a0 x1 x2 a0 1 s6)
    else (
      fX7_take_30 a0 x1 x2 a0 0 s6))))))
  else (
    some (.inl (some (.int 0)), s2))))
def fX7_quoin_90  (a0 : Nat) (x1 : Int32) (s0 : AS) : Option AR :=
  cV s0 a0 11 (fX7_gap a0 x1 s0) (qI (fun v1 s2 =>
  some (.inl (some (.int v1)), s2)))
def fX7_quoin_48  (a0 : Nat) (x1 : Int32) (x2 : Int32) (t0 : Nat) (t1 : Int32) (s0 : AS) : Option AR :=
  cV s0 t0 11 (fX7_refuse t0 t1 3 s0) (qI (fun v1 s2 =>
  if v1 = 0 then (
    cV s2 a0 11 (fX7_keepsAll a0 s2) (qV (fun s3 =>
    if x2 = 0 then (
      cV s3 a0 11 (fX7_takesQuoin a0 x1 s3) (qV (fun s4 =>
      fX7_quoin_90 a0 x1 s4)))
    else (
      cV s3 a0 11 (fX7_puts a0 x1 2 0 s3) (qV (fun s5 =>
      gR s5 a0 11 12 (fun q6 =>
      aI s5 q6 100 0 (fun v7 =>
      uI s5 q6 0 (v7 - 1) (fun s8 =>
      fX7_quoin_90 a0 x1 s8)))))))))
  else (
    some (.inl (some (.int 0)), s2))))
def fX7_quoin_43  (a0 : Nat) (x1 : Int32) (x2 : Int32) (t0 : Nat) (s0 : AS) : Option AR :=
  fX7_quoin_48 a0 x1 x2 t0 1 s0
def fX7_quoin_47  (a0 : Nat) (x1 : Int32) (x2 : Int32) (t0 : Nat) (s0 : AS) : Option AR :=
  fX7_quoin_48 a0 x1 x2 t0 0 s0
def fX7_quoin (a0 : Nat) (x1 : Int32) (x2 : Int32) (s0 : AS) : Option AR :=
  cV s0 a0 11 (fX7_noRow a0 x1 s0) (qI (fun v1 s2 =>
  if v1 = 0 then (
    cV s2 a0 11 (fX7_hasQuoin a0 x1 s2) (qI (fun v3 s4 =>
    if v3 = x2 then (
      fX7_quoin_43 a0 x1 x2 a0 s4)
    else (
      if x2 = 0 then (
        fX7_quoin_47 a0 x1 x2 a0 s4)
      else (
        gR s4 a0 11 12 (fun q5 =>
        aI s4 q5 100 0 (fun v6 =>
        if v6 = 0 then (
          fX7_quoin_43 a0 x1 x2 a0 s4)
        else (
          cV s4 a0 11 (fX7_gap a0 x1 s4) (qI (fun v7 s8 =>
          gI s8 a0 11 4 (fun v9 =>
          if v9 ≤ v7 then (
            fX7_quoin_47 a0 x1 x2 a0 s8)
          else (
            fX7_quoin_43 a0 x1 x2 a0 s8))))))))))))
  else (
    some (.inl (some (.int 0)), s2))))
def fX7_open_43  (a0 : Nat) (x1 : Int32) (x2 : Int32) (t0 : Nat) (t1 : Int32) (s0 : AS) : Option AR :=
  cV s0 t0 11 (fX7_refuse t0 t1 3 s0) (qI (fun v1 s2 =>
  if v1 = 0 then (
    cV s2 a0 11 (fX7_keepsAll a0 s2) (qV (fun s3 =>
    cV s3 a0 11 (fX7_puts a0 x1 2 x2 s3) (qV (fun s4 =>
    cV s4 a0 11 (fX7_puts a0 x1 3 0 s4) (qV (fun s5 =>
    cV s5 a0 11 (fX7_gap a0 x1 s5) (qI (fun v6 s7 =>
    some (.inl (some (.int v6)), s7))))))))))
  else (
    some (.inl (some (.int 0)), s2))))
def fX7_open_38  (a0 : Nat) (x1 : Int32) (x2 : Int32) (t0 : Nat) (s0 : AS) : Option AR :=
  fX7_open_43 a0 x1 x2 t0 1 s0
def fX7_open (a0 : Nat) (x1 : Int32) (x2 : Int32) (s0 : AS) : Option AR :=
  cV s0 a0 11 (fX7_noRow a0 x1 s0) (qI (fun v1 s2 =>
  if v1 = 0 then (
    cV s2 a0 11 (fX7_hasQuoin a0 x1 s2) (qI (fun v3 s4 =>
    if v3 = 0 then (
      fX7_open_38 a0 x1 x2 a0 s4)
    else (
      gI s4 a0 11 5 (fun v5 =>
      cS s4 (fX7_in x2 0 v5 s4) (qI (fun v6 s7 =>
      if v6 = 0 then (
        fX7_open_38 a0 x1 x2 a0 s7)
      else (
        cV s7 a0 11 (fX7_sumFor a0 x1 x2 s7) (qI (fun v8 s9 =>
        if 0 ≤ v8 then (
          fX7_open_43 a0 x1 x2 a0 0 s9)
        else (
          fX7_open_38 a0 x1 x2 a0 s9)))))))))))
  else (
    some (.inl (some (.int 0)), s2))))
def fX7_lock_22  (a0 : Nat) (x1 : Int32) (t0 : Nat) (t1 : Int32) (s0 : AS) : Option AR :=
  cV s0 t0 11 (fX7_refuse t0 t1 3 s0) (qI (fun v1 s2 =>
  if v1 = 0 then (
    cV s2 a0 11 (fX7_keepsAll a0 s2) (qV (fun s3 =>
    cV s3 a0 11 (fX7_locks a0 x1 s3) (qI (fun v4 s5 =>
    cV s5 a0 11 (fX7_chosenMany a0 0 s5) (qI (fun v6 s7 =>
    some (.inl (some (.int v6)), s7))))))))
  else (
    some (.inl (some (.int 0)), s2))))
def fX7_lock (a0 : Nat) (x1 : Int32) (s0 : AS) : Option AR :=
  cV s0 a0 11 (fX7_noRow a0 x1 s0) (qI (fun v1 s2 =>
  if v1 = 0 then (
    cV s2 a0 11 (fX7_chooses a0 x1 s2) (qI (fun v3 s4 =>
    if v3 = 0 then (
      fX7_lock_22 a0 x1 a0 1 s4)
    else (
      fX7_lock_22 a0 x1 a0 0 s4))))
  else (
    some (.inl (some (.int 0)), s2))))
def fX7_unlock (a0 : Nat) (x1 : Int32) (s0 : AS) : Option AR :=
  cV s0 a0 11 (fX7_noRow a0 x1 s0) (qI (fun v1 s2 =>
  if v1 = 0 then (
    cV s2 a0 11 (fX7_keepsAll a0 s2) (qV (fun s3 =>
    cV s3 a0 11 (fX7_empties a0 x1 s3) (qI (fun v4 s5 =>
    some (.inl (some (.int v4)), s5))))))
  else (
    some (.inl (some (.int 0)), s2))))
def fX7_relock_43  (a0 : Nat) (x1 : Int32) (t0 : Nat) (t1 : Int32) (s0 : AS) : Option AR :=
  cV s0 t0 11 (fX7_refuse t0 t1 3 s0) (qI (fun v1 s2 =>
  if v1 = 0 then (
    cV s2 a0 11 (fX7_keepsAll a0 s2) (qV (fun s3 =>
    cV s3 a0 11 (fX7_empties a0 x1 s3) (qI (fun v4 s5 =>
    cV s5 a0 11 (fX7_locks a0 x1 s5) (qI (fun v6 s7 =>
    cV s7 a0 11 (fX7_chosenMany a0 0 s7) (qI (fun v8 s9 =>
    some (.inl (some (.int v8)), s9))))))))))
  else (
    some (.inl (some (.int 0)), s2))))
def fX7_relock (a0 : Nat) (x1 : Int32) (s0 : AS) : Option AR :=
  cV s0 a0 11 (fX7_noRow a0 x1 s0) (qI (fun v1 s2 =>
  if v1 = 0 then (
    cV s2 a0 11 (fX7_putsAside a0 s2) (qV (fun s3 =>
    cV s3 a0 11 (fX7_empties a0 x1 s3) (qI (fun v4 s5 =>
    cV s5 a0 11 (fX7_chooses a0 x1 s5) (qI (fun v6 s7 =>
    cS s7 (fX7_flag v6 s7) (qI (fun v8 s9 =>
    cV s9 a0 11 (fX7_fetchesBack a0 v8 s9) (qI (fun v10 s11 =>
    if v10 = 0 then (
      fX7_relock_43 a0 x1 a0 1 s11)
    else (
      fX7_relock_43 a0 x1 a0 0 s11))))))))))))
  else (
    some (.inl (some (.int 0)), s2))))
def fX7_tighten_107  (a0 : Nat) (x1 : Int32) (s0 : AS) : Option AR :=
  cV s0 a0 11 (fX7_of a0 x1 4 s0) (qI (fun v1 s2 =>
  some (.inl (some (.int v1)), s2)))
def fX7_tighten_35  : Nat → Nat → Int32 → AS → Option AR
  | 0, _, _, _ => none
  | n + 1, a0, x1, s0 =>
    cV s0 a0 11 (fX7_of a0 x1 2 s0) (qI (fun v1 s2 =>
    gI s2 a0 11 5 (fun v3 =>
    if v3 ≤ v1 then (
      fX7_tighten_107 a0 x1 s2)
    else (
      cV s2 a0 11 (fX7_of a0 x1 4 s2) (qI (fun v4 s5 =>
      if v4 ≤ 0 then (
        fX7_tighten_107 a0 x1 s5)
      else (
        cV s5 a0 11 (fX7_of a0 x1 2 s5) (qI (fun v6 s7 =>
        cV s7 a0 11 (fX7_puts a0 x1 2 (v6 + 1) s7) (qV (fun s8 =>
        cV s8 a0 11 (fX7_of a0 x1 3 s8) (qI (fun v9 s10 =>
        cV s10 a0 11 (fX7_puts a0 x1 3 (v9 + 1) s10) (qV (fun s11 =>
        cV s11 a0 11 (fX7_of a0 x1 4 s11) (qI (fun v12 s13 =>
        lt (if (0 : Int32) < (v12 - 10) then (v12 - 10) else (0 : Int32)) (fun v14 =>
        cV s13 a0 11 (fX7_puts a0 x1 4 v14 s13) (qV (fun s15 =>
        fX7_tighten_35 n a0 x1 s15))))))))))))))))))))
def fX7_tighten_22  (a0 : Nat) (x1 : Int32) (t0 : Nat) (t1 : Int32) (s0 : AS) : Option AR :=
  cV s0 t0 11 (fX7_refuse t0 t1 3 s0) (qI (fun v1 s2 =>
  if v1 = 0 then (
    cV s2 a0 11 (fX7_keepsAll a0 s2) (qV (fun s3 =>
    fX7_tighten_35 FU a0 x1 s3)))
  else (
    some (.inl (some (.int 0)), s2))))
def fX7_tighten (a0 : Nat) (x1 : Int32) (s0 : AS) : Option AR :=
  cV s0 a0 11 (fX7_noRow a0 x1 s0) (qI (fun v1 s2 =>
  if v1 = 0 then (
    cV s2 a0 11 (fX7_hasQuoin a0 x1 s2) (qI (fun v3 s4 =>
    if v3 = 0 then (
      fX7_tighten_22 a0 x1 a0 1 s4)
    else (
      fX7_tighten_22 a0 x1 a0 0 s4))))
  else (
    some (.inl (some (.int 0)), s2))))
def fX7_print_45  : Nat → Nat → Int32 → Int32 → Int32 → AS → Option AR
  | 0, _, _, _, _, _ => none
  | n + 1, a0, x1, x2, x3, s0 =>
    if x1 ≤ x3 then (
      gR s0 a0 11 12 (fun q1 =>
      aI s0 q1 100 2 (fun v2 =>
      some (.inl (some (.int (v2 - x2))), s0))))
    else (
      cV s0 a0 11 (fX7_prints a0 s0) (qI (fun v3 s4 =>
      lt (x3 + 1) (fun v5 =>
      fX7_print_45 n a0 x1 x2 v5 s4))))
def fX7_print_23  (a0 : Nat) (x1 : Int32) (t0 : Nat) (t1 : Int32) (s0 : AS) : Option AR :=
  cV s0 t0 11 (fX7_refuse t0 t1 2 s0) (qI (fun v1 s2 =>
  if v1 = 0 then (
    cV s2 a0 11 (fX7_keepsAll a0 s2) (qV (fun s3 =>
    gR s3 a0 11 12 (fun q4 =>
    aI s3 q4 100 2 (fun v5 =>
    fX7_print_45 FU a0 x1 v5 0 s3)))))
  else (
    some (.inl (some (.int 0)), s2))))
def fX7_print (a0 : Nat) (x1 : Int32) (s0 : AS) : Option AR :=
  cV s0 a0 11 (fX7_notLoaded a0 s0) (qI (fun v1 s2 =>
  if v1 = 0 then (
    cS s2 (fX7_in x1 1 100 s2) (qI (fun v3 s4 =>
    if v3 = 0 then (
      fX7_print_23 a0 x1 a0 1 s4)
    else (
      fX7_print_23 a0 x1 a0 0 s4))))
  else (
    some (.inl (some (.int 0)), s2))))
def fX7_rest_40  : Nat → Nat → Int32 → Int32 → Int32 → AS → Option AR
  | 0, _, _, _, _, _ => none
  | n + 1, a0, x1, x2, x3, s0 =>
    if x1 ≤ x3 then (
      some (.inl (some (.int x2)), s0))
    else (
      cV s0 a0 11 (fX7_passes a0 s0) (qI (fun v1 s2 =>
      cS s2 (fX7_ones v1 s2) (qI (fun v3 s4 =>
      lt (x2 + v3) (fun v5 =>
      lt (x3 + 1) (fun v6 =>
      fX7_rest_40 n a0 x1 v5 v6 s4)))))))
def fX7_rest_23  (a0 : Nat) (x1 : Int32) (t0 : Nat) (t1 : Int32) (s0 : AS) : Option AR :=
  cV s0 t0 11 (fX7_refuse t0 t1 2 s0) (qI (fun v1 s2 =>
  if v1 = 0 then (
    cV s2 a0 11 (fX7_keepsAll a0 s2) (qV (fun s3 =>
    fX7_rest_40 FU a0 x1 0 0 s3)))
  else (
    some (.inl (some (.int 0)), s2))))
def fX7_rest (a0 : Nat) (x1 : Int32) (s0 : AS) : Option AR :=
  cV s0 a0 11 (fX7_notLoaded a0 s0) (qI (fun v1 s2 =>
  if v1 = 0 then (
    cS s2 (fX7_in x1 1 100 s2) (qI (fun v3 s4 =>
    if v3 = 0 then (
      fX7_rest_23 a0 x1 a0 1 s4)
    else (
      fX7_rest_23 a0 x1 a0 0 s4))))
  else (
    some (.inl (some (.int 0)), s2))))
def fX7_buy_60  (a0 : Nat) (x1 : Int32) (x2 : Int32) (t0 : Nat) (t1 : Int32) (s0 : AS) : Option AR :=
  cV s0 t0 11 (fX7_refuse t0 t1 3 s0) (qI (fun v1 s2 =>
  if v1 = 0 then (
    cV s2 a0 11 (fX7_keepsAll a0 s2) (qV (fun s3 =>
    gR s3 a0 11 12 (fun q4 =>
    aI s3 q4 100 (6 + x1) (fun v5 =>
    uI s3 q4 (6 + x1) (v5 + x2) (fun s6 =>
    gR s6 a0 11 12 (fun q7 =>
    aI s6 q7 100 (6 + x1) (fun v8 =>
    some (.inl (some (.int v8)), s6)))))))))
  else (
    some (.inl (some (.int 0)), s2))))
def fX7_buy_55  (a0 : Nat) (x1 : Int32) (x2 : Int32) (t0 : Nat) (s0 : AS) : Option AR :=
  fX7_buy_60 a0 x1 x2 t0 1 s0
def fX7_buy_21  (a0 : Nat) (x1 : Int32) (x2 : Int32) (t0 : Nat) (t1 : Int32) (s0 : AS) : Option AR :=
  cV s0 t0 11 (fX7_refuse t0 t1 2 s0) (qI (fun v1 s2 =>
  if v1 = 0 then (
    cS s2 (fX7_in x2 1 99 s2) (qI (fun v3 s4 =>
    if v3 = 0 then (
      fX7_buy_55 a0 x1 x2 a0 s4)
    else (
      gR s4 a0 11 12 (fun q5 =>
      aI s4 q5 100 (6 + x1) (fun v6 =>
      if (v6 + x2) ≤ (99 : Int32) then (
        fX7_buy_60 a0 x1 x2 a0 0 s4)
      else (
        fX7_buy_55 a0 x1 x2 a0 s4)))))))
  else (
    some (.inl (some (.int 0)), s2))))
def fX7_buy (a0 : Nat) (x1 : Int32) (x2 : Int32) (s0 : AS) : Option AR :=
  cV s0 a0 11 (fX7_notLoaded a0 s0) (qI (fun v1 s2 =>
  if v1 = 0 then (
    cV s2 a0 11 (fX7_isKind a0 x1 s2) (qI (fun v3 s4 =>
    if v3 = 0 then (
      fX7_buy_21 a0 x1 x2 a0 1 s4)
    else (
      fX7_buy_21 a0 x1 x2 a0 0 s4))))
  else (
    some (.inl (some (.int 0)), s2))))
def fX7_undo_18  (a0 : Nat) (t0 : Nat) (t1 : Int32) (s0 : AS) : Option AR :=
  cV s0 t0 11 (fX7_refuse t0 t1 1 s0) (qI (fun v1 s2 =>
  if v1 = 0 then (
    gI s2 a0 11 15 (fun v3 =>
    sI s2 a0 11 15 (v3 - 1) (fun s4 =>
    gI s4 a0 11 15 (fun v5 =>
    cV s4 a0 11 (fX7_fetches a0 (0 + v5) s4) (qV (fun s6 =>
    gI s6 a0 11 15 (fun v7 =>
    some (.inl (some (.int v7)), s6))))))))
  else (
    some (.inl (some (.int 0)), s2))))
def fX7_undo (a0 : Nat) (s0 : AS) : Option AR :=
  sI s0 a0 11 0 0 (fun s1 =>
  gI s1 a0 11 15 (fun v2 =>
  if v2 = 0 then (
    fX7_undo_18 a0 a0 1 s1)
  else (
    fX7_undo_18 a0 a0 0 s1)))
def fX7_undoable (a0 : Nat) (s0 : AS) : Option AR :=
  sI s0 a0 11 0 0 (fun s1 =>
  gI s1 a0 11 15 (fun v2 =>
  some (.inl (some (.int v2)), s1)))
def fX7_save_22  (a0 : Nat) (x1 : Int32) (t0 : Nat) (t1 : Int32) (s0 : AS) : Option AR :=
  cV s0 t0 11 (fX7_refuse t0 t1 2 s0) (qI (fun v1 s2 =>
  if v1 = 0 then (
    cV s2 a0 11 (fX7_keeps a0 (8 + x1) s2) (qV (fun s3 =>
    gR s3 a0 11 16 (fun q4 =>
    uN 101 .boolean s3 q4 x1 1 (fun s5 =>
    gR s5 a0 11 12 (fun q6 =>
    aI s5 q6 100 1 (fun v7 =>
    some (.inl (some (.int v7)), s5))))))))
  else (
    some (.inl (some (.int 0)), s2))))
def fX7_save (a0 : Nat) (x1 : Int32) (s0 : AS) : Option AR :=
  cV s0 a0 11 (fX7_notLoaded a0 s0) (qI (fun v1 s2 =>
  if v1 = 0 then (
    cS s2 (fX7_in x1 0 1 s2) (qI (fun v3 s4 =>
    if v3 = 0 then (
      fX7_save_22 a0 x1 a0 1 s4)
    else (
      fX7_save_22 a0 x1 a0 0 s4))))
  else (
    some (.inl (some (.int 0)), s2))))
def fX7_restore_42  (a0 : Nat) (x1 : Int32) (t0 : Nat) (t1 : Int32) (s0 : AS) : Option AR :=
  cV s0 t0 11 (fX7_refuse t0 t1 2 s0) (qI (fun v1 s2 =>
  if v1 = 0 then (
    cV s2 a0 11 (fX7_fetches a0 (8 + x1) s2) (qV (fun s3 =>
    sI s3 a0 11 15 0 (fun s4 =>
    gR s4 a0 11 12 (fun q5 =>
    aI s4 q5 100 1 (fun v6 =>
    some (.inl (some (.int v6)), s4)))))))
  else (
    some (.inl (some (.int 0)), s2))))
def fX7_restore_20  (a0 : Nat) (x1 : Int32) (t0 : Nat) (t1 : Int32) (s0 : AS) : Option AR :=
  cV s0 t0 11 (fX7_refuse t0 t1 1 s0) (qI (fun v1 s2 =>
  if v1 = 0 then (
    gR s2 a0 11 16 (fun q3 =>
    aI s2 q3 101 x1 (fun v4 =>
    if v4 = 0 then (
      fX7_restore_42 a0 x1 a0 1 s2)
    else (
      fX7_restore_42 a0 x1 a0 0 s2))))
  else (
    some (.inl (some (.int 0)), s2))))
def fX7_restore (a0 : Nat) (x1 : Int32) (s0 : AS) : Option AR :=
  sI s0 a0 11 0 0 (fun s1 =>
  cS s1 (fX7_in x1 0 1 s1) (qI (fun v2 s3 =>
  if v2 = 0 then (
    fX7_restore_20 a0 x1 a0 1 s3)
  else (
    fX7_restore_20 a0 x1 a0 0 s3))))
def hxL_load : List (String × Int32 × (Nat × Nat × Nat × Nat)) := [("java/lang/IndexOutOfBoundsException", 1, (0, 9, 12, 13)), ("java/lang/IllegalArgumentException", 2, (0, 9, 15, 15))]
def fL_load (a0 : Nat) (x1 : Int32) (a2 : Nat) (s0 : AS) : Option AR :=
  cH s0 a0 10 (fX6_load a0 x1 s0) hxL_load (qI (fun v1 s2 =>
  uJ s2 a2 0 (v1.toInt64) (fun s3 =>
  some (.inl (some (.int 0)), s3))))
def hxL_count : List (String × Int32 × (Nat × Nat × Nat × Nat)) := [("java/lang/IllegalStateException", 1, (0, 9, 12, 20)), ("java/lang/IllegalArgumentException", 2, (0, 9, 15, 15))]
def fL_count (a0 : Nat) (x1 : Int32) (a2 : Nat) (s0 : AS) : Option AR :=
  cH s0 a0 10 (fX6_count a0 x1 s0) hxL_count (qI (fun v1 s2 =>
  uJ s2 a2 0 (v1.toInt64) (fun s3 =>
  some (.inl (some (.int 0)), s3))))
def hxL_setting : List (String × Int32 × (Nat × Nat × Nat × Nat)) := [("java/lang/IllegalStateException", 1, (0, 9, 12, 20)), ("java/lang/IllegalArgumentException", 2, (0, 9, 15, 15))]
def fL_setting (a0 : Nat) (x1 : Int32) (a2 : Nat) (s0 : AS) : Option AR :=
  cH s0 a0 10 (fX6_setting a0 x1 s0) hxL_setting (qI (fun v1 s2 =>
  uJ s2 a2 0 (v1.toInt64) (fun s3 =>
  some (.inl (some (.int 0)), s3))))
def hxL_row : List (String × Int32 × (Nat × Nat × Nat × Nat)) := [("java/lang/IllegalStateException", 1, (0, 10, 13, 20)), ("java/lang/IndexOutOfBoundsException", 2, (0, 10, 17, 13)), ("java/lang/IllegalArgumentException", 3, (0, 10, 21, 15))]
def fL_row (a0 : Nat) (x1 : Int32) (x2 : Int32) (a3 : Nat) (s0 : AS) : Option AR :=
  cH s0 a0 10 (fX6_row a0 x1 x2 s0) hxL_row (qI (fun v1 s2 =>
  uJ s2 a3 0 (v1.toInt64) (fun s3 =>
  some (.inl (some (.int 0)), s3))))
def hxL_block : List (String × Int32 × (Nat × Nat × Nat × Nat)) := [("java/lang/IllegalStateException", 1, (0, 10, 13, 20)), ("java/lang/IndexOutOfBoundsException", 2, (0, 10, 17, 13))]
def fL_block (a0 : Nat) (x1 : Int32) (x2 : Int32) (a3 : Nat) (s0 : AS) : Option AR :=
  cH s0 a0 10 (fX6_block a0 x1 x2 s0) hxL_block (qI (fun v1 s2 =>
  uJ s2 a3 0 (v1.toInt64) (fun s3 =>
  some (.inl (some (.int 0)), s3))))
def hxL_piece : List (String × Int32 × (Nat × Nat × Nat × Nat)) := [("java/lang/IllegalStateException", 1, (0, 10, 13, 20)), ("java/lang/IndexOutOfBoundsException", 2, (0, 10, 17, 13))]
def fL_piece (a0 : Nat) (x1 : Int32) (x2 : Int32) (a3 : Nat) (s0 : AS) : Option AR :=
  cH s0 a0 10 (fX6_piece a0 x1 x2 s0) hxL_piece (qI (fun v1 s2 =>
  uJ s2 a3 0 (v1.toInt64) (fun s3 =>
  some (.inl (some (.int 0)), s3))))
def hxL_kind : List (String × Int32 × (Nat × Nat × Nat × Nat)) := [("java/lang/IllegalStateException", 1, (0, 10, 13, 20)), ("java/lang/IndexOutOfBoundsException", 2, (0, 10, 17, 13)), ("java/lang/IllegalArgumentException", 3, (0, 10, 21, 15))]
def fL_kind (a0 : Nat) (x1 : Int32) (x2 : Int32) (a3 : Nat) (s0 : AS) : Option AR :=
  cH s0 a0 10 (fX6_kind a0 x1 x2 s0) hxL_kind (qI (fun v1 s2 =>
  uJ s2 a3 0 (v1.toInt64) (fun s3 =>
  some (.inl (some (.int 0)), s3))))
def hxL_kindOf : List (String × Int32 × (Nat × Nat × Nat × Nat)) := [("java/lang/IllegalStateException", 1, (0, 10, 13, 20))]
def fL_kindOf (a0 : Nat) (x1 : Int32) (x2 : Int32) (a3 : Nat) (s0 : AS) : Option AR :=
  cH s0 a0 10 (fX6_kindOf a0 x1 x2 s0) hxL_kindOf (qI (fun v1 s2 =>
  uJ s2 a3 0 (v1.toInt64) (fun s3 =>
  some (.inl (some (.int 0)), s3))))
def hxL_isTight : List (String × Int32 × (Nat × Nat × Nat × Nat)) := [("java/lang/IllegalStateException", 1, (0, 16, 19, 20)), ("java/lang/IndexOutOfBoundsException", 2, (0, 16, 22, 13))]
def fL_isTight_15  (t0 : Nat) (t1 : Int32) (t2 : Int64) (s0 : AS) : Option AR :=
  uJ s0 t0 t1 t2 (fun s1 =>
  some (.inl (some (.int 0)), s1))
def fL_isTight (a0 : Nat) (x1 : Int32) (a2 : Nat) (s0 : AS) : Option AR :=
  cH s0 a0 10 (fX6_isTight a0 x1 s0) hxL_isTight (qI (fun v1 s2 =>
  if v1 = 0 then (
    fL_isTight_15 a2 0 0 s2)
  else (
    fL_isTight_15 a2 0 1 s2)))
def hxL_widestGap : List (String × Int32 × (Nat × Nat × Nat × Nat)) := [("java/lang/IllegalStateException", 1, (0, 8, 11, 20))]
def fL_widestGap (a0 : Nat) (a1 : Nat) (s0 : AS) : Option AR :=
  cH s0 a0 10 (fX6_widestGap a0 s0) hxL_widestGap (qI (fun v1 s2 =>
  uJ s2 a1 0 (v1.toInt64) (fun s3 =>
  some (.inl (some (.int 0)), s3))))
def hxL_loosest : List (String × Int32 × (Nat × Nat × Nat × Nat)) := [("java/lang/IllegalStateException", 1, (0, 8, 11, 20))]
def fL_loosest (a0 : Nat) (a1 : Nat) (s0 : AS) : Option AR :=
  cH s0 a0 10 (fX6_loosest a0 s0) hxL_loosest (qI (fun v1 s2 =>
  uJ s2 a1 0 (v1.toInt64) (fun s3 =>
  some (.inl (some (.int 0)), s3))))
def hxL_longestLeft : List (String × Int32 × (Nat × Nat × Nat × Nat)) := [("java/lang/IllegalStateException", 1, (0, 8, 11, 20))]
def fL_longestLeft (a0 : Nat) (a1 : Nat) (s0 : AS) : Option AR :=
  cH s0 a0 10 (fX6_longestLeft a0 s0) hxL_longestLeft (qI (fun v1 s2 =>
  uJ s2 a1 0 (v1.toInt64) (fun s3 =>
  some (.inl (some (.int 0)), s3))))
def hxL_lengthLeft : List (String × Int32 × (Nat × Nat × Nat × Nat)) := [("java/lang/IllegalStateException", 1, (0, 8, 11, 20))]
def fL_lengthLeft (a0 : Nat) (a1 : Nat) (s0 : AS) : Option AR :=
  cH s0 a0 10 (fX6_lengthLeft a0 s0) hxL_lengthLeft (qI (fun v1 s2 =>
  uJ s2 a1 0 (v1.toInt64) (fun s3 =>
  some (.inl (some (.int 0)), s3))))
def hxL_meanGap : List (String × Int32 × (Nat × Nat × Nat × Nat)) := [("java/lang/IllegalStateException", 1, (0, 7, 10, 20))]
def fL_meanGap (a0 : Nat) (a1 : Nat) (s0 : AS) : Option AR :=
  cH s0 a0 10 (fX6_meanGap a0 s0) hxL_meanGap (qD (fun d1 s2 =>
  uD s2 a1 0 d1 (fun s3 =>
  some (.inl (some (.int 0)), s3))))
def hxL_woodShare : List (String × Int32 × (Nat × Nat × Nat × Nat)) := [("java/lang/IllegalStateException", 1, (0, 8, 11, 20))]
def fL_woodShare (a0 : Nat) (a1 : Nat) (s0 : AS) : Option AR :=
  cH s0 a0 10 (fX6_woodShare a0 s0) hxL_woodShare (qF (fun y1 s2 =>
  if FP.f2d y1 &&& 0x7fffffffffffffff ≤ 0x7ff0000000000000 then (
  uD s2 a1 0 (FP.f2d y1) (fun s3 =>
  some (.inl (some (.int 0)), s3))) else none))
def hxL_goodShare : List (String × Int32 × (Nat × Nat × Nat × Nat)) := [("java/lang/IllegalStateException", 1, (0, 8, 11, 20))]
def fL_goodShare (a0 : Nat) (a1 : Nat) (s0 : AS) : Option AR :=
  cH s0 a0 10 (fX6_goodShare a0 s0) hxL_goodShare (qF (fun y1 s2 =>
  if FP.f2d y1 &&& 0x7fffffffffffffff ≤ 0x7ff0000000000000 then (
  uD s2 a1 0 (FP.f2d y1) (fun s3 =>
  some (.inl (some (.int 0)), s3))) else none))
def hxL_choice : List (String × Int32 × (Nat × Nat × Nat × Nat)) := [("java/lang/IllegalStateException", 1, (0, 10, 13, 20)), ("java/lang/IndexOutOfBoundsException", 2, (0, 10, 17, 13)), ("java/lang/IllegalArgumentException", 3, (0, 10, 21, 15))]
def fL_choice (a0 : Nat) (x1 : Int32) (x2 : Int32) (a3 : Nat) (s0 : AS) : Option AR :=
  cH s0 a0 10 (fX6_choice a0 x1 x2 s0) hxL_choice (qI (fun v1 s2 =>
  uJ s2 a3 0 (v1.toInt64) (fun s3 =>
  some (.inl (some (.int 0)), s3))))
def hxL_chosen : List (String × Int32 × (Nat × Nat × Nat × Nat)) := [("java/lang/IllegalStateException", 1, (0, 10, 13, 20)), ("java/lang/IndexOutOfBoundsException", 2, (0, 10, 17, 13))]
def fL_chosen (a0 : Nat) (x1 : Int32) (x2 : Int32) (a3 : Nat) (s0 : AS) : Option AR :=
  cH s0 a0 10 (fX6_chosen a0 x1 x2 s0) hxL_chosen (qI (fun v1 s2 =>
  uJ s2 a3 0 (v1.toInt64) (fun s3 =>
  some (.inl (some (.int 0)), s3))))
def hxL_ways : List (String × Int32 × (Nat × Nat × Nat × Nat)) := [("java/lang/IllegalStateException", 1, (0, 9, 12, 20)), ("java/lang/IndexOutOfBoundsException", 2, (0, 9, 15, 13))]
def fL_ways (a0 : Nat) (x1 : Int32) (a2 : Nat) (s0 : AS) : Option AR :=
  cH s0 a0 10 (fX6_ways a0 x1 s0) hxL_ways (qI (fun v1 s2 =>
  uJ s2 a2 0 (v1.toInt64) (fun s3 =>
  some (.inl (some (.int 0)), s3))))
def hxL_nearest : List (String × Int32 × (Nat × Nat × Nat × Nat)) := [("java/lang/IllegalStateException", 1, (0, 9, 12, 20)), ("java/lang/IndexOutOfBoundsException", 2, (0, 9, 15, 13))]
def fL_nearest (a0 : Nat) (x1 : Int32) (a2 : Nat) (s0 : AS) : Option AR :=
  cH s0 a0 10 (fX6_nearest a0 x1 s0) hxL_nearest (qI (fun v1 s2 =>
  uJ s2 a2 0 (v1.toInt64) (fun s3 =>
  some (.inl (some (.int 0)), s3))))
def hxL_fewestAt : List (String × Int32 × (Nat × Nat × Nat × Nat)) := [("java/lang/IllegalStateException", 1, (0, 10, 13, 20)), ("java/lang/IndexOutOfBoundsException", 2, (0, 10, 17, 13)), ("java/lang/IllegalArgumentException", 3, (0, 10, 21, 15))]
def fL_fewestAt (a0 : Nat) (x1 : Int32) (x2 : Int32) (a3 : Nat) (s0 : AS) : Option AR :=
  cH s0 a0 10 (fX6_fewestAt a0 x1 x2 s0) hxL_fewestAt (qI (fun v1 s2 =>
  uJ s2 a3 0 (v1.toInt64) (fun s3 =>
  some (.inl (some (.int 0)), s3))))
def hxL_rowFor : List (String × Int32 × (Nat × Nat × Nat × Nat)) := [("java/lang/IllegalStateException", 1, (0, 9, 12, 20)), ("java/lang/IllegalArgumentException", 2, (0, 9, 15, 15))]
def fL_rowFor (a0 : Nat) (x1 : Int32) (a2 : Nat) (s0 : AS) : Option AR :=
  cH s0 a0 10 (fX6_rowFor a0 x1 s0) hxL_rowFor (qI (fun v1 s2 =>
  uJ s2 a2 0 (v1.toInt64) (fun s3 =>
  some (.inl (some (.int 0)), s3))))
def hxL_missing : List (String × Int32 × (Nat × Nat × Nat × Nat)) := [("java/lang/IllegalStateException", 1, (0, 9, 12, 20)), ("java/lang/IndexOutOfBoundsException", 2, (0, 9, 15, 13))]
def fL_missing (a0 : Nat) (x1 : Int32) (a2 : Nat) (s0 : AS) : Option AR :=
  cH s0 a0 10 (fX6_missing a0 x1 s0) hxL_missing (qI (fun v1 s2 =>
  uJ s2 a2 0 (v1.toInt64) (fun s3 =>
  some (.inl (some (.int 0)), s3))))
def hxL_canPut : List (String × Int32 × (Nat × Nat × Nat × Nat)) := [("java/lang/IllegalStateException", 1, (0, 17, 20, 20)), ("java/lang/IndexOutOfBoundsException", 2, (0, 17, 24, 13))]
def fL_canPut_16  (t0 : Nat) (t1 : Int32) (t2 : Int64) (s0 : AS) : Option AR :=
  uJ s0 t0 t1 t2 (fun s1 =>
  some (.inl (some (.int 0)), s1))
def fL_canPut (a0 : Nat) (x1 : Int32) (x2 : Int32) (a3 : Nat) (s0 : AS) : Option AR :=
  cH s0 a0 10 (fX6_canPut a0 x1 x2 s0) hxL_canPut (qI (fun v1 s2 =>
  if v1 = 0 then (
    fL_canPut_16 a3 0 0 s2)
  else (
    fL_canPut_16 a3 0 1 s2)))
def hxL_freshChoice : List (String × Int32 × (Nat × Nat × Nat × Nat)) := [("java/lang/IllegalStateException", 1, (0, 9, 12, 20)), ("java/lang/IndexOutOfBoundsException", 2, (0, 9, 15, 13))]
def fL_freshChoice (a0 : Nat) (x1 : Int32) (a2 : Nat) (s0 : AS) : Option AR :=
  cH s0 a0 10 (fX6_freshChoice a0 x1 s0) hxL_freshChoice (qI (fun v1 s2 =>
  uJ s2 a2 0 (v1.toInt64) (fun s3 =>
  some (.inl (some (.int 0)), s3))))
def hxL_fillable : List (String × Int32 × (Nat × Nat × Nat × Nat)) := [("java/lang/IllegalStateException", 1, (0, 9, 12, 20)), ("java/lang/IllegalArgumentException", 2, (0, 9, 15, 15))]
def fL_fillable (a0 : Nat) (x1 : Int32) (a2 : Nat) (s0 : AS) : Option AR :=
  cH s0 a0 10 (fX6_fillable a0 x1 s0) hxL_fillable (qI (fun v1 s2 =>
  uJ s2 a2 0 (v1.toInt64) (fun s3 =>
  some (.inl (some (.int 0)), s3))))
def hxL_fallsIn : List (String × Int32 × (Nat × Nat × Nat × Nat)) := [("java/lang/IllegalStateException", 1, (0, 10, 13, 20)), ("java/lang/IndexOutOfBoundsException", 2, (0, 10, 17, 13))]
def fL_fallsIn (a0 : Nat) (x1 : Int32) (x2 : Int32) (a3 : Nat) (s0 : AS) : Option AR :=
  cH s0 a0 10 (fX6_fallsIn a0 x1 x2 s0) hxL_fallsIn (qI (fun v1 s2 =>
  uJ s2 a3 0 (v1.toInt64) (fun s3 =>
  some (.inl (some (.int 0)), s3))))
def hxL_goodIn : List (String × Int32 × (Nat × Nat × Nat × Nat)) := [("java/lang/IllegalStateException", 1, (0, 9, 12, 20)), ("java/lang/IllegalArgumentException", 2, (0, 9, 15, 15))]
def fL_goodIn (a0 : Nat) (x1 : Int32) (a2 : Nat) (s0 : AS) : Option AR :=
  cH s0 a0 10 (fX6_goodIn a0 x1 s0) hxL_goodIn (qI (fun v1 s2 =>
  uJ s2 a2 0 (v1.toInt64) (fun s3 =>
  some (.inl (some (.int 0)), s3))))
def hxL_lockable : List (String × Int32 × (Nat × Nat × Nat × Nat)) := [("java/lang/IllegalStateException", 1, (0, 8, 11, 20))]
def fL_lockable (a0 : Nat) (a1 : Nat) (s0 : AS) : Option AR :=
  cH s0 a0 10 (fX6_lockable a0 s0) hxL_lockable (qI (fun v1 s2 =>
  uJ s2 a1 0 (v1.toInt64) (fun s3 =>
  some (.inl (some (.int 0)), s3))))
def hxL_lockedAll : List (String × Int32 × (Nat × Nat × Nat × Nat)) := [("java/lang/IllegalStateException", 1, (0, 8, 11, 20))]
def fL_lockedAll (a0 : Nat) (a1 : Nat) (s0 : AS) : Option AR :=
  cH s0 a0 10 (fX6_lockedAll a0 s0) hxL_lockedAll (qI (fun v1 s2 =>
  uJ s2 a1 0 (v1.toInt64) (fun s3 =>
  some (.inl (some (.int 0)), s3))))
def hxL_writeRow : List (String × Int32 × (Nat × Nat × Nat × Nat)) := [("java/lang/IllegalStateException", 1, (0, 9, 12, 20)), ("java/lang/IndexOutOfBoundsException", 2, (0, 9, 15, 13))]
def fL_writeRow (a0 : Nat) (x1 : Int32) (a2 : Nat) (s0 : AS) : Option AR :=
  cH s0 a0 10 (fX6_writeRow a0 x1 s0) hxL_writeRow (qI (fun v1 s2 =>
  uJ s2 a2 0 (v1.toInt64) (fun s3 =>
  some (.inl (some (.int 0)), s3))))
def hxL_writeChoice : List (String × Int32 × (Nat × Nat × Nat × Nat)) := [("java/lang/IllegalStateException", 1, (0, 9, 12, 20)), ("java/lang/IndexOutOfBoundsException", 2, (0, 9, 15, 13))]
def fL_writeChoice (a0 : Nat) (x1 : Int32) (a2 : Nat) (s0 : AS) : Option AR :=
  cH s0 a0 10 (fX6_writeChoice a0 x1 s0) hxL_writeChoice (qI (fun v1 s2 =>
  uJ s2 a2 0 (v1.toInt64) (fun s3 =>
  some (.inl (some (.int 0)), s3))))
def hxL_writeStock : List (String × Int32 × (Nat × Nat × Nat × Nat)) := [("java/lang/IllegalStateException", 1, (0, 8, 11, 20))]
def fL_writeStock (a0 : Nat) (a1 : Nat) (s0 : AS) : Option AR :=
  cH s0 a0 10 (fX6_writeStock a0 s0) hxL_writeStock (qI (fun v1 s2 =>
  uJ s2 a1 0 (v1.toInt64) (fun s3 =>
  some (.inl (some (.int 0)), s3))))
def hxL_textByte : List (String × Int32 × (Nat × Nat × Nat × Nat)) := [("java/lang/IndexOutOfBoundsException", 1, (0, 9, 12, 13))]
def fL_textByte (a0 : Nat) (x1 : Int32) (a2 : Nat) (s0 : AS) : Option AR :=
  cH s0 a0 10 (fX6_textByte a0 x1 s0) hxL_textByte (qI (fun v1 s2 =>
  uJ s2 a2 0 (v1.toInt64) (fun s3 =>
  some (.inl (some (.int 0)), s3))))
def hxL_place : List (String × Int32 × (Nat × Nat × Nat × Nat)) := [("java/lang/IllegalStateException", 1, (0, 10, 13, 20)), ("java/lang/IndexOutOfBoundsException", 2, (0, 10, 17, 13)), ("java/lang/IllegalArgumentException", 3, (0, 10, 21, 15))]
def fL_place (a0 : Nat) (x1 : Int32) (x2 : Int32) (a3 : Nat) (s0 : AS) : Option AR :=
  cH s0 a0 10 (fX6_place a0 x1 x2 s0) hxL_place (qI (fun v1 s2 =>
  uJ s2 a3 0 (v1.toInt64) (fun s3 =>
  some (.inl (some (.int 0)), s3))))
def hxL_lift : List (String × Int32 × (Nat × Nat × Nat × Nat)) := [("java/lang/IllegalStateException", 1, (0, 10, 13, 20)), ("java/lang/IndexOutOfBoundsException", 2, (0, 10, 17, 13))]
def fL_lift (a0 : Nat) (x1 : Int32) (x2 : Int32) (a3 : Nat) (s0 : AS) : Option AR :=
  cH s0 a0 10 (fX6_lift a0 x1 x2 s0) hxL_lift (qI (fun v1 s2 =>
  uJ s2 a3 0 (v1.toInt64) (fun s3 =>
  some (.inl (some (.int 0)), s3))))
def hxL_put : List (String × Int32 × (Nat × Nat × Nat × Nat)) := [("java/lang/IllegalStateException", 1, (0, 10, 13, 20)), ("java/lang/IndexOutOfBoundsException", 2, (0, 10, 17, 13)), ("java/lang/IllegalArgumentException", 3, (0, 10, 21, 15))]
def fL_put (a0 : Nat) (x1 : Int32) (x2 : Int32) (a3 : Nat) (s0 : AS) : Option AR :=
  cH s0 a0 10 (fX6_put a0 x1 x2 s0) hxL_put (qI (fun v1 s2 =>
  uJ s2 a3 0 (v1.toInt64) (fun s3 =>
  some (.inl (some (.int 0)), s3))))
def hxL_take : List (String × Int32 × (Nat × Nat × Nat × Nat)) := [("java/lang/IllegalStateException", 1, (0, 10, 13, 20)), ("java/lang/IndexOutOfBoundsException", 2, (0, 10, 17, 13))]
def fL_take (a0 : Nat) (x1 : Int32) (x2 : Int32) (a3 : Nat) (s0 : AS) : Option AR :=
  cH s0 a0 10 (fX6_take a0 x1 x2 s0) hxL_take (qI (fun v1 s2 =>
  uJ s2 a3 0 (v1.toInt64) (fun s3 =>
  some (.inl (some (.int 0)), s3))))
def hxL_quoin : List (String × Int32 × (Nat × Nat × Nat × Nat)) := [("java/lang/IllegalStateException", 1, (0, 10, 13, 20)), ("java/lang/IndexOutOfBoundsException", 2, (0, 10, 17, 13)), ("java/lang/IllegalArgumentException", 3, (0, 10, 21, 15))]
def fL_quoin (a0 : Nat) (x1 : Int32) (x2 : Int32) (a3 : Nat) (s0 : AS) : Option AR :=
  cH s0 a0 10 (fX6_quoin a0 x1 x2 s0) hxL_quoin (qI (fun v1 s2 =>
  uJ s2 a3 0 (v1.toInt64) (fun s3 =>
  some (.inl (some (.int 0)), s3))))
def hxL_open : List (String × Int32 × (Nat × Nat × Nat × Nat)) := [("java/lang/IllegalStateException", 1, (0, 10, 13, 20)), ("java/lang/IndexOutOfBoundsException", 2, (0, 10, 17, 13)), ("java/lang/IllegalArgumentException", 3, (0, 10, 21, 15))]
def fL_open (a0 : Nat) (x1 : Int32) (x2 : Int32) (a3 : Nat) (s0 : AS) : Option AR :=
  cH s0 a0 10 (fX6_open a0 x1 x2 s0) hxL_open (qI (fun v1 s2 =>
  uJ s2 a3 0 (v1.toInt64) (fun s3 =>
  some (.inl (some (.int 0)), s3))))
def hxL_lock : List (String × Int32 × (Nat × Nat × Nat × Nat)) := [("java/lang/IllegalStateException", 1, (0, 9, 12, 20)), ("java/lang/IndexOutOfBoundsException", 2, (0, 9, 15, 13)), ("java/lang/IllegalArgumentException", 3, (0, 9, 18, 15))]
def fL_lock (a0 : Nat) (x1 : Int32) (a2 : Nat) (s0 : AS) : Option AR :=
  cH s0 a0 10 (fX6_lock a0 x1 s0) hxL_lock (qI (fun v1 s2 =>
  uJ s2 a2 0 (v1.toInt64) (fun s3 =>
  some (.inl (some (.int 0)), s3))))
def hxL_unlock : List (String × Int32 × (Nat × Nat × Nat × Nat)) := [("java/lang/IllegalStateException", 1, (0, 9, 12, 20)), ("java/lang/IndexOutOfBoundsException", 2, (0, 9, 15, 13))]
def fL_unlock (a0 : Nat) (x1 : Int32) (a2 : Nat) (s0 : AS) : Option AR :=
  cH s0 a0 10 (fX6_unlock a0 x1 s0) hxL_unlock (qI (fun v1 s2 =>
  uJ s2 a2 0 (v1.toInt64) (fun s3 =>
  some (.inl (some (.int 0)), s3))))
def hxL_relock : List (String × Int32 × (Nat × Nat × Nat × Nat)) := [("java/lang/IllegalStateException", 1, (0, 9, 12, 20)), ("java/lang/IndexOutOfBoundsException", 2, (0, 9, 15, 13)), ("java/lang/IllegalArgumentException", 3, (0, 9, 18, 15))]
def fL_relock (a0 : Nat) (x1 : Int32) (a2 : Nat) (s0 : AS) : Option AR :=
  cH s0 a0 10 (fX6_relock a0 x1 s0) hxL_relock (qI (fun v1 s2 =>
  uJ s2 a2 0 (v1.toInt64) (fun s3 =>
  some (.inl (some (.int 0)), s3))))
def hxL_tighten : List (String × Int32 × (Nat × Nat × Nat × Nat)) := [("java/lang/IllegalStateException", 1, (0, 9, 12, 20)), ("java/lang/IndexOutOfBoundsException", 2, (0, 9, 15, 13)), ("java/lang/IllegalArgumentException", 3, (0, 9, 18, 15))]
def fL_tighten (a0 : Nat) (x1 : Int32) (a2 : Nat) (s0 : AS) : Option AR :=
  cH s0 a0 10 (fX6_tighten a0 x1 s0) hxL_tighten (qI (fun v1 s2 =>
  uJ s2 a2 0 (v1.toInt64) (fun s3 =>
  some (.inl (some (.int 0)), s3))))
def hxL_print : List (String × Int32 × (Nat × Nat × Nat × Nat)) := [("java/lang/IllegalStateException", 1, (0, 9, 12, 20)), ("java/lang/IllegalArgumentException", 2, (0, 9, 15, 15))]
def fL_print (a0 : Nat) (x1 : Int32) (a2 : Nat) (s0 : AS) : Option AR :=
  cH s0 a0 10 (fX6_print a0 x1 s0) hxL_print (qI (fun v1 s2 =>
  uJ s2 a2 0 (v1.toInt64) (fun s3 =>
  some (.inl (some (.int 0)), s3))))
def hxL_rest : List (String × Int32 × (Nat × Nat × Nat × Nat)) := [("java/lang/IllegalStateException", 1, (0, 9, 12, 20)), ("java/lang/IllegalArgumentException", 2, (0, 9, 15, 15))]
def fL_rest (a0 : Nat) (x1 : Int32) (a2 : Nat) (s0 : AS) : Option AR :=
  cH s0 a0 10 (fX6_rest a0 x1 s0) hxL_rest (qI (fun v1 s2 =>
  uJ s2 a2 0 (v1.toInt64) (fun s3 =>
  some (.inl (some (.int 0)), s3))))
def hxL_buy : List (String × Int32 × (Nat × Nat × Nat × Nat)) := [("java/lang/IllegalStateException", 1, (0, 10, 13, 20)), ("java/lang/IndexOutOfBoundsException", 2, (0, 10, 17, 13)), ("java/lang/IllegalArgumentException", 3, (0, 10, 21, 15))]
def fL_buy (a0 : Nat) (x1 : Int32) (x2 : Int32) (a3 : Nat) (s0 : AS) : Option AR :=
  cH s0 a0 10 (fX6_buy a0 x1 x2 s0) hxL_buy (qI (fun v1 s2 =>
  uJ s2 a3 0 (v1.toInt64) (fun s3 =>
  some (.inl (some (.int 0)), s3))))
def hxL_undo : List (String × Int32 × (Nat × Nat × Nat × Nat)) := [("java/lang/IllegalStateException", 1, (0, 8, 11, 20))]
def fL_undo (a0 : Nat) (a1 : Nat) (s0 : AS) : Option AR :=
  cH s0 a0 10 (fX6_undo a0 s0) hxL_undo (qI (fun v1 s2 =>
  uJ s2 a1 0 (v1.toInt64) (fun s3 =>
  some (.inl (some (.int 0)), s3))))
def hxL_save : List (String × Int32 × (Nat × Nat × Nat × Nat)) := [("java/lang/IllegalStateException", 1, (0, 9, 12, 20)), ("java/lang/IndexOutOfBoundsException", 2, (0, 9, 15, 13))]
def fL_save (a0 : Nat) (x1 : Int32) (a2 : Nat) (s0 : AS) : Option AR :=
  cH s0 a0 10 (fX6_save a0 x1 s0) hxL_save (qI (fun v1 s2 =>
  uJ s2 a2 0 (v1.toInt64) (fun s3 =>
  some (.inl (some (.int 0)), s3))))
def hxL_restore : List (String × Int32 × (Nat × Nat × Nat × Nat)) := [("java/lang/IndexOutOfBoundsException", 1, (0, 9, 12, 13)), ("java/lang/IllegalStateException", 2, (0, 9, 15, 20))]
def fL_restore (a0 : Nat) (x1 : Int32) (a2 : Nat) (s0 : AS) : Option AR :=
  cH s0 a0 10 (fX6_restore a0 x1 s0) hxL_restore (qI (fun v1 s2 =>
  uJ s2 a2 0 (v1.toInt64) (fun s3 =>
  some (.inl (some (.int 0)), s3))))
