/-! ChaseLockerLaw.looks(LChaseLocker;LChaseLockerLaw$World;)Z -/
def fL_looks_447  (a0 : Nat) (a9 : Nat) (s0 : AS) : Option AR :=
  cV s0 a0 10 (fX6_writeStock a0 s0) (qI (fun v1 s2 =>
  cV s2 a9 1 (fJ4_toString_0e30d a9 s2) (qR (fun q3 s4 =>
  cS s4 (fL_isText a0 v1 q3 s4) (qI (fun v5 s6 =>
  rZ v5 s6))))))
def fL_looks_398  : Nat → Nat → Nat → Nat → Int32 → AS → Option AR
  | 0, _, _, _, _, _ => none
  | n + 1, a0, a1, a9, x14, s0 =>
    if (100 : Int32) ≤ x14 then (
      fL_looks_447 a0 a9 s0)
    else (
      cV s0 a0 10 (fX6_kindOf a0 1 x14 s0) (qI (fun v1 s2 =>
      cV s2 a1 13 (fX19_kind a1 1 x14 s2) (qI (fun v3 s4 =>
      if v1 = v3 then (
        cV s4 a0 10 (fX6_kindOf a0 0 x14 s4) (qI (fun v5 s6 =>
        cV s6 a1 13 (fX19_kind a1 0 x14 s6) (qI (fun v7 s8 =>
        if v5 = v7 then (
          lt (x14 + 1) (fun v9 =>
          fL_looks_398 n a0 a1 a9 v9 s8))
        else (
          rZ 0 s8))))))
      else (
        rZ 0 s4))))))
def fL_looks_327  (a0 : Nat) (a1 : Nat) (x2 : Int32) (x3 : Int32) (x4 : Int32) (x5 : Int32) (a9 : Nat) (d10 : UInt64) (y12 : UInt32) (t0 : UInt32) (s0 : AS) : Option AR :=
  cV s0 a0 10 (fX6_widestGap a0 s0) (qI (fun v1 s2 =>
  if v1 = x2 then (
    cV s2 a0 10 (fX6_loosest a0 s2) (qI (fun v3 s4 =>
    if v3 = x3 then (
      cV s4 a0 10 (fX6_longestLeft a0 s4) (qI (fun v5 s6 =>
      if v5 = x4 then (
        cV s6 a0 10 (fX6_lengthLeft a0 s6) (qI (fun v7 s8 =>
        if v7 = x5 then (
          cV s8 a0 10 (fX6_meanGap a0 s8) (qD (fun d9 s10 =>
          if (Op.cmpValue (FP.dcmp d9 d10) .l) = 0 then (
            cV s10 a0 10 (fX6_woodShare a0 s10) (qF (fun y11 s12 =>
            if (Op.cmpValue (FP.fcmp y11 y12) .l) = 0 then (
              cV s12 a0 10 (fX6_goodShare a0 s12) (qF (fun y13 s14 =>
              if (Op.cmpValue (FP.fcmp y13 t0) .l) = 0 then (
                fL_looks_398 FU a0 a1 a9 1 s14)
              else (
                rZ 0 s14))))
            else (
              rZ 0 s12))))
          else (
            rZ 0 s10))))
        else (
          rZ 0 s8))))
      else (
        rZ 0 s6))))
    else (
      rZ 0 s4))))
  else (
    rZ 0 s2)))
def fL_looks_297  (a0 : Nat) (a1 : Nat) (x2 : Int32) (x3 : Int32) (x4 : Int32) (x5 : Int32) (a9 : Nat) (d10 : UInt64) (t0 : UInt32) (s0 : AS) : Option AR :=
  gR s0 a1 13 5 (fun q1 =>
  aI s0 q1 100 0 (fun v2 =>
  if v2 = 0 then (
    fL_looks_327 a0 a1 x2 x3 x4 x5 a9 d10 t0 0 s0)
  else (
    gR s0 a1 13 5 (fun q3 =>
    aI s0 q3 100 1 (fun v4 =>
    gR s0 a1 13 5 (fun q5 =>
    aI s0 q5 100 0 (fun v6 =>
    if FP.fdiv (FP.i2f v4) (FP.i2f v6) &&& 0x7fffffff ≤ 0x7f800000 then (
    fL_looks_327 a0 a1 x2 x3 x4 x5 a9 d10 t0 (FP.fdiv (FP.i2f v4) (FP.i2f v6)) s0) else none)))))))
def fL_looks_268  (a0 : Nat) (a1 : Nat) (x2 : Int32) (x3 : Int32) (x4 : Int32) (x5 : Int32) (x6 : Int32) (x7 : Int32) (x8 : Int32) (a9 : Nat) (s0 : AS) : Option AR :=
  gR s0 a1 13 1 (fun q1 =>
  aI s0 q1 100 1 (fun v2 =>
  if FP.ddiv (FP.i2d x6) (FP.i2d v2) &&& 0x7fffffffffffffff ≤ 0x7ff0000000000000 then (
  if x8 = 0 then (
    fL_looks_297 a0 a1 x2 x3 x4 x5 a9 (FP.ddiv (FP.i2d x6) (FP.i2d v2)) 0 s0)
  else (
    if FP.fdiv (FP.i2f x7) (FP.i2f x8) &&& 0x7fffffff ≤ 0x7f800000 then (
    fL_looks_297 a0 a1 x2 x3 x4 x5 a9 (FP.ddiv (FP.i2d x6) (FP.i2d v2)) (FP.fdiv (FP.i2f x7) (FP.i2f x8)) s0) else none)) else none))
def fL_looks_260 (r137 : Nat → Nat → Int32 → Int32 → Int32 → Int32 → Int32 → Int32 → Int32 → Nat → Int32 → AS → Option AR) (a0 : Nat) (a1 : Nat) (x2 : Int32) (x3 : Int32) (x5 : Int32) (x6 : Int32) (x7 : Int32) (x8 : Int32) (a9 : Nat) (x10 : Int32) (t0 : Int32) (s0 : AS) : Option AR :=
  lt (x10 + 1) (fun v1 =>
  r137 a0 a1 x2 x3 t0 x5 x6 x7 x8 a9 v1 s0)
def fL_looks_178 (r137 : Nat → Nat → Int32 → Int32 → Int32 → Int32 → Int32 → Int32 → Int32 → Nat → Int32 → AS → Option AR) (a0 : Nat) (a1 : Nat) (x2 : Int32) (x3 : Int32) (x4 : Int32) (x5 : Int32) (x6 : Int32) (x7 : Int32) (x8 : Int32) (a9 : Nat) (x10 : Int32) (t0 : Nat) (t1 : Int32) (s0 : AS) : Option AR :=
  cV s0 t0 1 (fJ4_append_cf468 t0 t1 s0) (qR (fun q1 s2 =>
  gR s2 a1 13 2 (fun q3 =>
  aI s2 q3 100 x10 (fun v4 =>
  cV s2 q1 1 (fJ4_append_bf812 q1 v4 s2) (qR (fun q5 s6 =>
  cV s6 q5 1 (fJ4_append_cf468 q5 58 s6) (qR (fun q7 s8 =>
  gR s8 a1 13 3 (fun q9 =>
  aI s8 q9 100 x10 (fun v10 =>
  cV s8 q7 1 (fJ4_append_bf812 q7 v10 s8) (qR (fun q11 s12 =>
  gR s12 a1 13 2 (fun q13 =>
  aI s12 q13 100 x10 (fun v14 =>
  gR s12 a1 13 3 (fun q15 =>
  aI s12 q15 100 x10 (fun v16 =>
  lt (x5 + (v14 * v16)) (fun v17 =>
  gR s12 a1 13 4 (fun q18 =>
  gI s12 a1 13 14 (fun v19 =>
  aI s12 q18 100 ((v19 - 1) - x10) (fun v20 =>
  gR s12 a1 13 3 (fun q21 =>
  aI s12 q21 100 v20 (fun v22 =>
  if v22 ≤ 0 then (
    fL_looks_260 r137 a0 a1 x2 x3 v17 x6 x7 x8 a9 x10 x4 s12)
  else (
    fL_looks_260 r137 a0 a1 x2 x3 v17 x6 x7 x8 a9 x10 v20 s12)))))))))))))))))))))))
def fL_looks_159 (r137 : Nat → Nat → Int32 → Int32 → Int32 → Int32 → Int32 → Int32 → Int32 → Nat → Int32 → AS → Option AR) (a0 : Nat) (a1 : Nat) (x2 : Int32) (x3 : Int32) (x4 : Int32) (x5 : Int32) (x6 : Int32) (x7 : Int32) (x8 : Int32) (a9 : Nat) (x10 : Int32) (s0 : AS) : Option AR :=
  gR s0 a1 13 6 (fun q1 =>
  aI s0 q1 101 x10 (fun v2 =>
  if v2 = 0 then (
    fL_looks_178 r137 a0 a1 x2 x3 x4 x5 x6 x7 x8 a9 x10 a9 119 s0)
  else (
    fL_looks_178 r137 a0 a1 x2 x3 x4 x5 x6 x7 x8 a9 x10 a9 109 s0)))
def fL_looks_137  : Nat → Nat → Nat → Int32 → Int32 → Int32 → Int32 → Int32 → Int32 → Int32 → Nat → Int32 → AS → Option AR
  | 0, _, _, _, _, _, _, _, _, _, _, _, _ => none
  | n + 1, a0, a1, x2, x3, x4, x5, x6, x7, x8, a9, x10, s0 =>
    gI s0 a1 13 14 (fun v1 =>
    if v1 ≤ x10 then (
      fL_looks_268 a0 a1 x2 x3 x4 x5 x6 x7 x8 a9 s0)
    else (
      if x10 ≤ 0 then (
        fL_looks_159 (fL_looks_137 n) a0 a1 x2 x3 x4 x5 x6 x7 x8 a9 x10 s0)
      else (
        cV s0 a9 1 (fJ4_append_cf468 a9 44 s0) (qR (fun q2 s3 =>
        fL_looks_159 (fL_looks_137 n) a0 a1 x2 x3 x4 x5 x6 x7 x8 a9 x10 s3)))))
def fL_looks_125  (a0 : Nat) (a1 : Nat) (x2 : Int32) (x3 : Int32) (x4 : Int32) (x5 : Int32) (x6 : Int32) (x7 : Int32) (x8 : Int32) (s0 : AS) : Option AR :=
  nO s0 1 4 (fun q1 s2 =>
  cS s2 (fJ4_init_da8c8 q1 s2) (qV (fun s3 =>
  fL_looks_137 FU a0 a1 x2 x3 x4 x5 x6 x7 x8 q1 0 s3)))
def fL_looks_85 (r22 : Nat → Nat → Int32 → Int32 → Int32 → Int32 → Int32 → Int32 → Int32 → Int32 → AS → Option AR) (a0 : Nat) (a1 : Nat) (x2 : Int32) (x3 : Int32) (x4 : Int32) (x5 : Int32) (x6 : Int32) (x7 : Int32) (x8 : Int32) (x9 : Int32) (s0 : AS) : Option AR :=
  cV s0 a1 13 (fX19_gap a1 x9 s0) (qI (fun v1 s2 =>
  lt (x6 + v1) (fun v3 =>
  cV s2 a1 13 (fX19_wood a1 x9 s2) (qI (fun v4 s5 =>
  lt (x7 + v4) (fun v6 =>
  gR s5 a1 13 10 (fun q7 =>
  aI s5 q7 100 x9 (fun v8 =>
  lt (x8 + v8) (fun v9 =>
  lt (x9 + 1) (fun v10 =>
  r22 a0 a1 x2 x3 x4 x5 v3 v6 v9 v10 s5))))))))))
def fL_looks_82 (r22 : Nat → Nat → Int32 → Int32 → Int32 → Int32 → Int32 → Int32 → Int32 → Int32 → AS → Option AR) (a0 : Nat) (a1 : Nat) (x2 : Int32) (x4 : Int32) (x5 : Int32) (x6 : Int32) (x7 : Int32) (x8 : Int32) (x9 : Int32) (s0 : AS) : Option AR :=
  fL_looks_85 r22 a0 a1 x2 x9 x4 x5 x6 x7 x8 x9 s0
def fL_looks_53 (r22 : Nat → Nat → Int32 → Int32 → Int32 → Int32 → Int32 → Int32 → Int32 → Int32 → AS → Option AR) (a0 : Nat) (a1 : Nat) (x3 : Int32) (x4 : Int32) (x5 : Int32) (x6 : Int32) (x7 : Int32) (x8 : Int32) (x9 : Int32) (t0 : Int32) (s0 : AS) : Option AR :=
  gR s0 a1 13 9 (fun q1 =>
  aI s0 q1 100 x9 (fun v2 =>
  if v2 ≤ 0 then (
    fL_looks_85 r22 a0 a1 t0 x3 x4 x5 x6 x7 x8 x9 s0)
  else (
    if x3 < 0 then (
      fL_looks_82 r22 a0 a1 t0 x4 x5 x6 x7 x8 x9 s0)
    else (
      cV s0 a1 13 (fX19_loose a1 x9 s0) (qI (fun v3 s4 =>
      cV s4 a1 13 (fX19_loose a1 x3 s4) (qI (fun v5 s6 =>
      if v3 ≤ v5 then (
        fL_looks_85 r22 a0 a1 t0 x3 x4 x5 x6 x7 x8 x9 s6)
      else (
        fL_looks_82 r22 a0 a1 t0 x4 x5 x6 x7 x8 x9 s6)))))))))
def fL_looks_22  : Nat → Nat → Nat → Int32 → Int32 → Int32 → Int32 → Int32 → Int32 → Int32 → Int32 → AS → Option AR
  | 0, _, _, _, _, _, _, _, _, _, _, _ => none
  | n + 1, a0, a1, x2, x3, x4, x5, x6, x7, x8, x9, s0 =>
    gR s0 a1 13 1 (fun q1 =>
    aI s0 q1 100 1 (fun v2 =>
    if v2 ≤ x9 then (
      fL_looks_125 a0 a1 x2 x3 x4 x5 x6 x7 x8 s0)
    else (
      cV s0 a1 13 (fX19_gap a1 x9 s0) (qI (fun v3 s4 =>
      cV s4 a1 13 (fX19_gap a1 x2 s4) (qI (fun v5 s6 =>
      if v3 ≤ v5 then (
        fL_looks_53 (fL_looks_22 n) a0 a1 x3 x4 x5 x6 x7 x8 x9 x2 s6)
      else (
        fL_looks_53 (fL_looks_22 n) a0 a1 x3 x4 x5 x6 x7 x8 x9 x9 s6))))))))
def fL_looks (a0 : Nat) (a1 : Nat) (s0 : AS) : Option AR :=
  lt ((-1)) (fun v1 =>
  lt ((-1)) (fun v2 =>
  fL_looks_22 FU a0 a1 0 v1 v2 0 0 0 0 0 s0))
set_option maxHeartbeats 4000000 in
theorem oL_looks_447 {Γ : CX} (C : OKC Γ cL_looks RL (some (.boolean))) (T : ∀ z ∈ (cx_c Γ).exceptionTable.toList, False) (hn : cx_nL Γ = 15) (hR : cx_fr Γ = 13 ∧ cx_lo Γ = 324) (hin : (cx_meth Γ).name = yL_looks.name) : ∀ (a0 : Nat) (a9 : Nat) (s0 : AS), OK Γ 447 [(0, .ref a0), (9, .ref a9)] [] (fL_looks_447  a0 a9 s0) s0 := by
  intro a0 a9 s0
  unfold fL_looks_447
  refine ok_aload_n C 0 dL_looks_447 rfl ?_
  refine ok_aload_n C 0 dL_looks_448 rfl ?_
  refine ok_callV C T [] (F := fX6_writeStock a0) (ctX6_writeStock (C.2.2.2.2.2.2.2.2.1) a0) vlL_280 viX6_writeStock rfl rfl (by decide) rfl (by rw [hR.1, hR.2]; decide) (Nat.le_of_ble_eq_true rfl) dL_looks_449 (ok_qI fun v1 s2 => ?_)
  refine ok_aload C 1 dL_looks_452 rfl ?_
  refine ok_callV C T [] (F := fJ4_toString_0e30d a9) (ctJ4_toString_0e30d (C.2.2.2.2.2.2.2.2.1) a9) vlL_283 viJ4_toString_0e30d rfl rfl (by decide) rfl (by rw [hR.1, hR.2]; decide) (Nat.le_of_ble_eq_true rfl) dL_looks_454 (ok_qR fun q3 s4 => ?_)
  refine ok_callS C T [.ref a0, .int v1, .ref q3] (F := fL_isText a0 v1 q3) (ctL_isText (C.2.2.2.2.2.2.2.2.1) a0 v1 q3) vlL_287 kw_1091 rfl (by rw [hR.1, hR.2]; decide) (Nat.le_of_ble_eq_true rfl) dL_looks_457 (ok_qI fun v5 s6 => ?_)
  exact ok_zreturn C dL_looks_460
set_option maxHeartbeats 4000000 in
theorem oL_looks_398 {Γ : CX} (C : OKC Γ cL_looks RL (some (.boolean))) (T : ∀ z ∈ (cx_c Γ).exceptionTable.toList, False) (hn : cx_nL Γ = 15) (hR : cx_fr Γ = 13 ∧ cx_lo Γ = 324) (hin : (cx_meth Γ).name = yL_looks.name) : ∀ (n : Nat) (a0 : Nat) (a1 : Nat) (a9 : Nat) (x14 : Int32) (s0 : AS), OK Γ 398 [(0, .ref a0), (1, .ref a1), (9, .ref a9), (14, .int x14)] [] (fL_looks_398 n a0 a1 a9 x14 s0) s0 := by
  intro n
  induction n with
  | zero => intro _ _ _ _ s0; exact OK.none
  | succ n ih =>
    intro a0 a1 a9 x14 s0
    rw [fL_looks_398]
    refine ok_iload C 3 dL_looks_398 rfl ?_
    refine ok_bipush C (v := 100) dL_looks_400 (by decide) ?_
    refine ok_icmp_ge C 447 dL_looks_402 (by decide) ?_ ?_
    · refine OK.sub (lv' := [(0, .ref a0), (9, .ref a9)]) [0, 2] rfl ?_
      exact oL_looks_447 C T hn hR hin a0 a9 s0
    · refine ok_aload_n C 0 dL_looks_405 rfl ?_
      refine ok_iconst C (v := 1) dL_looks_406 (by decide) ?_
      refine ok_iload C 3 dL_looks_407 rfl ?_
      refine ok_callV C T [.int 1, .int x14] (F := fX6_kindOf a0 1 x14) (ctX6_kindOf (C.2.2.2.2.2.2.2.2.1) a0 1 x14) vlL_274 viX6_kindOf rfl rfl (by decide) rfl (by rw [hR.1, hR.2]; decide) (Nat.le_of_ble_eq_true rfl) dL_looks_409 (ok_qI fun v1 s2 => ?_)
      refine ok_aload_n C 1 dL_looks_412 rfl ?_
      refine ok_iconst C (v := 1) dL_looks_413 (by decide) ?_
      refine ok_iload C 3 dL_looks_414 rfl ?_
      refine ok_callV C T [.int 1, .int x14] (F := fX19_kind a1 1 x14) (ctX19_kind (C.2.2.2.2.2.2.2.2.1) a1 1 x14) vlL_278 viX19_kind rfl rfl (by decide) rfl (by rw [hR.1, hR.2]; decide) (Nat.le_of_ble_eq_true rfl) dL_looks_416 (ok_qI fun v3 s4 => ?_)
      refine ok_icmp_ne C 439 dL_looks_419 (by decide) ?_ ?_
      · refine ok_iconst C (v := 0) dL_looks_439 (by decide) ?_
        exact ok_zreturn C dL_looks_440
      · refine ok_aload_n C 0 dL_looks_422 rfl ?_
        refine ok_iconst C (v := 0) dL_looks_423 (by decide) ?_
        refine ok_iload C 3 dL_looks_424 rfl ?_
        refine ok_callV C T [.int 0, .int x14] (F := fX6_kindOf a0 0 x14) (ctX6_kindOf (C.2.2.2.2.2.2.2.2.1) a0 0 x14) vlL_274 viX6_kindOf rfl rfl (by decide) rfl (by rw [hR.1, hR.2]; decide) (Nat.le_of_ble_eq_true rfl) dL_looks_426 (ok_qI fun v5 s6 => ?_)
        refine ok_aload_n C 1 dL_looks_429 rfl ?_
        refine ok_iconst C (v := 0) dL_looks_430 (by decide) ?_
        refine ok_iload C 3 dL_looks_431 rfl ?_
        refine ok_callV C T [.int 0, .int x14] (F := fX19_kind a1 0 x14) (ctX19_kind (C.2.2.2.2.2.2.2.2.1) a1 0 x14) vlL_278 viX19_kind rfl rfl (by decide) rfl (by rw [hR.1, hR.2]; decide) (Nat.le_of_ble_eq_true rfl) dL_looks_433 (ok_qI fun v7 s8 => ?_)
        refine ok_icmp_eq C 441 dL_looks_436 (by decide) ?_ ?_
        · refine ok_iincL C 3 (c := 1) (fun v9 => [(14, .int v9), (0, .ref a0), (1, .ref a1), (9, .ref a9)]) dL_looks_441 rfl rfl (by rw [hn]; decide) (fun _ => rfl) (fun v9 => ?_)
          refine ok_goto C 398 dL_looks_444 (by decide) ?_
          refine OK.sub (lv' := [(0, .ref a0), (1, .ref a1), (9, .ref a9), (14, .int v9)]) [1, 2, 3, 0] rfl ?_
          exact ih a0 a1 a9 v9 s8
        · refine ok_iconst C (v := 0) dL_looks_439 (by decide) ?_
          exact ok_zreturn C dL_looks_440
set_option maxHeartbeats 4000000 in
theorem oL_looks_327 {Γ : CX} (C : OKC Γ cL_looks RL (some (.boolean))) (T : ∀ z ∈ (cx_c Γ).exceptionTable.toList, False) (hn : cx_nL Γ = 15) (hR : cx_fr Γ = 13 ∧ cx_lo Γ = 324) (hin : (cx_meth Γ).name = yL_looks.name) : ∀ (a0 : Nat) (a1 : Nat) (x2 : Int32) (x3 : Int32) (x4 : Int32) (x5 : Int32) (a9 : Nat) (d10 : UInt64) (y12 : UInt32) (t0 : UInt32) (s0 : AS), OK Γ 327 [(0, .ref a0), (1, .ref a1), (2, .int x2), (3, .int x3), (4, .int x4), (5, .int x5), (9, .ref a9), (10, .double d10), (12, .float y12)] [.float t0] (fL_looks_327  a0 a1 x2 x3 x4 x5 a9 d10 y12 t0 s0) s0 := by
  intro a0 a1 x2 x3 x4 x5 a9 d10 y12 t0 s0
  unfold fL_looks_327
  refine ok_fstore C (i := 13) [(13, .float t0), (0, .ref a0), (1, .ref a1), (2, .int x2), (3, .int x3), (4, .int x4), (5, .int x5), (9, .ref a9), (10, .double d10), (12, .float y12)] dL_looks_327 (by rw [hn]; decide) rfl ?_
  refine ok_aload_n C 1 dL_looks_329 rfl ?_
  refine ok_callV C T [] (F := fX6_widestGap a0) (ctX6_widestGap (C.2.2.2.2.2.2.2.2.1) a0) vlL_251 viX6_widestGap rfl rfl (by decide) rfl (by rw [hR.1, hR.2]; decide) (Nat.le_of_ble_eq_true rfl) dL_looks_330 (ok_qI fun v1 s2 => ?_)
  refine ok_iload_n C 3 dL_looks_333 rfl ?_
  refine ok_icmp_ne C 393 dL_looks_334 (by decide) ?_ ?_
  · refine ok_iconst C (v := 0) dL_looks_393 (by decide) ?_
    exact ok_zreturn C dL_looks_394
  · refine ok_aload_n C 1 dL_looks_337 rfl ?_
    refine ok_callV C T [] (F := fX6_loosest a0) (ctX6_loosest (C.2.2.2.2.2.2.2.2.1) a0) vlL_254 viX6_loosest rfl rfl (by decide) rfl (by rw [hR.1, hR.2]; decide) (Nat.le_of_ble_eq_true rfl) dL_looks_338 (ok_qI fun v3 s4 => ?_)
    refine ok_iload_n C 4 dL_looks_341 rfl ?_
    refine ok_icmp_ne C 393 dL_looks_342 (by decide) ?_ ?_
    · refine ok_iconst C (v := 0) dL_looks_393 (by decide) ?_
      exact ok_zreturn C dL_looks_394
    · refine ok_aload_n C 1 dL_looks_345 rfl ?_
      refine ok_callV C T [] (F := fX6_longestLeft a0) (ctX6_longestLeft (C.2.2.2.2.2.2.2.2.1) a0) vlL_257 viX6_longestLeft rfl rfl (by decide) rfl (by rw [hR.1, hR.2]; decide) (Nat.le_of_ble_eq_true rfl) dL_looks_346 (ok_qI fun v5 s6 => ?_)
      refine ok_iload C 5 dL_looks_349 rfl ?_
      refine ok_icmp_ne C 393 dL_looks_351 (by decide) ?_ ?_
      · refine ok_iconst C (v := 0) dL_looks_393 (by decide) ?_
        exact ok_zreturn C dL_looks_394
      · refine ok_aload_n C 1 dL_looks_354 rfl ?_
        refine ok_callV C T [] (F := fX6_lengthLeft a0) (ctX6_lengthLeft (C.2.2.2.2.2.2.2.2.1) a0) vlL_260 viX6_lengthLeft rfl rfl (by decide) rfl (by rw [hR.1, hR.2]; decide) (Nat.le_of_ble_eq_true rfl) dL_looks_355 (ok_qI fun v7 s8 => ?_)
        refine ok_iload C 6 dL_looks_358 rfl ?_
        refine ok_icmp_ne C 393 dL_looks_360 (by decide) ?_ ?_
        · refine ok_iconst C (v := 0) dL_looks_393 (by decide) ?_
          exact ok_zreturn C dL_looks_394
        · refine ok_aload_n C 1 dL_looks_363 rfl ?_
          refine ok_callV C T [] (F := fX6_meanGap a0) (ctX6_meanGap (C.2.2.2.2.2.2.2.2.1) a0) vlL_263 viX6_meanGap rfl rfl (by decide) rfl (by rw [hR.1, hR.2]; decide) (Nat.le_of_ble_eq_true rfl) dL_looks_364 (ok_qD fun d9 s10 => ?_)
          refine ok_dload C 8 dL_looks_367 rfl ?_
          refine ok_dcmp C dL_looks_369 ?_
          refine ok_if_ne C 393 dL_looks_370 (by decide) ?_ ?_
          · refine ok_iconst C (v := 0) dL_looks_393 (by decide) ?_
            exact ok_zreturn C dL_looks_394
          · refine ok_aload_n C 1 dL_looks_373 rfl ?_
            refine ok_callV C T [] (F := fX6_woodShare a0) (ctX6_woodShare (C.2.2.2.2.2.2.2.2.1) a0) vlL_267 viX6_woodShare rfl rfl (by decide) rfl (by rw [hR.1, hR.2]; decide) (Nat.le_of_ble_eq_true rfl) dL_looks_374 (ok_qF fun y11 s12 => ?_)
            refine ok_fload C 9 dL_looks_377 rfl ?_
            refine ok_fcmp C dL_looks_379 ?_
            refine ok_if_ne C 393 dL_looks_380 (by decide) ?_ ?_
            · refine ok_iconst C (v := 0) dL_looks_393 (by decide) ?_
              exact ok_zreturn C dL_looks_394
            · refine ok_aload_n C 1 dL_looks_383 rfl ?_
              refine ok_callV C T [] (F := fX6_goodShare a0) (ctX6_goodShare (C.2.2.2.2.2.2.2.2.1) a0) vlL_271 viX6_goodShare rfl rfl (by decide) rfl (by rw [hR.1, hR.2]; decide) (Nat.le_of_ble_eq_true rfl) dL_looks_384 (ok_qF fun y13 s14 => ?_)
              refine ok_fload C 0 dL_looks_387 rfl ?_
              refine ok_fcmp C dL_looks_389 ?_
              refine ok_if_eq C 395 dL_looks_390 (by decide) ?_ ?_
              · refine ok_iconst C (v := 1) dL_looks_395 (by decide) ?_
                refine ok_istore C (i := 14) [(14, .int 1), (13, .float t0), (0, .ref a0), (1, .ref a1), (2, .int x2), (3, .int x3), (4, .int x4), (5, .int x5), (9, .ref a9), (10, .double d10), (12, .float y12)] dL_looks_396 (by rw [hn]; decide) rfl ?_
                refine OK.sub (lv' := [(0, .ref a0), (1, .ref a1), (9, .ref a9), (14, .int 1)]) [2, 3, 8, 0] rfl ?_
                exact oL_looks_398 C T hn hR hin FU a0 a1 a9 1 s14
              · refine ok_iconst C (v := 0) dL_looks_393 (by decide) ?_
                exact ok_zreturn C dL_looks_394
set_option maxHeartbeats 4000000 in
theorem oL_looks_297 {Γ : CX} (C : OKC Γ cL_looks RL (some (.boolean))) (T : ∀ z ∈ (cx_c Γ).exceptionTable.toList, False) (hn : cx_nL Γ = 15) (hR : cx_fr Γ = 13 ∧ cx_lo Γ = 324) (hin : (cx_meth Γ).name = yL_looks.name) : ∀ (a0 : Nat) (a1 : Nat) (x2 : Int32) (x3 : Int32) (x4 : Int32) (x5 : Int32) (a9 : Nat) (d10 : UInt64) (t0 : UInt32) (s0 : AS), OK Γ 297 [(0, .ref a0), (1, .ref a1), (2, .int x2), (3, .int x3), (4, .int x4), (5, .int x5), (9, .ref a9), (10, .double d10)] [.float t0] (fL_looks_297  a0 a1 x2 x3 x4 x5 a9 d10 t0 s0) s0 := by
  intro a0 a1 x2 x3 x4 x5 a9 d10 t0 s0
  unfold fL_looks_297
  refine ok_fstore C (i := 12) [(12, .float t0), (0, .ref a0), (1, .ref a1), (2, .int x2), (3, .int x3), (4, .int x4), (5, .int x5), (9, .ref a9), (10, .double d10)] dL_looks_297 (by rw [hn]; decide) rfl ?_
  refine ok_aload_n C 2 dL_looks_299 rfl ?_
  refine ok_getNR C fnrL_203_13 dL_looks_300 (fun q1 => ?_)
  refine ok_iconst C (v := 0) dL_looks_303 (by decide) ?_
  refine ok_iald C dL_looks_304 (fun v2 => ?_)
  refine ok_if_ne C 312 dL_looks_305 (by decide) ?_ ?_
  · refine ok_aload_n C 2 dL_looks_312 rfl ?_
    refine ok_getNR C fnrL_203_13 dL_looks_313 (fun q3 => ?_)
    refine ok_iconst C (v := 1) dL_looks_316 (by decide) ?_
    refine ok_iald C dL_looks_317 (fun v4 => ?_)
    refine ok_i2f C dL_looks_318 ?_
    refine ok_aload_n C 2 dL_looks_319 rfl ?_
    refine ok_getNR C fnrL_203_13 dL_looks_320 (fun q5 => ?_)
    refine ok_iconst C (v := 0) dL_looks_323 (by decide) ?_
    refine ok_iald C dL_looks_324 (fun v6 => ?_)
    refine ok_i2f C dL_looks_325 ?_
    refine ok_fdiv C dL_looks_326 ?_
    refine OK.sub (lv' := [(0, .ref a0), (1, .ref a1), (2, .int x2), (3, .int x3), (4, .int x4), (5, .int x5), (9, .ref a9), (10, .double d10), (12, .float t0)]) [1, 2, 3, 4, 5, 6, 7, 8, 0] rfl ?_
    exact oL_looks_327 C T hn hR hin a0 a1 x2 x3 x4 x5 a9 d10 t0 (FP.fdiv (FP.i2f v4) (FP.i2f v6)) s0
  · refine ok_fconst0 C dL_looks_308 ?_
    refine ok_goto C 327 dL_looks_309 (by decide) ?_
    refine OK.sub (lv' := [(0, .ref a0), (1, .ref a1), (2, .int x2), (3, .int x3), (4, .int x4), (5, .int x5), (9, .ref a9), (10, .double d10), (12, .float t0)]) [1, 2, 3, 4, 5, 6, 7, 8, 0] rfl ?_
    exact oL_looks_327 C T hn hR hin a0 a1 x2 x3 x4 x5 a9 d10 t0 0 s0
set_option maxHeartbeats 4000000 in
theorem oL_looks_268 {Γ : CX} (C : OKC Γ cL_looks RL (some (.boolean))) (T : ∀ z ∈ (cx_c Γ).exceptionTable.toList, False) (hn : cx_nL Γ = 15) (hR : cx_fr Γ = 13 ∧ cx_lo Γ = 324) (hin : (cx_meth Γ).name = yL_looks.name) : ∀ (a0 : Nat) (a1 : Nat) (x2 : Int32) (x3 : Int32) (x4 : Int32) (x5 : Int32) (x6 : Int32) (x7 : Int32) (x8 : Int32) (a9 : Nat) (s0 : AS), OK Γ 268 [(0, .ref a0), (1, .ref a1), (2, .int x2), (3, .int x3), (4, .int x4), (5, .int x5), (6, .int x6), (7, .int x7), (8, .int x8), (9, .ref a9)] [] (fL_looks_268  a0 a1 x2 x3 x4 x5 x6 x7 x8 a9 s0) s0 := by
  intro a0 a1 x2 x3 x4 x5 x6 x7 x8 a9 s0
  unfold fL_looks_268
  refine ok_iload C 6 dL_looks_268 rfl ?_
  refine ok_i2d C dL_looks_270 ?_
  refine ok_aload_n C 1 dL_looks_271 rfl ?_
  refine ok_getNR C fnrL_134_13 dL_looks_272 (fun q1 => ?_)
  refine ok_iconst C (v := 1) dL_looks_275 (by decide) ?_
  refine ok_iald C dL_looks_276 (fun v2 => ?_)
  refine ok_i2d C dL_looks_277 ?_
  refine ok_ddiv C dL_looks_278 ?_
  refine ok_dstore C (i := 10) [(10, .double (FP.ddiv (FP.i2d x6) (FP.i2d v2))), (0, .ref a0), (1, .ref a1), (2, .int x2), (3, .int x3), (4, .int x4), (5, .int x5), (6, .int x6), (7, .int x7), (8, .int x8), (9, .ref a9)] dL_looks_279 (by rw [hn]; decide) rfl ?_
  refine ok_iload C 9 dL_looks_281 rfl ?_
  refine ok_if_ne C 290 dL_looks_283 (by decide) ?_ ?_
  · refine ok_iload C 8 dL_looks_290 rfl ?_
    refine ok_i2f C dL_looks_292 ?_
    refine ok_iload C 9 dL_looks_293 rfl ?_
    refine ok_i2f C dL_looks_295 ?_
    refine ok_fdiv C dL_looks_296 ?_
    refine OK.sub (lv' := [(0, .ref a0), (1, .ref a1), (2, .int x2), (3, .int x3), (4, .int x4), (5, .int x5), (9, .ref a9), (10, .double (FP.ddiv (FP.i2d x6) (FP.i2d v2)))]) [1, 2, 3, 4, 5, 6, 10, 0] rfl ?_
    exact oL_looks_297 C T hn hR hin a0 a1 x2 x3 x4 x5 a9 (FP.ddiv (FP.i2d x6) (FP.i2d v2)) (FP.fdiv (FP.i2f x7) (FP.i2f x8)) s0
  · refine ok_fconst0 C dL_looks_286 ?_
    refine ok_goto C 297 dL_looks_287 (by decide) ?_
    refine OK.sub (lv' := [(0, .ref a0), (1, .ref a1), (2, .int x2), (3, .int x3), (4, .int x4), (5, .int x5), (9, .ref a9), (10, .double (FP.ddiv (FP.i2d x6) (FP.i2d v2)))]) [1, 2, 3, 4, 5, 6, 10, 0] rfl ?_
    exact oL_looks_297 C T hn hR hin a0 a1 x2 x3 x4 x5 a9 (FP.ddiv (FP.i2d x6) (FP.i2d v2)) 0 s0
set_option maxHeartbeats 4000000 in
theorem oL_looks_260 {Γ : CX} (C : OKC Γ cL_looks RL (some (.boolean))) (T : ∀ z ∈ (cx_c Γ).exceptionTable.toList, False) (hn : cx_nL Γ = 15) (hR : cx_fr Γ = 13 ∧ cx_lo Γ = 324) (hin : (cx_meth Γ).name = yL_looks.name) {r137 : Nat → Nat → Int32 → Int32 → Int32 → Int32 → Int32 → Int32 → Int32 → Nat → Int32 → AS → Option AR} (h137 : ∀ (a0 : Nat) (a1 : Nat) (x2 : Int32) (x3 : Int32) (x4 : Int32) (x5 : Int32) (x6 : Int32) (x7 : Int32) (x8 : Int32) (a9 : Nat) (x10 : Int32) (s0 : AS), OK Γ 137 [(0, .ref a0), (1, .ref a1), (2, .int x2), (3, .int x3), (4, .int x4), (5, .int x5), (6, .int x6), (7, .int x7), (8, .int x8), (9, .ref a9), (10, .int x10)] [] (r137 a0 a1 x2 x3 x4 x5 x6 x7 x8 a9 x10 s0) s0) : ∀ (a0 : Nat) (a1 : Nat) (x2 : Int32) (x3 : Int32) (x5 : Int32) (x6 : Int32) (x7 : Int32) (x8 : Int32) (a9 : Nat) (x10 : Int32) (t0 : Int32) (s0 : AS), OK Γ 260 [(0, .ref a0), (1, .ref a1), (2, .int x2), (3, .int x3), (5, .int x5), (6, .int x6), (7, .int x7), (8, .int x8), (9, .ref a9), (10, .int x10)] [.int t0] (fL_looks_260 r137 a0 a1 x2 x3 x5 x6 x7 x8 a9 x10 t0 s0) s0 := by
  intro a0 a1 x2 x3 x5 x6 x7 x8 a9 x10 t0 s0
  unfold fL_looks_260
  refine ok_istore C (i := 4) [(4, .int t0), (0, .ref a0), (1, .ref a1), (2, .int x2), (3, .int x3), (5, .int x5), (6, .int x6), (7, .int x7), (8, .int x8), (9, .ref a9), (10, .int x10)] dL_looks_260 (by rw [hn]; decide) rfl ?_
  refine ok_iincL C 10 (c := 1) (fun v1 => [(10, .int v1), (4, .int t0), (0, .ref a0), (1, .ref a1), (2, .int x2), (3, .int x3), (5, .int x5), (6, .int x6), (7, .int x7), (8, .int x8), (9, .ref a9)]) dL_looks_262 rfl rfl (by rw [hn]; decide) (fun _ => rfl) (fun v1 => ?_)
  refine ok_goto C 137 dL_looks_265 (by decide) ?_
  refine OK.sub (lv' := [(0, .ref a0), (1, .ref a1), (2, .int x2), (3, .int x3), (4, .int t0), (5, .int x5), (6, .int x6), (7, .int x7), (8, .int x8), (9, .ref a9), (10, .int v1)]) [2, 3, 4, 5, 1, 6, 7, 8, 9, 10, 0] rfl ?_
  exact h137 a0 a1 x2 x3 t0 x5 x6 x7 x8 a9 v1 s0
set_option maxHeartbeats 4000000 in
theorem oL_looks_178 {Γ : CX} (C : OKC Γ cL_looks RL (some (.boolean))) (T : ∀ z ∈ (cx_c Γ).exceptionTable.toList, False) (hn : cx_nL Γ = 15) (hR : cx_fr Γ = 13 ∧ cx_lo Γ = 324) (hin : (cx_meth Γ).name = yL_looks.name) {r137 : Nat → Nat → Int32 → Int32 → Int32 → Int32 → Int32 → Int32 → Int32 → Nat → Int32 → AS → Option AR} (h137 : ∀ (a0 : Nat) (a1 : Nat) (x2 : Int32) (x3 : Int32) (x4 : Int32) (x5 : Int32) (x6 : Int32) (x7 : Int32) (x8 : Int32) (a9 : Nat) (x10 : Int32) (s0 : AS), OK Γ 137 [(0, .ref a0), (1, .ref a1), (2, .int x2), (3, .int x3), (4, .int x4), (5, .int x5), (6, .int x6), (7, .int x7), (8, .int x8), (9, .ref a9), (10, .int x10)] [] (r137 a0 a1 x2 x3 x4 x5 x6 x7 x8 a9 x10 s0) s0) : ∀ (a0 : Nat) (a1 : Nat) (x2 : Int32) (x3 : Int32) (x4 : Int32) (x5 : Int32) (x6 : Int32) (x7 : Int32) (x8 : Int32) (a9 : Nat) (x10 : Int32) (t0 : Nat) (t1 : Int32) (s0 : AS), OK Γ 178 [(0, .ref a0), (1, .ref a1), (2, .int x2), (3, .int x3), (4, .int x4), (5, .int x5), (6, .int x6), (7, .int x7), (8, .int x8), (9, .ref a9), (10, .int x10)] [.int t1, .ref t0] (fL_looks_178 r137 a0 a1 x2 x3 x4 x5 x6 x7 x8 a9 x10 t0 t1 s0) s0 := by
  intro a0 a1 x2 x3 x4 x5 x6 x7 x8 a9 x10 t0 t1 s0
  unfold fL_looks_178
  refine ok_callV C T [.int t1] (F := fJ4_append_cf468 t0 t1) (ctJ4_append_cf468 (C.2.2.2.2.2.2.2.2.1) t0 t1) vlL_242 viJ4_append_cf468 rfl rfl (by decide) rfl (by rw [hR.1, hR.2]; decide) (Nat.le_of_ble_eq_true rfl) dL_looks_178 (ok_qR fun q1 s2 => ?_)
  refine ok_aload_n C 1 dL_looks_181 rfl ?_
  refine ok_getNR C fnrL_181_13 dL_looks_182 (fun q3 => ?_)
  refine ok_iload C 10 dL_looks_185 rfl ?_
  refine ok_iald C dL_looks_187 (fun v4 => ?_)
  refine ok_callV C T [.int v4] (F := fJ4_append_bf812 q1 v4) (ctJ4_append_bf812 (C.2.2.2.2.2.2.2.2.1) q1 v4) vlL_245 viJ4_append_bf812 rfl rfl (by decide) rfl (by rw [hR.1, hR.2]; decide) (Nat.le_of_ble_eq_true rfl) dL_looks_188 (ok_qR fun q5 s6 => ?_)
  refine ok_bipush C (v := 58) dL_looks_191 (by decide) ?_
  refine ok_callV C T [.int 58] (F := fJ4_append_cf468 q5 58) (ctJ4_append_cf468 (C.2.2.2.2.2.2.2.2.1) q5 58) vlL_242 viJ4_append_cf468 rfl rfl (by decide) rfl (by rw [hR.1, hR.2]; decide) (Nat.le_of_ble_eq_true rfl) dL_looks_193 (ok_qR fun q7 s8 => ?_)
  refine ok_aload_n C 1 dL_looks_196 rfl ?_
  refine ok_getNR C fnrL_178_13 dL_looks_197 (fun q9 => ?_)
  refine ok_iload C 10 dL_looks_200 rfl ?_
  refine ok_iald C dL_looks_202 (fun v10 => ?_)
  refine ok_callV C T [.int v10] (F := fJ4_append_bf812 q7 v10) (ctJ4_append_bf812 (C.2.2.2.2.2.2.2.2.1) q7 v10) vlL_245 viJ4_append_bf812 rfl rfl (by decide) rfl (by rw [hR.1, hR.2]; decide) (Nat.le_of_ble_eq_true rfl) dL_looks_203 (ok_qR fun q11 s12 => ?_)
  refine ok_pop C dL_looks_206 rfl ?_
  refine ok_iload C 5 dL_looks_207 rfl ?_
  refine ok_aload_n C 1 dL_looks_209 rfl ?_
  refine ok_getNR C fnrL_181_13 dL_looks_210 (fun q13 => ?_)
  refine ok_iload C 10 dL_looks_213 rfl ?_
  refine ok_iald C dL_looks_215 (fun v14 => ?_)
  refine ok_aload_n C 1 dL_looks_216 rfl ?_
  refine ok_getNR C fnrL_178_13 dL_looks_217 (fun q15 => ?_)
  refine ok_iload C 10 dL_looks_220 rfl ?_
  refine ok_iald C dL_looks_222 (fun v16 => ?_)
  refine ok_imul C dL_looks_223 ?_
  refine ok_iadd C dL_looks_224 ?_
  refine ok_lt (fun v17 => ?_)
  refine ok_istore C (i := 5) [(5, .int v17), (0, .ref a0), (1, .ref a1), (2, .int x2), (3, .int x3), (4, .int x4), (6, .int x6), (7, .int x7), (8, .int x8), (9, .ref a9), (10, .int x10)] dL_looks_225 (by rw [hn]; decide) rfl ?_
  refine ok_aload_n C 2 dL_looks_227 rfl ?_
  refine ok_getNR C fnrL_248_13 dL_looks_228 (fun q18 => ?_)
  refine ok_aload_n C 2 dL_looks_231 rfl ?_
  refine ok_getNI C fnrL_170_13 dL_looks_232 (fun v19 => ?_)
  refine ok_iconst C (v := 1) dL_looks_235 (by decide) ?_
  refine ok_isub C dL_looks_236 ?_
  refine ok_iload C 10 dL_looks_237 rfl ?_
  refine ok_isub C dL_looks_239 ?_
  refine ok_iald C dL_looks_240 (fun v20 => ?_)
  refine ok_istore C (i := 11) [(11, .int v20), (5, .int v17), (0, .ref a0), (1, .ref a1), (2, .int x2), (3, .int x3), (4, .int x4), (6, .int x6), (7, .int x7), (8, .int x8), (9, .ref a9), (10, .int x10)] dL_looks_241 (by rw [hn]; decide) rfl ?_
  refine ok_aload_n C 3 dL_looks_243 rfl ?_
  refine ok_getNR C fnrL_178_13 dL_looks_244 (fun q21 => ?_)
  refine ok_iload C 0 dL_looks_247 rfl ?_
  refine ok_iald C dL_looks_249 (fun v22 => ?_)
  refine ok_if_le C 258 dL_looks_250 (by decide) ?_ ?_
  · refine ok_iload C 6 dL_looks_258 rfl ?_
    refine OK.sub (lv' := [(0, .ref a0), (1, .ref a1), (2, .int x2), (3, .int x3), (5, .int v17), (6, .int x6), (7, .int x7), (8, .int x8), (9, .ref a9), (10, .int x10)]) [2, 3, 4, 5, 1, 7, 8, 9, 10, 11] rfl ?_
    exact oL_looks_260 C T hn hR hin h137 a0 a1 x2 x3 v17 x6 x7 x8 a9 x10 x4 s12
  · refine ok_iload C 0 dL_looks_253 rfl ?_
    refine ok_goto C 260 dL_looks_255 (by decide) ?_
    refine OK.sub (lv' := [(0, .ref a0), (1, .ref a1), (2, .int x2), (3, .int x3), (5, .int v17), (6, .int x6), (7, .int x7), (8, .int x8), (9, .ref a9), (10, .int x10)]) [2, 3, 4, 5, 1, 7, 8, 9, 10, 11] rfl ?_
    exact oL_looks_260 C T hn hR hin h137 a0 a1 x2 x3 v17 x6 x7 x8 a9 x10 v20 s12
set_option maxHeartbeats 4000000 in
theorem oL_looks_159 {Γ : CX} (C : OKC Γ cL_looks RL (some (.boolean))) (T : ∀ z ∈ (cx_c Γ).exceptionTable.toList, False) (hn : cx_nL Γ = 15) (hR : cx_fr Γ = 13 ∧ cx_lo Γ = 324) (hin : (cx_meth Γ).name = yL_looks.name) {r137 : Nat → Nat → Int32 → Int32 → Int32 → Int32 → Int32 → Int32 → Int32 → Nat → Int32 → AS → Option AR} (h137 : ∀ (a0 : Nat) (a1 : Nat) (x2 : Int32) (x3 : Int32) (x4 : Int32) (x5 : Int32) (x6 : Int32) (x7 : Int32) (x8 : Int32) (a9 : Nat) (x10 : Int32) (s0 : AS), OK Γ 137 [(0, .ref a0), (1, .ref a1), (2, .int x2), (3, .int x3), (4, .int x4), (5, .int x5), (6, .int x6), (7, .int x7), (8, .int x8), (9, .ref a9), (10, .int x10)] [] (r137 a0 a1 x2 x3 x4 x5 x6 x7 x8 a9 x10 s0) s0) : ∀ (a0 : Nat) (a1 : Nat) (x2 : Int32) (x3 : Int32) (x4 : Int32) (x5 : Int32) (x6 : Int32) (x7 : Int32) (x8 : Int32) (a9 : Nat) (x10 : Int32) (s0 : AS), OK Γ 159 [(0, .ref a0), (1, .ref a1), (2, .int x2), (3, .int x3), (4, .int x4), (5, .int x5), (6, .int x6), (7, .int x7), (8, .int x8), (9, .ref a9), (10, .int x10)] [] (fL_looks_159 r137 a0 a1 x2 x3 x4 x5 x6 x7 x8 a9 x10 s0) s0 := by
  intro a0 a1 x2 x3 x4 x5 x6 x7 x8 a9 x10 s0
  unfold fL_looks_159
  refine ok_aload C 9 dL_looks_159 rfl ?_
  refine ok_aload_n C 1 dL_looks_161 rfl ?_
  refine ok_getNR C fnrL_193_13 dL_looks_162 (fun q1 => ?_)
  refine ok_iload C 10 dL_looks_165 rfl ?_
  refine ok_zald C dL_looks_167 (fun v2 => ?_)
  refine ok_if_eq C 176 dL_looks_168 (by decide) ?_ ?_
  · refine ok_bipush C (v := 119) dL_looks_176 (by decide) ?_
    exact oL_looks_178 C T hn hR hin h137 a0 a1 x2 x3 x4 x5 x6 x7 x8 a9 x10 a9 119 s0
  · refine ok_bipush C (v := 109) dL_looks_171 (by decide) ?_
    refine ok_goto C 178 dL_looks_173 (by decide) ?_
    exact oL_looks_178 C T hn hR hin h137 a0 a1 x2 x3 x4 x5 x6 x7 x8 a9 x10 a9 109 s0
set_option maxHeartbeats 4000000 in
theorem oL_looks_137 {Γ : CX} (C : OKC Γ cL_looks RL (some (.boolean))) (T : ∀ z ∈ (cx_c Γ).exceptionTable.toList, False) (hn : cx_nL Γ = 15) (hR : cx_fr Γ = 13 ∧ cx_lo Γ = 324) (hin : (cx_meth Γ).name = yL_looks.name) : ∀ (n : Nat) (a0 : Nat) (a1 : Nat) (x2 : Int32) (x3 : Int32) (x4 : Int32) (x5 : Int32) (x6 : Int32) (x7 : Int32) (x8 : Int32) (a9 : Nat) (x10 : Int32) (s0 : AS), OK Γ 137 [(0, .ref a0), (1, .ref a1), (2, .int x2), (3, .int x3), (4, .int x4), (5, .int x5), (6, .int x6), (7, .int x7), (8, .int x8), (9, .ref a9), (10, .int x10)] [] (fL_looks_137 n a0 a1 x2 x3 x4 x5 x6 x7 x8 a9 x10 s0) s0 := by
  intro n
  induction n with
  | zero => intro _ _ _ _ _ _ _ _ _ _ _ s0; exact OK.none
  | succ n ih =>
    intro a0 a1 x2 x3 x4 x5 x6 x7 x8 a9 x10 s0
    rw [fL_looks_137]
    refine ok_iload C 10 dL_looks_137 rfl ?_
    refine ok_aload_n C 1 dL_looks_139 rfl ?_
    refine ok_getNI C fnrL_170_13 dL_looks_140 (fun v1 => ?_)
    refine ok_icmp_ge C 268 dL_looks_143 (by decide) ?_ ?_
    · refine OK.sub (lv' := [(0, .ref a0), (1, .ref a1), (2, .int x2), (3, .int x3), (4, .int x4), (5, .int x5), (6, .int x6), (7, .int x7), (8, .int x8), (9, .ref a9)]) [0, 1, 2, 3, 4, 5, 6, 7, 8, 9] rfl ?_
      exact oL_looks_268 C T hn hR hin a0 a1 x2 x3 x4 x5 x6 x7 x8 a9 s0
    · refine ok_iload C 10 dL_looks_146 rfl ?_
      refine ok_if_le C 159 dL_looks_148 (by decide) ?_ ?_
      · exact oL_looks_159 C T hn hR hin ih a0 a1 x2 x3 x4 x5 x6 x7 x8 a9 x10 s0
      · refine ok_aload C 9 dL_looks_151 rfl ?_
        refine ok_bipush C (v := 44) dL_looks_153 (by decide) ?_
        refine ok_callV C T [.int 44] (F := fJ4_append_cf468 a9 44) (ctJ4_append_cf468 (C.2.2.2.2.2.2.2.2.1) a9 44) vlL_242 viJ4_append_cf468 rfl rfl (by decide) rfl (by rw [hR.1, hR.2]; decide) (Nat.le_of_ble_eq_true rfl) dL_looks_155 (ok_qR fun q2 s3 => ?_)
        refine ok_pop C dL_looks_158 rfl ?_
        exact oL_looks_159 C T hn hR hin ih a0 a1 x2 x3 x4 x5 x6 x7 x8 a9 x10 s3
set_option maxHeartbeats 4000000 in
theorem oL_looks_125 {Γ : CX} (C : OKC Γ cL_looks RL (some (.boolean))) (T : ∀ z ∈ (cx_c Γ).exceptionTable.toList, False) (hn : cx_nL Γ = 15) (hR : cx_fr Γ = 13 ∧ cx_lo Γ = 324) (hin : (cx_meth Γ).name = yL_looks.name) : ∀ (a0 : Nat) (a1 : Nat) (x2 : Int32) (x3 : Int32) (x4 : Int32) (x5 : Int32) (x6 : Int32) (x7 : Int32) (x8 : Int32) (s0 : AS), OK Γ 125 [(0, .ref a0), (1, .ref a1), (2, .int x2), (3, .int x3), (4, .int x4), (5, .int x5), (6, .int x6), (7, .int x7), (8, .int x8)] [] (fL_looks_125  a0 a1 x2 x3 x4 x5 x6 x7 x8 s0) s0 := by
  intro a0 a1 x2 x3 x4 x5 x6 x7 x8 s0
  unfold fL_looks_125
  refine ok_new C (C0 := RJ4) ax_DF1 ⟨_, rfl⟩ kw_1051 dL_looks_125 (fun q1 s2 => ?_)
  refine ok_dup C dL_looks_128 rfl ?_
  refine ok_callI C T [] (F := fJ4_init_da8c8 q1) (ctJ4_init_da8c8 (C.2.2.2.2.2.2.2.2.1) q1) vlL_241 kw_483 rfl rfl (by rw [hR.1, hR.2]; decide) (Nat.le_of_ble_eq_true rfl) dL_looks_129 (ok_qV fun s3 => ?_)
  refine ok_astore C (i := 9) [(9, .ref q1), (0, .ref a0), (1, .ref a1), (2, .int x2), (3, .int x3), (4, .int x4), (5, .int x5), (6, .int x6), (7, .int x7), (8, .int x8)] dL_looks_132 (by rw [hn]; decide) rfl ?_
  refine ok_iconst C (v := 0) dL_looks_134 (by decide) ?_
  refine ok_istore C (i := 10) [(10, .int 0), (9, .ref q1), (0, .ref a0), (1, .ref a1), (2, .int x2), (3, .int x3), (4, .int x4), (5, .int x5), (6, .int x6), (7, .int x7), (8, .int x8)] dL_looks_135 (by rw [hn]; decide) rfl ?_
  refine OK.sub (lv' := [(0, .ref a0), (1, .ref a1), (2, .int x2), (3, .int x3), (4, .int x4), (5, .int x5), (6, .int x6), (7, .int x7), (8, .int x8), (9, .ref q1), (10, .int 0)]) [2, 3, 4, 5, 6, 7, 8, 9, 10, 1, 0] rfl ?_
  exact oL_looks_137 C T hn hR hin FU a0 a1 x2 x3 x4 x5 x6 x7 x8 q1 0 s3
set_option maxHeartbeats 4000000 in
theorem oL_looks_85 {Γ : CX} (C : OKC Γ cL_looks RL (some (.boolean))) (T : ∀ z ∈ (cx_c Γ).exceptionTable.toList, False) (hn : cx_nL Γ = 15) (hR : cx_fr Γ = 13 ∧ cx_lo Γ = 324) (hin : (cx_meth Γ).name = yL_looks.name) {r22 : Nat → Nat → Int32 → Int32 → Int32 → Int32 → Int32 → Int32 → Int32 → Int32 → AS → Option AR} (h22 : ∀ (a0 : Nat) (a1 : Nat) (x2 : Int32) (x3 : Int32) (x4 : Int32) (x5 : Int32) (x6 : Int32) (x7 : Int32) (x8 : Int32) (x9 : Int32) (s0 : AS), OK Γ 22 [(0, .ref a0), (1, .ref a1), (2, .int x2), (3, .int x3), (4, .int x4), (5, .int x5), (6, .int x6), (7, .int x7), (8, .int x8), (9, .int x9)] [] (r22 a0 a1 x2 x3 x4 x5 x6 x7 x8 x9 s0) s0) : ∀ (a0 : Nat) (a1 : Nat) (x2 : Int32) (x3 : Int32) (x4 : Int32) (x5 : Int32) (x6 : Int32) (x7 : Int32) (x8 : Int32) (x9 : Int32) (s0 : AS), OK Γ 85 [(0, .ref a0), (1, .ref a1), (2, .int x2), (3, .int x3), (4, .int x4), (5, .int x5), (6, .int x6), (7, .int x7), (8, .int x8), (9, .int x9)] [] (fL_looks_85 r22 a0 a1 x2 x3 x4 x5 x6 x7 x8 x9 s0) s0 := by
  intro a0 a1 x2 x3 x4 x5 x6 x7 x8 x9 s0
  unfold fL_looks_85
  refine ok_iload C 6 dL_looks_85 rfl ?_
  refine ok_aload_n C 1 dL_looks_87 rfl ?_
  refine ok_iload C 9 dL_looks_88 rfl ?_
  refine ok_callV C T [.int x9] (F := fX19_gap a1 x9) (ctX19_gap (C.2.2.2.2.2.2.2.2.1) a1 x9) vlL_148 viX19_gap rfl rfl (by decide) rfl (by rw [hR.1, hR.2]; decide) (Nat.le_of_ble_eq_true rfl) dL_looks_90 (ok_qI fun v1 s2 => ?_)
  refine ok_iadd C dL_looks_93 ?_
  refine ok_lt (fun v3 => ?_)
  refine ok_istore C (i := 6) [(6, .int v3), (0, .ref a0), (1, .ref a1), (2, .int x2), (3, .int x3), (4, .int x4), (5, .int x5), (7, .int x7), (8, .int x8), (9, .int x9)] dL_looks_94 (by rw [hn]; decide) rfl ?_
  refine ok_iload C 7 dL_looks_96 rfl ?_
  refine ok_aload_n C 2 dL_looks_98 rfl ?_
  refine ok_iload C 9 dL_looks_99 rfl ?_
  refine ok_callV C T [.int x9] (F := fX19_wood a1 x9) (ctX19_wood (C.2.2.2.2.2.2.2.2.1) a1 x9) vlL_154 viX19_wood rfl rfl (by decide) rfl (by rw [hR.1, hR.2]; decide) (Nat.le_of_ble_eq_true rfl) dL_looks_101 (ok_qI fun v4 s5 => ?_)
  refine ok_iadd C dL_looks_104 ?_
  refine ok_lt (fun v6 => ?_)
  refine ok_istore C (i := 7) [(7, .int v6), (6, .int v3), (0, .ref a0), (1, .ref a1), (2, .int x2), (3, .int x3), (4, .int x4), (5, .int x5), (8, .int x8), (9, .int x9)] dL_looks_105 (by rw [hn]; decide) rfl ?_
  refine ok_iload C 8 dL_looks_107 rfl ?_
  refine ok_aload_n C 3 dL_looks_109 rfl ?_
  refine ok_getNR C fnrL_145_13 dL_looks_110 (fun q7 => ?_)
  refine ok_iload C 9 dL_looks_113 rfl ?_
  refine ok_iald C dL_looks_115 (fun v8 => ?_)
  refine ok_iadd C dL_looks_116 ?_
  refine ok_lt (fun v9 => ?_)
  refine ok_istore C (i := 8) [(8, .int v9), (7, .int v6), (6, .int v3), (0, .ref a0), (1, .ref a1), (2, .int x2), (3, .int x3), (4, .int x4), (5, .int x5), (9, .int x9)] dL_looks_117 (by rw [hn]; decide) rfl ?_
  refine ok_iincL C 9 (c := 1) (fun v10 => [(9, .int v10), (8, .int v9), (7, .int v6), (6, .int v3), (0, .ref a0), (1, .ref a1), (2, .int x2), (3, .int x3), (4, .int x4), (5, .int x5)]) dL_looks_119 rfl rfl (by rw [hn]; decide) (fun _ => rfl) (fun v10 => ?_)
  refine ok_goto C 22 dL_looks_122 (by decide) ?_
  refine OK.sub (lv' := [(0, .ref a0), (1, .ref a1), (2, .int x2), (3, .int x3), (4, .int x4), (5, .int x5), (6, .int v3), (7, .int v6), (8, .int v9), (9, .int v10)]) [4, 5, 6, 7, 8, 9, 3, 2, 1, 0] rfl ?_
  exact h22 a0 a1 x2 x3 x4 x5 v3 v6 v9 v10 s5
set_option maxHeartbeats 4000000 in
theorem oL_looks_82 {Γ : CX} (C : OKC Γ cL_looks RL (some (.boolean))) (T : ∀ z ∈ (cx_c Γ).exceptionTable.toList, False) (hn : cx_nL Γ = 15) (hR : cx_fr Γ = 13 ∧ cx_lo Γ = 324) (hin : (cx_meth Γ).name = yL_looks.name) {r22 : Nat → Nat → Int32 → Int32 → Int32 → Int32 → Int32 → Int32 → Int32 → Int32 → AS → Option AR} (h22 : ∀ (a0 : Nat) (a1 : Nat) (x2 : Int32) (x3 : Int32) (x4 : Int32) (x5 : Int32) (x6 : Int32) (x7 : Int32) (x8 : Int32) (x9 : Int32) (s0 : AS), OK Γ 22 [(0, .ref a0), (1, .ref a1), (2, .int x2), (3, .int x3), (4, .int x4), (5, .int x5), (6, .int x6), (7, .int x7), (8, .int x8), (9, .int x9)] [] (r22 a0 a1 x2 x3 x4 x5 x6 x7 x8 x9 s0) s0) : ∀ (a0 : Nat) (a1 : Nat) (x2 : Int32) (x4 : Int32) (x5 : Int32) (x6 : Int32) (x7 : Int32) (x8 : Int32) (x9 : Int32) (s0 : AS), OK Γ 82 [(0, .ref a0), (1, .ref a1), (2, .int x2), (4, .int x4), (5, .int x5), (6, .int x6), (7, .int x7), (8, .int x8), (9, .int x9)] [] (fL_looks_82 r22 a0 a1 x2 x4 x5 x6 x7 x8 x9 s0) s0 := by
  intro a0 a1 x2 x4 x5 x6 x7 x8 x9 s0
  unfold fL_looks_82
  refine ok_iload C 8 dL_looks_82 rfl ?_
  refine ok_istore_n C (i := 3) [(3, .int x9), (0, .ref a0), (1, .ref a1), (2, .int x2), (4, .int x4), (5, .int x5), (6, .int x6), (7, .int x7), (8, .int x8), (9, .int x9)] dL_looks_84 rfl (by rw [hn]; decide) rfl ?_
  refine OK.sub (lv' := [(0, .ref a0), (1, .ref a1), (2, .int x2), (3, .int x9), (4, .int x4), (5, .int x5), (6, .int x6), (7, .int x7), (8, .int x8), (9, .int x9)]) [1, 2, 3, 0, 4, 5, 6, 7, 8, 9] rfl ?_
  exact oL_looks_85 C T hn hR hin h22 a0 a1 x2 x9 x4 x5 x6 x7 x8 x9 s0
set_option maxHeartbeats 4000000 in
theorem oL_looks_53 {Γ : CX} (C : OKC Γ cL_looks RL (some (.boolean))) (T : ∀ z ∈ (cx_c Γ).exceptionTable.toList, False) (hn : cx_nL Γ = 15) (hR : cx_fr Γ = 13 ∧ cx_lo Γ = 324) (hin : (cx_meth Γ).name = yL_looks.name) {r22 : Nat → Nat → Int32 → Int32 → Int32 → Int32 → Int32 → Int32 → Int32 → Int32 → AS → Option AR} (h22 : ∀ (a0 : Nat) (a1 : Nat) (x2 : Int32) (x3 : Int32) (x4 : Int32) (x5 : Int32) (x6 : Int32) (x7 : Int32) (x8 : Int32) (x9 : Int32) (s0 : AS), OK Γ 22 [(0, .ref a0), (1, .ref a1), (2, .int x2), (3, .int x3), (4, .int x4), (5, .int x5), (6, .int x6), (7, .int x7), (8, .int x8), (9, .int x9)] [] (r22 a0 a1 x2 x3 x4 x5 x6 x7 x8 x9 s0) s0) : ∀ (a0 : Nat) (a1 : Nat) (x3 : Int32) (x4 : Int32) (x5 : Int32) (x6 : Int32) (x7 : Int32) (x8 : Int32) (x9 : Int32) (t0 : Int32) (s0 : AS), OK Γ 53 [(0, .ref a0), (1, .ref a1), (3, .int x3), (4, .int x4), (5, .int x5), (6, .int x6), (7, .int x7), (8, .int x8), (9, .int x9)] [.int t0] (fL_looks_53 r22 a0 a1 x3 x4 x5 x6 x7 x8 x9 t0 s0) s0 := by
  intro a0 a1 x3 x4 x5 x6 x7 x8 x9 t0 s0
  unfold fL_looks_53
  refine ok_istore_n C (i := 2) [(2, .int t0), (0, .ref a0), (1, .ref a1), (3, .int x3), (4, .int x4), (5, .int x5), (6, .int x6), (7, .int x7), (8, .int x8), (9, .int x9)] dL_looks_53 rfl (by rw [hn]; decide) rfl ?_
  refine ok_aload_n C 2 dL_looks_54 rfl ?_
  refine ok_getNR C fnrL_142_13 dL_looks_55 (fun q1 => ?_)
  refine ok_iload C 9 dL_looks_58 rfl ?_
  refine ok_iald C dL_looks_60 (fun v2 => ?_)
  refine ok_if_le C 85 dL_looks_61 (by decide) ?_ ?_
  · refine OK.sub (lv' := [(0, .ref a0), (1, .ref a1), (2, .int t0), (3, .int x3), (4, .int x4), (5, .int x5), (6, .int x6), (7, .int x7), (8, .int x8), (9, .int x9)]) [1, 2, 0, 3, 4, 5, 6, 7, 8, 9] rfl ?_
    exact oL_looks_85 C T hn hR hin h22 a0 a1 t0 x3 x4 x5 x6 x7 x8 x9 s0
  · refine ok_iload_n C 3 dL_looks_64 rfl ?_
    refine ok_if_lt C 82 dL_looks_65 (by decide) ?_ ?_
    · refine OK.sub (lv' := [(0, .ref a0), (1, .ref a1), (2, .int t0), (4, .int x4), (5, .int x5), (6, .int x6), (7, .int x7), (8, .int x8), (9, .int x9)]) [1, 2, 0, 4, 5, 6, 7, 8, 9] rfl ?_
      exact oL_looks_82 C T hn hR hin h22 a0 a1 t0 x4 x5 x6 x7 x8 x9 s0
    · refine ok_aload_n C 2 dL_looks_68 rfl ?_
      refine ok_iload C 9 dL_looks_69 rfl ?_
      refine ok_callV C T [.int x9] (F := fX19_loose a1 x9) (ctX19_loose (C.2.2.2.2.2.2.2.2.1) a1 x9) vlL_236 viX19_loose rfl rfl (by decide) rfl (by rw [hR.1, hR.2]; decide) (Nat.le_of_ble_eq_true rfl) dL_looks_71 (ok_qI fun v3 s4 => ?_)
      refine ok_aload_n C 2 dL_looks_74 rfl ?_
      refine ok_iload_n C 3 dL_looks_75 rfl ?_
      refine ok_callV C T [.int x3] (F := fX19_loose a1 x3) (ctX19_loose (C.2.2.2.2.2.2.2.2.1) a1 x3) vlL_236 viX19_loose rfl rfl (by decide) rfl (by rw [hR.1, hR.2]; decide) (Nat.le_of_ble_eq_true rfl) dL_looks_76 (ok_qI fun v5 s6 => ?_)
      refine ok_icmp_le C 85 dL_looks_79 (by decide) ?_ ?_
      · refine OK.sub (lv' := [(0, .ref a0), (1, .ref a1), (2, .int t0), (3, .int x3), (4, .int x4), (5, .int x5), (6, .int x6), (7, .int x7), (8, .int x8), (9, .int x9)]) [1, 2, 0, 3, 4, 5, 6, 7, 8, 9] rfl ?_
        exact oL_looks_85 C T hn hR hin h22 a0 a1 t0 x3 x4 x5 x6 x7 x8 x9 s6
      · refine OK.sub (lv' := [(0, .ref a0), (1, .ref a1), (2, .int t0), (4, .int x4), (5, .int x5), (6, .int x6), (7, .int x7), (8, .int x8), (9, .int x9)]) [1, 2, 0, 4, 5, 6, 7, 8, 9] rfl ?_
        exact oL_looks_82 C T hn hR hin h22 a0 a1 t0 x4 x5 x6 x7 x8 x9 s6
set_option maxHeartbeats 4000000 in
theorem oL_looks_22 {Γ : CX} (C : OKC Γ cL_looks RL (some (.boolean))) (T : ∀ z ∈ (cx_c Γ).exceptionTable.toList, False) (hn : cx_nL Γ = 15) (hR : cx_fr Γ = 13 ∧ cx_lo Γ = 324) (hin : (cx_meth Γ).name = yL_looks.name) : ∀ (n : Nat) (a0 : Nat) (a1 : Nat) (x2 : Int32) (x3 : Int32) (x4 : Int32) (x5 : Int32) (x6 : Int32) (x7 : Int32) (x8 : Int32) (x9 : Int32) (s0 : AS), OK Γ 22 [(0, .ref a0), (1, .ref a1), (2, .int x2), (3, .int x3), (4, .int x4), (5, .int x5), (6, .int x6), (7, .int x7), (8, .int x8), (9, .int x9)] [] (fL_looks_22 n a0 a1 x2 x3 x4 x5 x6 x7 x8 x9 s0) s0 := by
  intro n
  induction n with
  | zero => intro _ _ _ _ _ _ _ _ _ _ s0; exact OK.none
  | succ n ih =>
    intro a0 a1 x2 x3 x4 x5 x6 x7 x8 x9 s0
    rw [fL_looks_22]
    refine ok_iload C 9 dL_looks_22 rfl ?_
    refine ok_aload_n C 1 dL_looks_24 rfl ?_
    refine ok_getNR C fnrL_134_13 dL_looks_25 (fun q1 => ?_)
    refine ok_iconst C (v := 1) dL_looks_28 (by decide) ?_
    refine ok_iald C dL_looks_29 (fun v2 => ?_)
    refine ok_icmp_ge C 125 dL_looks_30 (by decide) ?_ ?_
    · refine OK.sub (lv' := [(0, .ref a0), (1, .ref a1), (2, .int x2), (3, .int x3), (4, .int x4), (5, .int x5), (6, .int x6), (7, .int x7), (8, .int x8)]) [0, 1, 2, 3, 4, 5, 6, 7, 8] rfl ?_
      exact oL_looks_125 C T hn hR hin a0 a1 x2 x3 x4 x5 x6 x7 x8 s0
    · refine ok_aload_n C 1 dL_looks_33 rfl ?_
      refine ok_iload C 9 dL_looks_34 rfl ?_
      refine ok_callV C T [.int x9] (F := fX19_gap a1 x9) (ctX19_gap (C.2.2.2.2.2.2.2.2.1) a1 x9) vlL_148 viX19_gap rfl rfl (by decide) rfl (by rw [hR.1, hR.2]; decide) (Nat.le_of_ble_eq_true rfl) dL_looks_36 (ok_qI fun v3 s4 => ?_)
      refine ok_aload_n C 1 dL_looks_39 rfl ?_
      refine ok_iload_n C 2 dL_looks_40 rfl ?_
      refine ok_callV C T [.int x2] (F := fX19_gap a1 x2) (ctX19_gap (C.2.2.2.2.2.2.2.2.1) a1 x2) vlL_148 viX19_gap rfl rfl (by decide) rfl (by rw [hR.1, hR.2]; decide) (Nat.le_of_ble_eq_true rfl) dL_looks_41 (ok_qI fun v5 s6 => ?_)
      refine ok_icmp_le C 52 dL_looks_44 (by decide) ?_ ?_
      · refine ok_iload_n C 2 dL_looks_52 rfl ?_
        refine OK.sub (lv' := [(0, .ref a0), (1, .ref a1), (3, .int x3), (4, .int x4), (5, .int x5), (6, .int x6), (7, .int x7), (8, .int x8), (9, .int x9)]) [0, 1, 3, 4, 5, 6, 7, 8, 9] rfl ?_
        exact oL_looks_53 C T hn hR hin ih a0 a1 x3 x4 x5 x6 x7 x8 x9 x2 s6
      · refine ok_iload C 9 dL_looks_47 rfl ?_
        refine ok_goto C 53 dL_looks_49 (by decide) ?_
        refine OK.sub (lv' := [(0, .ref a0), (1, .ref a1), (3, .int x3), (4, .int x4), (5, .int x5), (6, .int x6), (7, .int x7), (8, .int x8), (9, .int x9)]) [0, 1, 3, 4, 5, 6, 7, 8, 9] rfl ?_
        exact oL_looks_53 C T hn hR hin ih a0 a1 x3 x4 x5 x6 x7 x8 x9 x9 s6
set_option maxHeartbeats 4000000 in
theorem oL_looks {Γ : CX} (C : OKC Γ cL_looks RL (some (.boolean))) (T : ∀ z ∈ (cx_c Γ).exceptionTable.toList, False) (hn : cx_nL Γ = 15) (hR : cx_fr Γ = 13 ∧ cx_lo Γ = 324) (hin : (cx_meth Γ).name = yL_looks.name) : ∀ (a0 : Nat) (a1 : Nat) (s0 : AS), OK Γ 0 [(0, .ref a0), (1, .ref a1)] [] (fL_looks a0 a1 s0) s0 := by
  intro a0 a1 s0
  unfold fL_looks
  refine ok_iconst C (v := 0) dL_looks_0 (by decide) ?_
  refine ok_istore_n C (i := 2) [(2, .int 0), (0, .ref a0), (1, .ref a1)] dL_looks_1 rfl (by rw [hn]; decide) rfl ?_
  refine ok_iconst C (v := (-1)) dL_looks_2 (by decide) ?_
  refine ok_lt (fun v1 => ?_)
  refine ok_istore_n C (i := 3) [(3, .int v1), (2, .int 0), (0, .ref a0), (1, .ref a1)] dL_looks_3 rfl (by rw [hn]; decide) rfl ?_
  refine ok_iconst C (v := (-1)) dL_looks_4 (by decide) ?_
  refine ok_lt (fun v2 => ?_)
  refine ok_istore C (i := 4) [(4, .int v2), (3, .int v1), (2, .int 0), (0, .ref a0), (1, .ref a1)] dL_looks_5 (by rw [hn]; decide) rfl ?_
  refine ok_iconst C (v := 0) dL_looks_7 (by decide) ?_
  refine ok_istore C (i := 5) [(5, .int 0), (4, .int v2), (3, .int v1), (2, .int 0), (0, .ref a0), (1, .ref a1)] dL_looks_8 (by rw [hn]; decide) rfl ?_
  refine ok_iconst C (v := 0) dL_looks_10 (by decide) ?_
  refine ok_istore C (i := 6) [(6, .int 0), (5, .int 0), (4, .int v2), (3, .int v1), (2, .int 0), (0, .ref a0), (1, .ref a1)] dL_looks_11 (by rw [hn]; decide) rfl ?_
  refine ok_iconst C (v := 0) dL_looks_13 (by decide) ?_
  refine ok_istore C (i := 7) [(7, .int 0), (6, .int 0), (5, .int 0), (4, .int v2), (3, .int v1), (2, .int 0), (0, .ref a0), (1, .ref a1)] dL_looks_14 (by rw [hn]; decide) rfl ?_
  refine ok_iconst C (v := 0) dL_looks_16 (by decide) ?_
  refine ok_istore C (i := 8) [(8, .int 0), (7, .int 0), (6, .int 0), (5, .int 0), (4, .int v2), (3, .int v1), (2, .int 0), (0, .ref a0), (1, .ref a1)] dL_looks_17 (by rw [hn]; decide) rfl ?_
  refine ok_iconst C (v := 0) dL_looks_19 (by decide) ?_
  refine ok_istore C (i := 9) [(9, .int 0), (8, .int 0), (7, .int 0), (6, .int 0), (5, .int 0), (4, .int v2), (3, .int v1), (2, .int 0), (0, .ref a0), (1, .ref a1)] dL_looks_20 (by rw [hn]; decide) rfl ?_
  refine OK.sub (lv' := [(0, .ref a0), (1, .ref a1), (2, .int 0), (3, .int v1), (4, .int v2), (5, .int 0), (6, .int 0), (7, .int 0), (8, .int 0), (9, .int 0)]) [8, 9, 7, 6, 5, 4, 3, 2, 1, 0] rfl ?_
  exact oL_looks_22 C T hn hR hin FU a0 a1 0 v1 v2 0 0 0 0 0 s0
theorem ctL_looks {l : Launch} (hl : l.stackTraces = false) {D : va_G} {dA : Nat → ClassId} {B0 : Nat} (a0 : Nat) (a1 : Nat) : Ct l D dA B0 yL_looks (.code yL_looks cL_looks 15 (some (.boolean)) :: ax_ALL) 13 324 [.ref a0, .ref a1] (fL_looks a0 a1) :=
  Ct.of hl (by decide +kernel) (Nat.le_of_ble_eq_true rfl) fun Γ C _ _ _ _ e5 e6 e7 T hin => oL_looks C T e5 ⟨e6, e7⟩ hin a0 a1 _
/-! ChaseLockerLaw.rows(LChaseLocker;LChaseLockerLaw$World;)Z -/
def fL_rows_190 (r2 : Nat → Nat → Int32 → AS → Option AR) (a0 : Nat) (a1 : Nat) (x2 : Int32) (t0 : Nat) (t1 : Int32) (t2 : Nat) (s0 : AS) : Option AR :=
  cS s0 (fL_isText t0 t1 t2 s0) (qI (fun v1 s2 =>
  if v1 = 0 then (
    rZ 0 s2)
  else (
    lt (x2 + 1) (fun v3 =>
    r2 a0 a1 v3 s2))))
def fL_rows_159 (r2 : Nat → Nat → Int32 → AS → Option AR) (a0 : Nat) (a1 : Nat) (x2 : Int32) (a3 : Nat) (s0 : AS) : Option AR :=
  cV s0 a3 1 (fJ4_toString_0e30d a3 s0) (qR (fun q1 s2 =>
  cV s2 a0 10 (fX6_writeRow a0 x2 s2) (qI (fun v3 s4 =>
  cV s4 q1 0 (fJ0_length_8abf5D q1 s4) (qI (fun v5 s6 =>
  if v5 = 0 then (
    fL_rows_190 r2 a0 a1 x2 a0 v3 q1 s6)
  else (
    cV s6 q1 0 (fJ0_substring_b52d3 q1 1 s6) (qR (fun q7 s8 =>
    fL_rows_190 r2 a0 a1 x2 a0 v3 q7 s8)))))))))
def fL_rows_133 (r2 : Nat → Nat → Int32 → AS → Option AR) (a0 : Nat) (a1 : Nat) (x2 : Int32) (a3 : Nat) (s0 : AS) : Option AR :=
  gR s0 a1 13 11 (fun q1 =>
  aI s0 q1 100 x2 (fun v2 =>
  if v2 < 0 then (
    fL_rows_159 r2 a0 a1 x2 a3 s0)
  else (
    cV s0 a3 1 (fJ4_append_15ec4 a3 1000044 s0) (qR (fun q3 s4 =>
    gR s4 a1 13 11 (fun q5 =>
    aI s4 q5 100 x2 (fun v6 =>
    cV s4 q3 1 (fJ4_append_bf812 q3 v6 s4) (qR (fun q7 s8 =>
    fL_rows_159 r2 a0 a1 x2 a3 s8)))))))))
def fL_rows_106 (r2 : Nat → Nat → Int32 → AS → Option AR) (r68 : Nat → Nat → Int32 → Nat → Int32 → AS → Option AR) (a0 : Nat) (a1 : Nat) (x2 : Int32) (a3 : Nat) (x4 : Int32) (t0 : Nat) (t1 : Nat) (s0 : AS) : Option AR :=
  cV s0 t0 1 (fJ4_append_15ec4 t0 t1 s0) (qR (fun q1 s2 =>
  gR s2 a1 13 2 (fun q3 =>
  gR s2 a1 13 8 (fun q4 =>
  aR s2 q4 110 x2 (fun q5 =>
  aI s2 q5 100 x4 (fun v6 =>
  aI s2 q3 100 v6 (fun v7 =>
  cV s2 q1 1 (fJ4_append_bf812 q1 v7 s2) (qR (fun q8 s9 =>
  lt (x4 + 1) (fun v10 =>
  r68 a0 a1 x2 a3 v10 s9))))))))))
def fL_rows_68 (r2 : Nat → Nat → Int32 → AS → Option AR) : Nat → Nat → Nat → Int32 → Nat → Int32 → AS → Option AR
  | 0, _, _, _, _, _, _ => none
  | n + 1, a0, a1, x2, a3, x4, s0 =>
    gR s0 a1 13 10 (fun q1 =>
    aI s0 q1 100 x2 (fun v2 =>
    if v2 ≤ x4 then (
      fL_rows_133 r2 a0 a1 x2 a3 s0)
    else (
      gR s0 a1 13 6 (fun q3 =>
      gR s0 a1 13 8 (fun q4 =>
      aR s0 q4 110 x2 (fun q5 =>
      aI s0 q5 100 x4 (fun v6 =>
      aI s0 q3 101 v6 (fun v7 =>
      if v7 = 0 then (
        fL_rows_106 r2 (fL_rows_68 r2 n) a0 a1 x2 a3 x4 a3 1000043 s0)
      else (
        fL_rows_106 r2 (fL_rows_68 r2 n) a0 a1 x2 a3 x4 a3 1000042 s0)))))))))
def fL_rows_65 (r2 : Nat → Nat → Int32 → AS → Option AR) (a0 : Nat) (a1 : Nat) (x2 : Int32) (a3 : Nat) (s0 : AS) : Option AR :=
  fL_rows_68 r2 FU a0 a1 x2 a3 0 s0
def fL_rows_23 (r2 : Nat → Nat → Int32 → AS → Option AR) : Nat → Nat → Nat → Int32 → Nat → Int32 → AS → Option AR
  | 0, _, _, _, _, _, _ => none
  | n + 1, a0, a1, x2, a3, x4, s0 =>
    gR s0 a1 13 9 (fun q1 =>
    aI s0 q1 100 x2 (fun v2 =>
    if v2 ≤ x4 then (
      fL_rows_65 r2 a0 a1 x2 a3 s0)
    else (
      cV s0 a3 1 (fJ4_append_15ec4 a3 1000041 s0) (qR (fun q3 s4 =>
      gR s4 a1 13 7 (fun q5 =>
      aR s4 q5 110 x2 (fun q6 =>
      aI s4 q6 100 x4 (fun v7 =>
      cV s4 q3 1 (fJ4_append_bf812 q3 v7 s4) (qR (fun q8 s9 =>
      cV s9 q8 1 (fJ4_append_cf468 q8 93 s9) (qR (fun q10 s11 =>
      lt (x4 + 1) (fun v12 =>
      fL_rows_23 r2 n a0 a1 x2 a3 v12 s11)))))))))))))
def fL_rows_2  : Nat → Nat → Nat → Int32 → AS → Option AR
  | 0, _, _, _, _ => none
  | n + 1, a0, a1, x2, s0 =>
    gR s0 a1 13 1 (fun q1 =>
    aI s0 q1 100 1 (fun v2 =>
    if v2 ≤ x2 then (
      rZ 1 s0)
    else (
      nO s0 1 4 (fun q3 s4 =>
      cS s4 (fJ4_init_da8c8 q3 s4) (qV (fun s5 =>
      fL_rows_23 (fL_rows_2 n) FU a0 a1 x2 q3 0 s5))))))
def fL_rows (a0 : Nat) (a1 : Nat) (s0 : AS) : Option AR :=
  fL_rows_2 FU a0 a1 0 s0
set_option maxHeartbeats 4000000 in
theorem oL_rows_190 {Γ : CX} (C : OKC Γ cL_rows RL (some (.boolean))) (T : ∀ z ∈ (cx_c Γ).exceptionTable.toList, False) (hn : cx_nL Γ = 5) (hR : cx_fr Γ = 13 ∧ cx_lo Γ = 324) (hin : (cx_meth Γ).name = yL_rows.name) {r2 : Nat → Nat → Int32 → AS → Option AR} (h2 : ∀ (a0 : Nat) (a1 : Nat) (x2 : Int32) (s0 : AS), OK Γ 2 [(0, .ref a0), (1, .ref a1), (2, .int x2)] [] (r2 a0 a1 x2 s0) s0) : ∀ (a0 : Nat) (a1 : Nat) (x2 : Int32) (t0 : Nat) (t1 : Int32) (t2 : Nat) (s0 : AS), OK Γ 190 [(0, .ref a0), (1, .ref a1), (2, .int x2)] [.ref t2, .int t1, .ref t0] (fL_rows_190 r2 a0 a1 x2 t0 t1 t2 s0) s0 := by
  intro a0 a1 x2 t0 t1 t2 s0
  unfold fL_rows_190
  refine ok_callS C T [.ref t0, .int t1, .ref t2] (F := fL_isText t0 t1 t2) (ctL_isText (C.2.2.2.2.2.2.2.2.1) t0 t1 t2) vlL_287 kw_1091 rfl (by rw [hR.1, hR.2]; decide) (Nat.le_of_ble_eq_true rfl) dL_rows_190 (ok_qI fun v1 s2 => ?_)
  refine ok_if_ne C 198 dL_rows_193 (by decide) ?_ ?_
  · refine ok_iincL C 2 (c := 1) (fun v3 => [(2, .int v3), (0, .ref a0), (1, .ref a1)]) dL_rows_198 rfl rfl (by rw [hn]; decide) (fun _ => rfl) (fun v3 => ?_)
    refine ok_goto C 2 dL_rows_201 (by decide) ?_
    refine OK.sub (lv' := [(0, .ref a0), (1, .ref a1), (2, .int v3)]) [1, 2, 0] rfl ?_
    exact h2 a0 a1 v3 s2
  · refine ok_iconst C (v := 0) dL_rows_196 (by decide) ?_
    exact ok_zreturn C dL_rows_197
set_option maxHeartbeats 4000000 in
theorem oL_rows_159 {Γ : CX} (C : OKC Γ cL_rows RL (some (.boolean))) (T : ∀ z ∈ (cx_c Γ).exceptionTable.toList, False) (hn : cx_nL Γ = 5) (hR : cx_fr Γ = 13 ∧ cx_lo Γ = 324) (hin : (cx_meth Γ).name = yL_rows.name) {r2 : Nat → Nat → Int32 → AS → Option AR} (h2 : ∀ (a0 : Nat) (a1 : Nat) (x2 : Int32) (s0 : AS), OK Γ 2 [(0, .ref a0), (1, .ref a1), (2, .int x2)] [] (r2 a0 a1 x2 s0) s0) : ∀ (a0 : Nat) (a1 : Nat) (x2 : Int32) (a3 : Nat) (s0 : AS), OK Γ 159 [(0, .ref a0), (1, .ref a1), (2, .int x2), (3, .ref a3)] [] (fL_rows_159 r2 a0 a1 x2 a3 s0) s0 := by
  intro a0 a1 x2 a3 s0
  unfold fL_rows_159
  refine ok_aload_n C 3 dL_rows_159 rfl ?_
  refine ok_callV C T [] (F := fJ4_toString_0e30d a3) (ctJ4_toString_0e30d (C.2.2.2.2.2.2.2.2.1) a3) vlL_283 viJ4_toString_0e30d rfl rfl (by decide) rfl (by rw [hR.1, hR.2]; decide) (Nat.le_of_ble_eq_true rfl) dL_rows_160 (ok_qR fun q1 s2 => ?_)
  refine ok_astore C (i := 4) [(4, .ref q1), (0, .ref a0), (1, .ref a1), (2, .int x2), (3, .ref a3)] dL_rows_163 (by rw [hn]; decide) rfl ?_
  refine ok_aload_n C 1 dL_rows_165 rfl ?_
  refine ok_aload_n C 1 dL_rows_166 rfl ?_
  refine ok_iload_n C 3 dL_rows_167 rfl ?_
  refine ok_callV C T [.int x2] (F := fX6_writeRow a0 x2) (ctX6_writeRow (C.2.2.2.2.2.2.2.2.1) a0 x2) vlL_302 viX6_writeRow rfl rfl (by decide) rfl (by rw [hR.1, hR.2]; decide) (Nat.le_of_ble_eq_true rfl) dL_rows_168 (ok_qI fun v3 s4 => ?_)
  refine ok_aload C 0 dL_rows_171 rfl ?_
  refine ok_callV C T [] (F := fJ0_length_8abf5D q1) (ctJ0_length_8abf5D (C.2.2.2.2.2.2.2.2.1) q1) vlL_7 viJ0_length_8abf5 rfl rfl (by decide) rfl (by rw [hR.1, hR.2]; decide) (Nat.le_of_ble_eq_true rfl) dL_rows_173 (ok_qI fun v5 s6 => ?_)
  refine ok_if_ne C 184 dL_rows_176 (by decide) ?_ ?_
  · refine ok_aload C 0 dL_rows_184 rfl ?_
    refine ok_iconst C (v := 1) dL_rows_186 (by decide) ?_
    refine ok_callV C T [.int 1] (F := fJ0_substring_b52d3 q1 1) (ctJ0_substring_b52d3 (C.2.2.2.2.2.2.2.2.1) q1 1) vlL_305 viJ0_substring_b52d3 rfl rfl (by decide) rfl (by rw [hR.1, hR.2]; decide) (Nat.le_of_ble_eq_true rfl) dL_rows_187 (ok_qR fun q7 s8 => ?_)
    refine OK.sub (lv' := [(0, .ref a0), (1, .ref a1), (2, .int x2)]) [1, 2, 3] rfl ?_
    exact oL_rows_190 C T hn hR hin h2 a0 a1 x2 a0 v3 q7 s8
  · refine ok_aload C 0 dL_rows_179 rfl ?_
    refine ok_goto C 190 dL_rows_181 (by decide) ?_
    refine OK.sub (lv' := [(0, .ref a0), (1, .ref a1), (2, .int x2)]) [1, 2, 3] rfl ?_
    exact oL_rows_190 C T hn hR hin h2 a0 a1 x2 a0 v3 q1 s6
set_option maxHeartbeats 4000000 in
theorem oL_rows_133 {Γ : CX} (C : OKC Γ cL_rows RL (some (.boolean))) (T : ∀ z ∈ (cx_c Γ).exceptionTable.toList, False) (hn : cx_nL Γ = 5) (hR : cx_fr Γ = 13 ∧ cx_lo Γ = 324) (hin : (cx_meth Γ).name = yL_rows.name) {r2 : Nat → Nat → Int32 → AS → Option AR} (h2 : ∀ (a0 : Nat) (a1 : Nat) (x2 : Int32) (s0 : AS), OK Γ 2 [(0, .ref a0), (1, .ref a1), (2, .int x2)] [] (r2 a0 a1 x2 s0) s0) : ∀ (a0 : Nat) (a1 : Nat) (x2 : Int32) (a3 : Nat) (s0 : AS), OK Γ 133 [(0, .ref a0), (1, .ref a1), (2, .int x2), (3, .ref a3)] [] (fL_rows_133 r2 a0 a1 x2 a3 s0) s0 := by
  intro a0 a1 x2 a3 s0
  unfold fL_rows_133
  refine ok_aload_n C 1 dL_rows_133 rfl ?_
  refine ok_getNR C fnrL_140_13 dL_rows_134 (fun q1 => ?_)
  refine ok_iload_n C 2 dL_rows_137 rfl ?_
  refine ok_iald C dL_rows_138 (fun v2 => ?_)
  refine ok_if_lt C 159 dL_rows_139 (by decide) ?_ ?_
  · exact oL_rows_159 C T hn hR hin h2 a0 a1 x2 a3 s0
  · refine ok_aload_n C 3 dL_rows_142 rfl ?_
    refine ok_ldcSW C 44 rfl dL_rows_143 ?_
    refine ok_callV C T [.ref 1000044] (F := fJ4_append_15ec4 a3 1000044) (ctJ4_append_15ec4 (C.2.2.2.2.2.2.2.2.1) a3 1000044) vlL_293 viJ4_append_15ec4 rfl rfl (by decide) rfl (by rw [hR.1, hR.2]; decide) (Nat.le_of_ble_eq_true rfl) dL_rows_146 (ok_qR fun q3 s4 => ?_)
    refine ok_aload_n C 1 dL_rows_149 rfl ?_
    refine ok_getNR C fnrL_140_13 dL_rows_150 (fun q5 => ?_)
    refine ok_iload_n C 2 dL_rows_153 rfl ?_
    refine ok_iald C dL_rows_154 (fun v6 => ?_)
    refine ok_callV C T [.int v6] (F := fJ4_append_bf812 q3 v6) (ctJ4_append_bf812 (C.2.2.2.2.2.2.2.2.1) q3 v6) vlL_245 viJ4_append_bf812 rfl rfl (by decide) rfl (by rw [hR.1, hR.2]; decide) (Nat.le_of_ble_eq_true rfl) dL_rows_155 (ok_qR fun q7 s8 => ?_)
    refine ok_pop C dL_rows_158 rfl ?_
    exact oL_rows_159 C T hn hR hin h2 a0 a1 x2 a3 s8
set_option maxHeartbeats 4000000 in
theorem oL_rows_106 {Γ : CX} (C : OKC Γ cL_rows RL (some (.boolean))) (T : ∀ z ∈ (cx_c Γ).exceptionTable.toList, False) (hn : cx_nL Γ = 5) (hR : cx_fr Γ = 13 ∧ cx_lo Γ = 324) (hin : (cx_meth Γ).name = yL_rows.name) {r2 : Nat → Nat → Int32 → AS → Option AR} {r68 : Nat → Nat → Int32 → Nat → Int32 → AS → Option AR} (h2 : ∀ (a0 : Nat) (a1 : Nat) (x2 : Int32) (s0 : AS), OK Γ 2 [(0, .ref a0), (1, .ref a1), (2, .int x2)] [] (r2 a0 a1 x2 s0) s0) (h68 : ∀ (a0 : Nat) (a1 : Nat) (x2 : Int32) (a3 : Nat) (x4 : Int32) (s0 : AS), OK Γ 68 [(0, .ref a0), (1, .ref a1), (2, .int x2), (3, .ref a3), (4, .int x4)] [] (r68 a0 a1 x2 a3 x4 s0) s0) : ∀ (a0 : Nat) (a1 : Nat) (x2 : Int32) (a3 : Nat) (x4 : Int32) (t0 : Nat) (t1 : Nat) (s0 : AS), OK Γ 106 [(0, .ref a0), (1, .ref a1), (2, .int x2), (3, .ref a3), (4, .int x4)] [.ref t1, .ref t0] (fL_rows_106 r2 r68 a0 a1 x2 a3 x4 t0 t1 s0) s0 := by
  intro a0 a1 x2 a3 x4 t0 t1 s0
  unfold fL_rows_106
  refine ok_callV C T [.ref t1] (F := fJ4_append_15ec4 t0 t1) (ctJ4_append_15ec4 (C.2.2.2.2.2.2.2.2.1) t0 t1) vlL_293 viJ4_append_15ec4 rfl rfl (by decide) rfl (by rw [hR.1, hR.2]; decide) (Nat.le_of_ble_eq_true rfl) dL_rows_106 (ok_qR fun q1 s2 => ?_)
  refine ok_aload_n C 1 dL_rows_109 rfl ?_
  refine ok_getNR C fnrL_181_13 dL_rows_110 (fun q3 => ?_)
  refine ok_aload_n C 1 dL_rows_113 rfl ?_
  refine ok_getNR C fnrL_167_13 dL_rows_114 (fun q4 => ?_)
  refine ok_iload_n C 2 dL_rows_117 rfl ?_
  refine ok_aaldI C dL_rows_118 (fun q5 => ?_)
  refine ok_iload C 4 dL_rows_119 rfl ?_
  refine ok_iald C dL_rows_121 (fun v6 => ?_)
  refine ok_iald C dL_rows_122 (fun v7 => ?_)
  refine ok_callV C T [.int v7] (F := fJ4_append_bf812 q1 v7) (ctJ4_append_bf812 (C.2.2.2.2.2.2.2.2.1) q1 v7) vlL_245 viJ4_append_bf812 rfl rfl (by decide) rfl (by rw [hR.1, hR.2]; decide) (Nat.le_of_ble_eq_true rfl) dL_rows_123 (ok_qR fun q8 s9 => ?_)
  refine ok_pop C dL_rows_126 rfl ?_
  refine ok_iincL C 4 (c := 1) (fun v10 => [(4, .int v10), (0, .ref a0), (1, .ref a1), (2, .int x2), (3, .ref a3)]) dL_rows_127 rfl rfl (by rw [hn]; decide) (fun _ => rfl) (fun v10 => ?_)
  refine ok_goto C 68 dL_rows_130 (by decide) ?_
  refine OK.sub (lv' := [(0, .ref a0), (1, .ref a1), (2, .int x2), (3, .ref a3), (4, .int v10)]) [1, 2, 3, 4, 0] rfl ?_
  exact h68 a0 a1 x2 a3 v10 s9
set_option maxHeartbeats 4000000 in
theorem oL_rows_68 {Γ : CX} (C : OKC Γ cL_rows RL (some (.boolean))) (T : ∀ z ∈ (cx_c Γ).exceptionTable.toList, False) (hn : cx_nL Γ = 5) (hR : cx_fr Γ = 13 ∧ cx_lo Γ = 324) (hin : (cx_meth Γ).name = yL_rows.name) {r2 : Nat → Nat → Int32 → AS → Option AR} (h2 : ∀ (a0 : Nat) (a1 : Nat) (x2 : Int32) (s0 : AS), OK Γ 2 [(0, .ref a0), (1, .ref a1), (2, .int x2)] [] (r2 a0 a1 x2 s0) s0) : ∀ (n : Nat) (a0 : Nat) (a1 : Nat) (x2 : Int32) (a3 : Nat) (x4 : Int32) (s0 : AS), OK Γ 68 [(0, .ref a0), (1, .ref a1), (2, .int x2), (3, .ref a3), (4, .int x4)] [] (fL_rows_68 r2 n a0 a1 x2 a3 x4 s0) s0 := by
  intro n
  induction n with
  | zero => intro _ _ _ _ _ s0; exact OK.none
  | succ n ih =>
    intro a0 a1 x2 a3 x4 s0
    rw [fL_rows_68]
    refine ok_iload C 4 dL_rows_68 rfl ?_
    refine ok_aload_n C 1 dL_rows_70 rfl ?_
    refine ok_getNR C fnrL_145_13 dL_rows_71 (fun q1 => ?_)
    refine ok_iload_n C 2 dL_rows_74 rfl ?_
    refine ok_iald C dL_rows_75 (fun v2 => ?_)
    refine ok_icmp_ge C 133 dL_rows_76 (by decide) ?_ ?_
    · refine OK.sub (lv' := [(0, .ref a0), (1, .ref a1), (2, .int x2), (3, .ref a3)]) [0, 1, 2, 3] rfl ?_
      exact oL_rows_133 C T hn hR hin h2 a0 a1 x2 a3 s0
    · refine ok_aload_n C 3 dL_rows_79 rfl ?_
      refine ok_aload_n C 1 dL_rows_80 rfl ?_
      refine ok_getNR C fnrL_193_13 dL_rows_81 (fun q3 => ?_)
      refine ok_aload_n C 1 dL_rows_84 rfl ?_
      refine ok_getNR C fnrL_167_13 dL_rows_85 (fun q4 => ?_)
      refine ok_iload_n C 2 dL_rows_88 rfl ?_
      refine ok_aaldI C dL_rows_89 (fun q5 => ?_)
      refine ok_iload C 4 dL_rows_90 rfl ?_
      refine ok_iald C dL_rows_92 (fun v6 => ?_)
      refine ok_zald C dL_rows_93 (fun v7 => ?_)
      refine ok_if_eq C 103 dL_rows_94 (by decide) ?_ ?_
      · refine ok_ldcSW C 43 rfl dL_rows_103 ?_
        exact oL_rows_106 C T hn hR hin h2 ih a0 a1 x2 a3 x4 a3 1000043 s0
      · refine ok_ldcSW C 42 rfl dL_rows_97 ?_
        refine ok_goto C 106 dL_rows_100 (by decide) ?_
        exact oL_rows_106 C T hn hR hin h2 ih a0 a1 x2 a3 x4 a3 1000042 s0
set_option maxHeartbeats 4000000 in
theorem oL_rows_65 {Γ : CX} (C : OKC Γ cL_rows RL (some (.boolean))) (T : ∀ z ∈ (cx_c Γ).exceptionTable.toList, False) (hn : cx_nL Γ = 5) (hR : cx_fr Γ = 13 ∧ cx_lo Γ = 324) (hin : (cx_meth Γ).name = yL_rows.name) {r2 : Nat → Nat → Int32 → AS → Option AR} (h2 : ∀ (a0 : Nat) (a1 : Nat) (x2 : Int32) (s0 : AS), OK Γ 2 [(0, .ref a0), (1, .ref a1), (2, .int x2)] [] (r2 a0 a1 x2 s0) s0) : ∀ (a0 : Nat) (a1 : Nat) (x2 : Int32) (a3 : Nat) (s0 : AS), OK Γ 65 [(0, .ref a0), (1, .ref a1), (2, .int x2), (3, .ref a3)] [] (fL_rows_65 r2 a0 a1 x2 a3 s0) s0 := by
  intro a0 a1 x2 a3 s0
  unfold fL_rows_65
  refine ok_iconst C (v := 0) dL_rows_65 (by decide) ?_
  refine ok_istore C (i := 4) [(4, .int 0), (0, .ref a0), (1, .ref a1), (2, .int x2), (3, .ref a3)] dL_rows_66 (by rw [hn]; decide) rfl ?_
  refine OK.sub (lv' := [(0, .ref a0), (1, .ref a1), (2, .int x2), (3, .ref a3), (4, .int 0)]) [1, 2, 3, 4, 0] rfl ?_
  exact oL_rows_68 C T hn hR hin h2 FU a0 a1 x2 a3 0 s0
set_option maxHeartbeats 4000000 in
theorem oL_rows_23 {Γ : CX} (C : OKC Γ cL_rows RL (some (.boolean))) (T : ∀ z ∈ (cx_c Γ).exceptionTable.toList, False) (hn : cx_nL Γ = 5) (hR : cx_fr Γ = 13 ∧ cx_lo Γ = 324) (hin : (cx_meth Γ).name = yL_rows.name) {r2 : Nat → Nat → Int32 → AS → Option AR} (h2 : ∀ (a0 : Nat) (a1 : Nat) (x2 : Int32) (s0 : AS), OK Γ 2 [(0, .ref a0), (1, .ref a1), (2, .int x2)] [] (r2 a0 a1 x2 s0) s0) : ∀ (n : Nat) (a0 : Nat) (a1 : Nat) (x2 : Int32) (a3 : Nat) (x4 : Int32) (s0 : AS), OK Γ 23 [(0, .ref a0), (1, .ref a1), (2, .int x2), (3, .ref a3), (4, .int x4)] [] (fL_rows_23 r2 n a0 a1 x2 a3 x4 s0) s0 := by
  intro n
  induction n with
  | zero => intro _ _ _ _ _ s0; exact OK.none
  | succ n ih =>
    intro a0 a1 x2 a3 x4 s0
    rw [fL_rows_23]
    refine ok_iload C 4 dL_rows_23 rfl ?_
    refine ok_aload_n C 1 dL_rows_25 rfl ?_
    refine ok_getNR C fnrL_142_13 dL_rows_26 (fun q1 => ?_)
    refine ok_iload_n C 2 dL_rows_29 rfl ?_
    refine ok_iald C dL_rows_30 (fun v2 => ?_)
    refine ok_icmp_ge C 65 dL_rows_31 (by decide) ?_ ?_
    · refine OK.sub (lv' := [(0, .ref a0), (1, .ref a1), (2, .int x2), (3, .ref a3)]) [0, 1, 2, 3] rfl ?_
      exact oL_rows_65 C T hn hR hin h2 a0 a1 x2 a3 s0
    · refine ok_aload_n C 3 dL_rows_34 rfl ?_
      refine ok_ldcSW C 41 rfl dL_rows_35 ?_
      refine ok_callV C T [.ref 1000041] (F := fJ4_append_15ec4 a3 1000041) (ctJ4_append_15ec4 (C.2.2.2.2.2.2.2.2.1) a3 1000041) vlL_293 viJ4_append_15ec4 rfl rfl (by decide) rfl (by rw [hR.1, hR.2]; decide) (Nat.le_of_ble_eq_true rfl) dL_rows_38 (ok_qR fun q3 s4 => ?_)
      refine ok_aload_n C 1 dL_rows_41 rfl ?_
      refine ok_getNR C fnrL_163_13 dL_rows_42 (fun q5 => ?_)
      refine ok_iload_n C 2 dL_rows_45 rfl ?_
      refine ok_aaldI C dL_rows_46 (fun q6 => ?_)
      refine ok_iload C 4 dL_rows_47 rfl ?_
      refine ok_iald C dL_rows_49 (fun v7 => ?_)
      refine ok_callV C T [.int v7] (F := fJ4_append_bf812 q3 v7) (ctJ4_append_bf812 (C.2.2.2.2.2.2.2.2.1) q3 v7) vlL_245 viJ4_append_bf812 rfl rfl (by decide) rfl (by rw [hR.1, hR.2]; decide) (Nat.le_of_ble_eq_true rfl) dL_rows_50 (ok_qR fun q8 s9 => ?_)
      refine ok_bipush C (v := 93) dL_rows_53 (by decide) ?_
      refine ok_callV C T [.int 93] (F := fJ4_append_cf468 q8 93) (ctJ4_append_cf468 (C.2.2.2.2.2.2.2.2.1) q8 93) vlL_242 viJ4_append_cf468 rfl rfl (by decide) rfl (by rw [hR.1, hR.2]; decide) (Nat.le_of_ble_eq_true rfl) dL_rows_55 (ok_qR fun q10 s11 => ?_)
      refine ok_pop C dL_rows_58 rfl ?_
      refine ok_iincL C 4 (c := 1) (fun v12 => [(4, .int v12), (0, .ref a0), (1, .ref a1), (2, .int x2), (3, .ref a3)]) dL_rows_59 rfl rfl (by rw [hn]; decide) (fun _ => rfl) (fun v12 => ?_)
      refine ok_goto C 23 dL_rows_62 (by decide) ?_
      refine OK.sub (lv' := [(0, .ref a0), (1, .ref a1), (2, .int x2), (3, .ref a3), (4, .int v12)]) [1, 2, 3, 4, 0] rfl ?_
      exact ih a0 a1 x2 a3 v12 s11
set_option maxHeartbeats 4000000 in
theorem oL_rows_2 {Γ : CX} (C : OKC Γ cL_rows RL (some (.boolean))) (T : ∀ z ∈ (cx_c Γ).exceptionTable.toList, False) (hn : cx_nL Γ = 5) (hR : cx_fr Γ = 13 ∧ cx_lo Γ = 324) (hin : (cx_meth Γ).name = yL_rows.name) : ∀ (n : Nat) (a0 : Nat) (a1 : Nat) (x2 : Int32) (s0 : AS), OK Γ 2 [(0, .ref a0), (1, .ref a1), (2, .int x2)] [] (fL_rows_2 n a0 a1 x2 s0) s0 := by
  intro n
  induction n with
  | zero => intro _ _ _ s0; exact OK.none
  | succ n ih =>
    intro a0 a1 x2 s0
    rw [fL_rows_2]
    refine ok_iload_n C 2 dL_rows_2 rfl ?_
    refine ok_aload_n C 1 dL_rows_3 rfl ?_
    refine ok_getNR C fnrL_134_13 dL_rows_4 (fun q1 => ?_)
    refine ok_iconst C (v := 1) dL_rows_7 (by decide) ?_
    refine ok_iald C dL_rows_8 (fun v2 => ?_)
    refine ok_icmp_ge C 204 dL_rows_9 (by decide) ?_ ?_
    · refine ok_iconst C (v := 1) dL_rows_204 (by decide) ?_
      exact ok_zreturn C dL_rows_205
    · refine ok_new C (C0 := RJ4) ax_DF1 ⟨_, rfl⟩ kw_1051 dL_rows_12 (fun q3 s4 => ?_)
      refine ok_dup C dL_rows_15 rfl ?_
      refine ok_callI C T [] (F := fJ4_init_da8c8 q3) (ctJ4_init_da8c8 (C.2.2.2.2.2.2.2.2.1) q3) vlL_241 kw_483 rfl rfl (by rw [hR.1, hR.2]; decide) (Nat.le_of_ble_eq_true rfl) dL_rows_16 (ok_qV fun s5 => ?_)
      refine ok_astore_n C (i := 3) [(3, .ref q3), (0, .ref a0), (1, .ref a1), (2, .int x2)] dL_rows_19 rfl (by rw [hn]; decide) rfl ?_
      refine ok_iconst C (v := 0) dL_rows_20 (by decide) ?_
      refine ok_istore C (i := 4) [(4, .int 0), (3, .ref q3), (0, .ref a0), (1, .ref a1), (2, .int x2)] dL_rows_21 (by rw [hn]; decide) rfl ?_
      refine OK.sub (lv' := [(0, .ref a0), (1, .ref a1), (2, .int x2), (3, .ref q3), (4, .int 0)]) [2, 3, 4, 1, 0] rfl ?_
      exact oL_rows_23 C T hn hR hin ih FU a0 a1 x2 q3 0 s5
set_option maxHeartbeats 4000000 in
theorem oL_rows {Γ : CX} (C : OKC Γ cL_rows RL (some (.boolean))) (T : ∀ z ∈ (cx_c Γ).exceptionTable.toList, False) (hn : cx_nL Γ = 5) (hR : cx_fr Γ = 13 ∧ cx_lo Γ = 324) (hin : (cx_meth Γ).name = yL_rows.name) : ∀ (a0 : Nat) (a1 : Nat) (s0 : AS), OK Γ 0 [(0, .ref a0), (1, .ref a1)] [] (fL_rows a0 a1 s0) s0 := by
  intro a0 a1 s0
  unfold fL_rows
  refine ok_iconst C (v := 0) dL_rows_0 (by decide) ?_
  refine ok_istore_n C (i := 2) [(2, .int 0), (0, .ref a0), (1, .ref a1)] dL_rows_1 rfl (by rw [hn]; decide) rfl ?_
  refine OK.sub (lv' := [(0, .ref a0), (1, .ref a1), (2, .int 0)]) [1, 2, 0] rfl ?_
  exact oL_rows_2 C T hn hR hin FU a0 a1 0 s0
theorem ctL_rows {l : Launch} (hl : l.stackTraces = false) {D : va_G} {dA : Nat → ClassId} {B0 : Nat} (a0 : Nat) (a1 : Nat) : Ct l D dA B0 yL_rows (.code yL_rows cL_rows 5 (some (.boolean)) :: ax_ALL) 13 324 [.ref a0, .ref a1] (fL_rows a0 a1) :=
  Ct.of hl (by decide +kernel) (Nat.le_of_ble_eq_true rfl) fun Γ C _ _ _ _ e5 e6 e7 T hin => oL_rows C T e5 ⟨e6, e7⟩ hin a0 a1 _
