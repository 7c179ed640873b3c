/-! ChaseLocker$Reader.<init>()V -/
def fX2_init (a0 : Nat) (s0 : AS) : Option AR :=
  nA s0 100 500 (fun q1 s2 =>
  sR s2 a0 6 0 q1 (fun s3 =>
  nA s3 101 8 (fun q4 s5 =>
  sR s5 a0 6 1 q4 (fun s6 =>
  sI s6 a0 6 4 ((-1)) (fun s7 =>
  some (.inl none, s7))))))
set_option maxHeartbeats 4000000 in
theorem oX2_init {Γ : CX} (C : OKC Γ cX2_init RX2 none) (T : ∀ z ∈ (cx_c Γ).exceptionTable.toList, False) (hn : cx_nL Γ = 1) (hR : cx_fr Γ = 2 ∧ cx_lo Γ = 60) (hin : (cx_meth Γ).name = yX2_init.name) : ∀ (a0 : Nat) (s0 : AS), OK Γ 0 [(0, .ref a0)] [] (fX2_init a0 s0) s0 := by
  intro a0 s0
  unfold fX2_init
  refine ok_aload_n C 0 dX2_init_0 rfl ?_
  refine ok_objInit C kw_353 kw_48 kw_49 (by rw [hR.1]; decide) (by rw [hR.2]; exact Nat.le_of_ble_eq_true rfl) dX2_init_1 ?_
  refine ok_aload_n C 0 dX2_init_4 rfl ?_
  refine ok_sipush C (v := 500) dX2_init_5 (by decide) ?_
  refine ok_newI C kw_136 dX2_init_8 (fun q1 s2 => ?_)
  refine ok_putRF C flX2_9_6 (by first | exact Or.inl ⟨_, rfl⟩ | exact Or.inr ⟨_, rfl⟩) hin dX2_init_10 (fun s3 _ => ?_)
  refine ok_aload_n C 0 dX2_init_13 rfl ?_
  refine ok_bipush C (v := 8) dX2_init_14 (by decide) ?_
  refine ok_newZ C kw_134 dX2_init_16 (fun q4 s5 => ?_)
  refine ok_putRF C flX2_15_6 (by first | exact Or.inl ⟨_, rfl⟩ | exact Or.inr ⟨_, rfl⟩) hin dX2_init_18 (fun s6 _ => ?_)
  refine ok_aload_n C 0 dX2_init_21 rfl ?_
  refine ok_iconst C (v := (-1)) dX2_init_22 (by decide) ?_
  refine ok_putI C flX2_19_6 dX2_init_23 (fun s7 _ => ?_)
  exact ok_vreturn C dX2_init_26
theorem ctX2_init {l : Launch} (hl : l.stackTraces = false) {D : va_G} {dA : Nat → ClassId} {B0 : Nat} (a0 : Nat) : Ct l D dA B0 yX2_init (.code yX2_init cX2_init 1 (none) :: ax_ALL) 2 60 [.ref a0] (fX2_init a0) :=
  Ct.of hl (by decide +kernel) (Nat.le_of_ble_eq_true rfl) fun Γ C _ _ _ _ e5 e6 e7 T hin => oX2_init C T e5 ⟨e6, e7⟩ hin a0 _
/-! ChaseLocker$Reader.addWord(I)V -/
def fX2_addWord_3  : Nat → Nat → Int32 → Int32 → AS → Option AR
  | 0, _, _, _, _ => none
  | n + 1, a0, x1, x2, s0 =>
    if x2 < 0 then (
      some (.inl none, s0))
    else (
      gI s0 a0 6 2 (fun v1 =>
      if (500 : Int32) ≤ v1 then (
        some (.inl none, s0))
      else (
        gR s0 a0 6 0 (fun q2 =>
        gI s0 a0 6 2 (fun v3 =>
        uI s0 q2 v3 (((x1.toUInt32 >>> (x2.toUInt32 &&& Int32.toUInt32 31)).toInt32) &&& 255) (fun s4 =>
        gI s4 a0 6 2 (fun v5 =>
        sI s4 a0 6 2 (v5 + 1) (fun s6 =>
        lt (x2 + (-8)) (fun v7 =>
        fX2_addWord_3 n a0 x1 v7 s6)))))))))
def fX2_addWord (a0 : Nat) (x1 : Int32) (s0 : AS) : Option AR :=
  fX2_addWord_3 FU a0 x1 24 s0
set_option maxHeartbeats 4000000 in
theorem oX2_addWord_3 {Γ : CX} (C : OKC Γ cX2_addWord RX2 none) (T : ∀ z ∈ (cx_c Γ).exceptionTable.toList, False) (hn : cx_nL Γ = 3) (hR : cx_fr Γ = 1 ∧ cx_lo Γ = 60) (hin : (cx_meth Γ).name = yX2_addWord.name) : ∀ (n : Nat) (a0 : Nat) (x1 : Int32) (x2 : Int32) (s0 : AS), OK Γ 3 [(0, .ref a0), (1, .int x1), (2, .int x2)] [] (fX2_addWord_3 n a0 x1 x2 s0) s0 := by
  intro n
  induction n with
  | zero => intro _ _ _ s0; exact OK.none
  | succ n ih =>
    intro a0 x1 x2 s0
    rw [fX2_addWord_3]
    refine ok_iload_n C 2 dX2_addWord_3 rfl ?_
    refine ok_if_lt C 49 dX2_addWord_4 (by decide) ?_ ?_
    · exact ok_vreturn C dX2_addWord_49
    · refine ok_aload_n C 0 dX2_addWord_7 rfl ?_
      refine ok_getI C frX2_23_6 dX2_addWord_8 (fun v1 => ?_)
      refine ok_sipush C (v := 500) dX2_addWord_11 (by decide) ?_
      refine ok_icmp_ge C 49 dX2_addWord_14 (by decide) ?_ ?_
      · exact ok_vreturn C dX2_addWord_49
      · refine ok_aload_n C 0 dX2_addWord_17 rfl ?_
        refine ok_getR C frX2_9_6 dX2_addWord_18 (fun q2 => ?_)
        refine ok_aload_n C 0 dX2_addWord_21 rfl ?_
        refine ok_getI C frX2_23_6 dX2_addWord_22 (fun v3 => ?_)
        refine ok_iload_n C 1 dX2_addWord_25 rfl ?_
        refine ok_iload_n C 2 dX2_addWord_26 rfl ?_
        refine ok_iushr C dX2_addWord_27 ?_
        refine ok_sipush C (v := 255) dX2_addWord_28 (by decide) ?_
        refine ok_iand C dX2_addWord_31 ?_
        refine ok_iast C dX2_addWord_32 (fun s4 _ => ?_)
        refine ok_aload_n C 0 dX2_addWord_33 rfl ?_
        refine ok_dup C dX2_addWord_34 rfl ?_
        refine ok_getI C frX2_23_6 dX2_addWord_35 (fun v5 => ?_)
        refine ok_iconst C (v := 1) dX2_addWord_38 (by decide) ?_
        refine ok_iadd C dX2_addWord_39 ?_
        refine ok_putI C flX2_23_6 dX2_addWord_40 (fun s6 _ => ?_)
        refine ok_iincL C 2 (c := (-8)) (fun v7 => [(2, .int v7), (0, .ref a0), (1, .int x1)]) dX2_addWord_43 rfl rfl (by rw [hn]; decide) (fun _ => rfl) (fun v7 => ?_)
        refine ok_goto C 3 dX2_addWord_46 (by decide) ?_
        refine OK.sub (lv' := [(0, .ref a0), (1, .int x1), (2, .int v7)]) [1, 2, 0] rfl ?_
        exact ih a0 x1 v7 s6
set_option maxHeartbeats 4000000 in
theorem oX2_addWord {Γ : CX} (C : OKC Γ cX2_addWord RX2 none) (T : ∀ z ∈ (cx_c Γ).exceptionTable.toList, False) (hn : cx_nL Γ = 3) (hR : cx_fr Γ = 1 ∧ cx_lo Γ = 60) (hin : (cx_meth Γ).name = yX2_addWord.name) : ∀ (a0 : Nat) (x1 : Int32) (s0 : AS), OK Γ 0 [(0, .ref a0), (1, .int x1)] [] (fX2_addWord a0 x1 s0) s0 := by
  intro a0 x1 s0
  unfold fX2_addWord
  refine ok_bipush C (v := 24) dX2_addWord_0 (by decide) ?_
  refine ok_istore_n C (i := 2) [(2, .int 24), (0, .ref a0), (1, .int x1)] dX2_addWord_2 rfl (by rw [hn]; decide) rfl ?_
  refine OK.sub (lv' := [(0, .ref a0), (1, .int x1), (2, .int 24)]) [1, 2, 0] rfl ?_
  exact oX2_addWord_3 C T hn hR hin FU a0 x1 24 s0
theorem ctX2_addWord {l : Launch} (hl : l.stackTraces = false) {D : va_G} {dA : Nat → ClassId} {B0 : Nat} (a0 : Nat) (x1 : Int32) : Ct l D dA B0 yX2_addWord (.code yX2_addWord cX2_addWord 3 (none) :: ax_ALL) 1 60 [.ref a0, .int x1] (fX2_addWord a0 x1) :=
  Ct.of hl (by decide +kernel) (Nat.le_of_ble_eq_true rfl) fun Γ C _ _ _ _ e5 e6 e7 T hin => oX2_addWord C T e5 ⟨e6, e7⟩ hin a0 x1 _
/-! ChaseLocker$Reader.addBytes(IIIII)Z -/
def fX2_addBytes (a0 : Nat) (x1 : Int32) (x2 : Int32) (x3 : Int32) (x4 : Int32) (x5 : Int32) (s0 : AS) : Option AR :=
  gI s0 a0 6 2 (fun v1 =>
  if v1 ≤ (480 : Int32) then (
    cV s0 a0 6 (fX2_addWord a0 x1 s0) (qV (fun s2 =>
    cV s2 a0 6 (fX2_addWord a0 x2 s2) (qV (fun s3 =>
    cV s3 a0 6 (fX2_addWord a0 x3 s3) (qV (fun s4 =>
    cV s4 a0 6 (fX2_addWord a0 x4 s4) (qV (fun s5 =>
    cV s5 a0 6 (fX2_addWord a0 x5 s5) (qV (fun s6 =>
    rZ 1 s6)))))))))))
  else (
    rZ 0 s0))
set_option maxHeartbeats 4000000 in
theorem oX2_addBytes {Γ : CX} (C : OKC Γ cX2_addBytes RX2 (some (.boolean))) (T : ∀ z ∈ (cx_c Γ).exceptionTable.toList, False) (hn : cx_nL Γ = 6) (hR : cx_fr Γ = 2 ∧ cx_lo Γ = 82) (hin : (cx_meth Γ).name = yX2_addBytes.name) : ∀ (a0 : Nat) (x1 : Int32) (x2 : Int32) (x3 : Int32) (x4 : Int32) (x5 : Int32) (s0 : AS), OK Γ 0 [(0, .ref a0), (1, .int x1), (2, .int x2), (3, .int x3), (4, .int x4), (5, .int x5)] [] (fX2_addBytes a0 x1 x2 x3 x4 x5 s0) s0 := by
  intro a0 x1 x2 x3 x4 x5 s0
  unfold fX2_addBytes
  refine ok_aload_n C 0 dX2_addBytes_0 rfl ?_
  refine ok_getI C frX2_23_6 dX2_addBytes_1 (fun v1 => ?_)
  refine ok_sipush C (v := 480) dX2_addBytes_4 (by decide) ?_
  refine ok_icmp_le C 12 dX2_addBytes_7 (by decide) ?_ ?_
  · refine ok_aload_n C 0 dX2_addBytes_12 rfl ?_
    refine ok_iload_n C 1 dX2_addBytes_13 rfl ?_
    refine ok_callV C T [.int x1] (F := fX2_addWord a0 x1) (ctX2_addWord (C.2.2.2.2.2.2.2.2.1) a0 x1) vlX2_26 viX2_addWord rfl rfl (by decide) rfl (by rw [hR.1, hR.2]; decide) (Nat.le_of_ble_eq_true rfl) dX2_addBytes_14 (ok_qV fun s2 => ?_)
    refine ok_aload_n C 0 dX2_addBytes_17 rfl ?_
    refine ok_iload_n C 2 dX2_addBytes_18 rfl ?_
    refine ok_callV C T [.int x2] (F := fX2_addWord a0 x2) (ctX2_addWord (C.2.2.2.2.2.2.2.2.1) a0 x2) vlX2_26 viX2_addWord rfl rfl (by decide) rfl (by rw [hR.1, hR.2]; decide) (Nat.le_of_ble_eq_true rfl) dX2_addBytes_19 (ok_qV fun s3 => ?_)
    refine ok_aload_n C 0 dX2_addBytes_22 rfl ?_
    refine ok_iload_n C 3 dX2_addBytes_23 rfl ?_
    refine ok_callV C T [.int x3] (F := fX2_addWord a0 x3) (ctX2_addWord (C.2.2.2.2.2.2.2.2.1) a0 x3) vlX2_26 viX2_addWord rfl rfl (by decide) rfl (by rw [hR.1, hR.2]; decide) (Nat.le_of_ble_eq_true rfl) dX2_addBytes_24 (ok_qV fun s4 => ?_)
    refine ok_aload_n C 0 dX2_addBytes_27 rfl ?_
    refine ok_iload C 4 dX2_addBytes_28 rfl ?_
    refine ok_callV C T [.int x4] (F := fX2_addWord a0 x4) (ctX2_addWord (C.2.2.2.2.2.2.2.2.1) a0 x4) vlX2_26 viX2_addWord rfl rfl (by decide) rfl (by rw [hR.1, hR.2]; decide) (Nat.le_of_ble_eq_true rfl) dX2_addBytes_30 (ok_qV fun s5 => ?_)
    refine ok_aload_n C 0 dX2_addBytes_33 rfl ?_
    refine ok_iload C 5 dX2_addBytes_34 rfl ?_
    refine ok_callV C T [.int x5] (F := fX2_addWord a0 x5) (ctX2_addWord (C.2.2.2.2.2.2.2.2.1) a0 x5) vlX2_26 viX2_addWord rfl rfl (by decide) rfl (by rw [hR.1, hR.2]; decide) (Nat.le_of_ble_eq_true rfl) dX2_addBytes_36 (ok_qV fun s6 => ?_)
    refine ok_iconst C (v := 1) dX2_addBytes_39 (by decide) ?_
    exact ok_zreturn C dX2_addBytes_40
  · refine ok_iconst C (v := 0) dX2_addBytes_10 (by decide) ?_
    exact ok_zreturn C dX2_addBytes_11
theorem ctX2_addBytes {l : Launch} (hl : l.stackTraces = false) {D : va_G} {dA : Nat → ClassId} {B0 : Nat} (a0 : Nat) (x1 : Int32) (x2 : Int32) (x3 : Int32) (x4 : Int32) (x5 : Int32) : Ct l D dA B0 yX2_addBytes (.code yX2_addBytes cX2_addBytes 6 (some (.boolean)) :: ax_ALL) 2 82 [.ref a0, .int x1, .int x2, .int x3, .int x4, .int x5] (fX2_addBytes a0 x1 x2 x3 x4 x5) :=
  Ct.of hl (by decide +kernel) (Nat.le_of_ble_eq_true rfl) fun Γ C _ _ _ _ e5 e6 e7 T hin => oX2_addBytes C T e5 ⟨e6, e7⟩ hin a0 x1 x2 x3 x4 x5 _
/-! ChaseLocker$Reader.isBetween(III)Z -/
def fX2_isBetween (a0 : Nat) (x1 : Int32) (x2 : Int32) (x3 : Int32) (s0 : AS) : Option AR :=
  if x3 < 0 then (
    rZ 0 s0)
  else (
    if (500 : Int32) ≤ x3 then (
      rZ 0 s0)
    else (
      gR s0 a0 6 0 (fun q1 =>
      aI s0 q1 100 x3 (fun v2 =>
      if v2 < x1 then (
        rZ 0 s0)
      else (
        gR s0 a0 6 0 (fun q3 =>
        aI s0 q3 100 x3 (fun v4 =>
        if x2 < v4 then (
          rZ 0 s0)
        else (
          rZ 1 s0))))))))
set_option maxHeartbeats 4000000 in
theorem oX2_isBetween {Γ : CX} (C : OKC Γ cX2_isBetween RX2 (some (.boolean))) (T : ∀ z ∈ (cx_c Γ).exceptionTable.toList, False) (hn : cx_nL Γ = 4) (hR : cx_fr Γ = 1 ∧ cx_lo Γ = 60) (hin : (cx_meth Γ).name = yX2_isBetween.name) : ∀ (a0 : Nat) (x1 : Int32) (x2 : Int32) (x3 : Int32) (s0 : AS), OK Γ 0 [(0, .ref a0), (1, .int x1), (2, .int x2), (3, .int x3)] [] (fX2_isBetween a0 x1 x2 x3 s0) s0 := by
  intro a0 x1 x2 x3 s0
  unfold fX2_isBetween
  refine ok_iload_n C 3 dX2_isBetween_0 rfl ?_
  refine ok_if_lt C 35 dX2_isBetween_1 (by decide) ?_ ?_
  · refine ok_iconst C (v := 0) dX2_isBetween_35 (by decide) ?_
    exact ok_zreturn C dX2_isBetween_36
  · refine ok_iload_n C 3 dX2_isBetween_4 rfl ?_
    refine ok_sipush C (v := 500) dX2_isBetween_5 (by decide) ?_
    refine ok_icmp_ge C 35 dX2_isBetween_8 (by decide) ?_ ?_
    · refine ok_iconst C (v := 0) dX2_isBetween_35 (by decide) ?_
      exact ok_zreturn C dX2_isBetween_36
    · refine ok_aload_n C 0 dX2_isBetween_11 rfl ?_
      refine ok_getR C frX2_9_6 dX2_isBetween_12 (fun q1 => ?_)
      refine ok_iload_n C 3 dX2_isBetween_15 rfl ?_
      refine ok_iald C dX2_isBetween_16 (fun v2 => ?_)
      refine ok_iload_n C 1 dX2_isBetween_17 rfl ?_
      refine ok_icmp_lt C 35 dX2_isBetween_18 (by decide) ?_ ?_
      · refine ok_iconst C (v := 0) dX2_isBetween_35 (by decide) ?_
        exact ok_zreturn C dX2_isBetween_36
      · refine ok_aload_n C 0 dX2_isBetween_21 rfl ?_
        refine ok_getR C frX2_9_6 dX2_isBetween_22 (fun q3 => ?_)
        refine ok_iload_n C 3 dX2_isBetween_25 rfl ?_
        refine ok_iald C dX2_isBetween_26 (fun v4 => ?_)
        refine ok_iload_n C 2 dX2_isBetween_27 rfl ?_
        refine ok_icmp_gt C 35 dX2_isBetween_28 (by decide) ?_ ?_
        · refine ok_iconst C (v := 0) dX2_isBetween_35 (by decide) ?_
          exact ok_zreturn C dX2_isBetween_36
        · refine ok_iconst C (v := 1) dX2_isBetween_31 (by decide) ?_
          refine ok_goto C 36 dX2_isBetween_32 (by decide) ?_
          exact ok_zreturn C dX2_isBetween_36
theorem ctX2_isBetween {l : Launch} (hl : l.stackTraces = false) {D : va_G} {dA : Nat → ClassId} {B0 : Nat} (a0 : Nat) (x1 : Int32) (x2 : Int32) (x3 : Int32) : Ct l D dA B0 yX2_isBetween (.code yX2_isBetween cX2_isBetween 4 (some (.boolean)) :: ax_ALL) 1 60 [.ref a0, .int x1, .int x2, .int x3] (fX2_isBetween a0 x1 x2 x3) :=
  Ct.of hl (by decide +kernel) (Nat.le_of_ble_eq_true rfl) fun Γ C _ _ _ _ e5 e6 e7 T hin => oX2_isBetween C T e5 ⟨e6, e7⟩ hin a0 x1 x2 x3 _
/-! ChaseLocker$Reader.endOfRun(II)I -/
def fX2_endOfRun_5  : Nat → Nat → Int32 → Int32 → Int32 → AS → Option AR
  | 0, _, _, _, _, _ => none
  | n + 1, a0, x1, x2, x3, s0 =>
    gI s0 a0 6 5 (fun v1 =>
    if v1 ≤ x3 then (
      some (.inl (some (.int x3)), s0))
    else (
      cV s0 a0 6 (fX2_isBetween a0 x1 x2 x3 s0) (qI (fun v2 s3 =>
      if v2 = 0 then (
        some (.inl (some (.int x3)), s3))
      else (
        lt (x3 + 1) (fun v4 =>
        fX2_endOfRun_5 n a0 x1 x2 v4 s3))))))
def fX2_endOfRun (a0 : Nat) (x1 : Int32) (x2 : Int32) (s0 : AS) : Option AR :=
  gI s0 a0 6 7 (fun v1 =>
  fX2_endOfRun_5 FU a0 x1 x2 v1 s0)
set_option maxHeartbeats 4000000 in
theorem oX2_endOfRun_5 {Γ : CX} (C : OKC Γ cX2_endOfRun RX2 (some (.int))) (T : ∀ z ∈ (cx_c Γ).exceptionTable.toList, False) (hn : cx_nL Γ = 4) (hR : cx_fr Γ = 2 ∧ cx_lo Γ = 83) (hin : (cx_meth Γ).name = yX2_endOfRun.name) : ∀ (n : Nat) (a0 : Nat) (x1 : Int32) (x2 : Int32) (x3 : Int32) (s0 : AS), OK Γ 5 [(0, .ref a0), (1, .int x1), (2, .int x2), (3, .int x3)] [] (fX2_endOfRun_5 n a0 x1 x2 x3 s0) s0 := by
  intro n
  induction n with
  | zero => intro _ _ _ _ s0; exact OK.none
  | succ n ih =>
    intro a0 x1 x2 x3 s0
    rw [fX2_endOfRun_5]
    refine ok_iload_n C 3 dX2_endOfRun_5 rfl ?_
    refine ok_aload_n C 0 dX2_endOfRun_6 rfl ?_
    refine ok_getI C frX2_72_6 dX2_endOfRun_7 (fun v1 => ?_)
    refine ok_icmp_ge C 29 dX2_endOfRun_10 (by decide) ?_ ?_
    · refine ok_iload_n C 3 dX2_endOfRun_29 rfl ?_
      exact ok_ireturn C dX2_endOfRun_30
    · refine ok_aload_n C 0 dX2_endOfRun_13 rfl ?_
      refine ok_iload_n C 1 dX2_endOfRun_14 rfl ?_
      refine ok_iload_n C 2 dX2_endOfRun_15 rfl ?_
      refine ok_iload_n C 3 dX2_endOfRun_16 rfl ?_
      refine ok_callV C T [.int x1, .int x2, .int x3] (F := fX2_isBetween a0 x1 x2 x3) (ctX2_isBetween (C.2.2.2.2.2.2.2.2.1) a0 x1 x2 x3) vlX2_170 viX2_isBetween rfl rfl (by decide) rfl (by rw [hR.1, hR.2]; decide) (Nat.le_of_ble_eq_true rfl) dX2_endOfRun_17 (ok_qI fun v2 s3 => ?_)
      refine ok_if_eq C 29 dX2_endOfRun_20 (by decide) ?_ ?_
      · refine ok_iload_n C 3 dX2_endOfRun_29 rfl ?_
        exact ok_ireturn C dX2_endOfRun_30
      · refine ok_iincL C 3 (c := 1) (fun v4 => [(3, .int v4), (0, .ref a0), (1, .int x1), (2, .int x2)]) dX2_endOfRun_23 rfl rfl (by rw [hn]; decide) (fun _ => rfl) (fun v4 => ?_)
        refine ok_goto C 5 dX2_endOfRun_26 (by decide) ?_
        refine OK.sub (lv' := [(0, .ref a0), (1, .int x1), (2, .int x2), (3, .int v4)]) [1, 2, 3, 0] rfl ?_
        exact ih a0 x1 x2 v4 s3
set_option maxHeartbeats 4000000 in
theorem oX2_endOfRun {Γ : CX} (C : OKC Γ cX2_endOfRun RX2 (some (.int))) (T : ∀ z ∈ (cx_c Γ).exceptionTable.toList, False) (hn : cx_nL Γ = 4) (hR : cx_fr Γ = 2 ∧ cx_lo Γ = 83) (hin : (cx_meth Γ).name = yX2_endOfRun.name) : ∀ (a0 : Nat) (x1 : Int32) (x2 : Int32) (s0 : AS), OK Γ 0 [(0, .ref a0), (1, .int x1), (2, .int x2)] [] (fX2_endOfRun a0 x1 x2 s0) s0 := by
  intro a0 x1 x2 s0
  unfold fX2_endOfRun
  refine ok_aload_n C 0 dX2_endOfRun_0 rfl ?_
  refine ok_getI C frX2_59_6 dX2_endOfRun_1 (fun v1 => ?_)
  refine ok_istore_n C (i := 3) [(3, .int v1), (0, .ref a0), (1, .int x1), (2, .int x2)] dX2_endOfRun_4 rfl (by rw [hn]; decide) rfl ?_
  refine OK.sub (lv' := [(0, .ref a0), (1, .int x1), (2, .int x2), (3, .int v1)]) [1, 2, 3, 0] rfl ?_
  exact oX2_endOfRun_5 C T hn hR hin FU a0 x1 x2 v1 s0
theorem ctX2_endOfRun {l : Launch} (hl : l.stackTraces = false) {D : va_G} {dA : Nat → ClassId} {B0 : Nat} (a0 : Nat) (x1 : Int32) (x2 : Int32) : Ct l D dA B0 yX2_endOfRun (.code yX2_endOfRun cX2_endOfRun 4 (some (.int)) :: ax_ALL) 2 83 [.ref a0, .int x1, .int x2] (fX2_endOfRun a0 x1 x2) :=
  Ct.of hl (by decide +kernel) (Nat.le_of_ble_eq_true rfl) fun Γ C _ _ _ _ e5 e6 e7 T hin => oX2_endOfRun C T e5 ⟨e6, e7⟩ hin a0 x1 x2 _
/-! ChaseLocker$Reader.advance()V -/
def fX2_advance_196  (t0 : Nat) (t1 : Int32) (s0 : AS) : Option AR :=
  sI s0 t0 6 6 t1 (fun s1 =>
  some (.inl none, s1))
def fX2_advance_144  (t0 : Nat) (t1 : Int32) (s0 : AS) : Option AR :=
  sI s0 t0 6 6 t1 (fun s1 =>
  some (.inl none, s1))
def fX2_advance_46  (a0 : Nat) (s0 : AS) : Option AR :=
  gI s0 a0 6 7 (fun v1 =>
  gI s0 a0 6 5 (fun v2 =>
  if v1 < v2 then (
    gR s0 a0 6 0 (fun q3 =>
    gI s0 a0 6 7 (fun v4 =>
    aI s0 q3 100 v4 (fun v5 =>
    if v5 = (59 : Int32) then (
      sI s0 a0 6 6 3 (fun s23 =>
      gI s23 a0 6 7 (fun v24 =>
      sI s23 a0 6 8 (v24 + 1) (fun s25 =>
      some (.inl none, s25)))))
    else (
      gI s0 a0 6 7 (fun v6 =>
      cV s0 a0 6 (fX2_isBetween a0 97 122 v6 s0) (qI (fun v7 s8 =>
      if v7 = 0 then (
        gI s8 a0 6 7 (fun v9 =>
        cV s8 a0 6 (fX2_isBetween a0 48 57 v9 s8) (qI (fun v10 s11 =>
        if v10 = 0 then (
          sI s11 a0 6 6 4 (fun s12 =>
          some (.inl none, s12)))
        else (
          cV s11 a0 6 (fX2_endOfRun a0 48 57 s11) (qI (fun v13 s14 =>
          sI s14 a0 6 8 v13 (fun s15 =>
          gI s15 a0 6 8 (fun v16 =>
          gI s15 a0 6 7 (fun v17 =>
          if (3 : Int32) < (v16 - v17) then (
            fX2_advance_196 a0 4 s15)
          else (
            fX2_advance_196 a0 2 s15)))))))))))
      else (
        cV s8 a0 6 (fX2_endOfRun a0 97 122 s8) (qI (fun v18 s19 =>
        sI s19 a0 6 8 v18 (fun s20 =>
        gI s20 a0 6 8 (fun v21 =>
        gI s20 a0 6 7 (fun v22 =>
        if (6 : Int32) < (v21 - v22) then (
          fX2_advance_144 a0 4 s20)
        else (
          fX2_advance_144 a0 1 s20)))))))))))))))
  else (
    sI s0 a0 6 6 0 (fun s26 =>
    some (.inl none, s26)))))
def fX2_advance_8  : Nat → Nat → AS → Option AR
  | 0, _, _ => none
  | n + 1, a0, s0 =>
    gI s0 a0 6 7 (fun v1 =>
    gI s0 a0 6 5 (fun v2 =>
    if v2 ≤ v1 then (
      fX2_advance_46 a0 s0)
    else (
      gR s0 a0 6 0 (fun q3 =>
      gI s0 a0 6 7 (fun v4 =>
      aI s0 q3 100 v4 (fun v5 =>
      if v5 = (32 : Int32) then (
        gI s0 a0 6 7 (fun v6 =>
        sI s0 a0 6 7 (v6 + 1) (fun s7 =>
        fX2_advance_8 n a0 s7)))
      else (
        fX2_advance_46 a0 s0)))))))
def fX2_advance (a0 : Nat) (s0 : AS) : Option AR :=
  gI s0 a0 6 8 (fun v1 =>
  sI s0 a0 6 7 v1 (fun s2 =>
  fX2_advance_8 FU a0 s2))
set_option maxHeartbeats 4000000 in
theorem oX2_advance_196 {Γ : CX} (C : OKC Γ cX2_advance RX2 none) (T : ∀ z ∈ (cx_c Γ).exceptionTable.toList, False) (hn : cx_nL Γ = 1) (hR : cx_fr Γ = 3 ∧ cx_lo Γ = 106) (hin : (cx_meth Γ).name = yX2_advance.name) : ∀ (t0 : Nat) (t1 : Int32) (s0 : AS), OK Γ 196 [] [.int t1, .ref t0] (fX2_advance_196  t0 t1 s0) s0 := by
  intro t0 t1 s0
  unfold fX2_advance_196
  refine ok_putI C flX2_50_6 dX2_advance_196 (fun s1 _ => ?_)
  refine ok_goto C 207 dX2_advance_199 (by decide) ?_
  exact ok_vreturn C dX2_advance_207
set_option maxHeartbeats 4000000 in
theorem oX2_advance_144 {Γ : CX} (C : OKC Γ cX2_advance RX2 none) (T : ∀ z ∈ (cx_c Γ).exceptionTable.toList, False) (hn : cx_nL Γ = 1) (hR : cx_fr Γ = 3 ∧ cx_lo Γ = 106) (hin : (cx_meth Γ).name = yX2_advance.name) : ∀ (t0 : Nat) (t1 : Int32) (s0 : AS), OK Γ 144 [] [.int t1, .ref t0] (fX2_advance_144  t0 t1 s0) s0 := by
  intro t0 t1 s0
  unfold fX2_advance_144
  refine ok_putI C flX2_50_6 dX2_advance_144 (fun s1 _ => ?_)
  refine ok_goto C 207 dX2_advance_147 (by decide) ?_
  exact ok_vreturn C dX2_advance_207
set_option maxHeartbeats 4000000 in
theorem oX2_advance_46 {Γ : CX} (C : OKC Γ cX2_advance RX2 none) (T : ∀ z ∈ (cx_c Γ).exceptionTable.toList, False) (hn : cx_nL Γ = 1) (hR : cx_fr Γ = 3 ∧ cx_lo Γ = 106) (hin : (cx_meth Γ).name = yX2_advance.name) : ∀ (a0 : Nat) (s0 : AS), OK Γ 46 [(0, .ref a0)] [] (fX2_advance_46  a0 s0) s0 := by
  intro a0 s0
  unfold fX2_advance_46
  refine ok_aload_n C 0 dX2_advance_46 rfl ?_
  refine ok_getI C frX2_59_6 dX2_advance_47 (fun v1 => ?_)
  refine ok_aload_n C 0 dX2_advance_50 rfl ?_
  refine ok_getI C frX2_72_6 dX2_advance_51 (fun v2 => ?_)
  refine ok_icmp_lt C 65 dX2_advance_54 (by decide) ?_ ?_
  · refine ok_aload_n C 0 dX2_advance_65 rfl ?_
    refine ok_getR C frX2_9_6 dX2_advance_66 (fun q3 => ?_)
    refine ok_aload_n C 0 dX2_advance_69 rfl ?_
    refine ok_getI C frX2_59_6 dX2_advance_70 (fun v4 => ?_)
    refine ok_iald C dX2_advance_73 (fun v5 => ?_)
    refine ok_bipush C (v := 59) dX2_advance_74 (by decide) ?_
    refine ok_icmp_ne C 97 dX2_advance_76 (by decide) ?_ ?_
    · refine ok_aload_n C 0 dX2_advance_97 rfl ?_
      refine ok_bipush C (v := 97) dX2_advance_98 (by decide) ?_
      refine ok_bipush C (v := 122) dX2_advance_100 (by decide) ?_
      refine ok_aload_n C 0 dX2_advance_102 rfl ?_
      refine ok_getI C frX2_59_6 dX2_advance_103 (fun v6 => ?_)
      refine ok_callV C T [.int 97, .int 122, .int v6] (F := fX2_isBetween a0 97 122 v6) (ctX2_isBetween (C.2.2.2.2.2.2.2.2.1) a0 97 122 v6) vlX2_170 viX2_isBetween rfl rfl (by decide) rfl (by rw [hR.1, hR.2]; decide) (Nat.le_of_ble_eq_true rfl) dX2_advance_106 (ok_qI fun v7 s8 => ?_)
      refine ok_if_eq C 150 dX2_advance_109 (by decide) ?_ ?_
      · refine ok_aload_n C 0 dX2_advance_150 rfl ?_
        refine ok_bipush C (v := 48) dX2_advance_151 (by decide) ?_
        refine ok_bipush C (v := 57) dX2_advance_153 (by decide) ?_
        refine ok_aload_n C 0 dX2_advance_155 rfl ?_
        refine ok_getI C frX2_59_6 dX2_advance_156 (fun v9 => ?_)
        refine ok_callV C T [.int 48, .int 57, .int v9] (F := fX2_isBetween a0 48 57 v9) (ctX2_isBetween (C.2.2.2.2.2.2.2.2.1) a0 48 57 v9) vlX2_170 viX2_isBetween rfl rfl (by decide) rfl (by rw [hR.1, hR.2]; decide) (Nat.le_of_ble_eq_true rfl) dX2_advance_159 (ok_qI fun v10 s11 => ?_)
        refine ok_if_eq C 202 dX2_advance_162 (by decide) ?_ ?_
        · refine ok_aload_n C 0 dX2_advance_202 rfl ?_
          refine ok_iconst C (v := 4) dX2_advance_203 (by decide) ?_
          refine ok_putI C flX2_50_6 dX2_advance_204 (fun s12 _ => ?_)
          exact ok_vreturn C dX2_advance_207
        · refine ok_aload_n C 0 dX2_advance_165 rfl ?_
          refine ok_aload_n C 0 dX2_advance_166 rfl ?_
          refine ok_bipush C (v := 48) dX2_advance_167 (by decide) ?_
          refine ok_bipush C (v := 57) dX2_advance_169 (by decide) ?_
          refine ok_callV C T [.int 48, .int 57] (F := fX2_endOfRun a0 48 57) (ctX2_endOfRun (C.2.2.2.2.2.2.2.2.1) a0 48 57) vlX2_174 viX2_endOfRun rfl rfl (by decide) rfl (by rw [hR.1, hR.2]; decide) (Nat.le_of_ble_eq_true rfl) dX2_advance_171 (ok_qI fun v13 s14 => ?_)
          refine ok_putI C flX2_75_6 dX2_advance_174 (fun s15 _ => ?_)
          refine ok_aload_n C 0 dX2_advance_177 rfl ?_
          refine ok_aload_n C 0 dX2_advance_178 rfl ?_
          refine ok_getI C frX2_75_6 dX2_advance_179 (fun v16 => ?_)
          refine ok_aload_n C 0 dX2_advance_182 rfl ?_
          refine ok_getI C frX2_59_6 dX2_advance_183 (fun v17 => ?_)
          refine ok_isub C dX2_advance_186 ?_
          refine ok_iconst C (v := 3) dX2_advance_187 (by decide) ?_
          refine ok_icmp_gt C 195 dX2_advance_188 (by decide) ?_ ?_
          · refine ok_iconst C (v := 4) dX2_advance_195 (by decide) ?_
            refine OK.sub (lv' := []) [] rfl ?_
            exact oX2_advance_196 C T hn hR hin a0 4 s15
          · refine ok_iconst C (v := 2) dX2_advance_191 (by decide) ?_
            refine ok_goto C 196 dX2_advance_192 (by decide) ?_
            refine OK.sub (lv' := []) [] rfl ?_
            exact oX2_advance_196 C T hn hR hin a0 2 s15
      · refine ok_aload_n C 0 dX2_advance_112 rfl ?_
        refine ok_aload_n C 0 dX2_advance_113 rfl ?_
        refine ok_bipush C (v := 97) dX2_advance_114 (by decide) ?_
        refine ok_bipush C (v := 122) dX2_advance_116 (by decide) ?_
        refine ok_callV C T [.int 97, .int 122] (F := fX2_endOfRun a0 97 122) (ctX2_endOfRun (C.2.2.2.2.2.2.2.2.1) a0 97 122) vlX2_174 viX2_endOfRun rfl rfl (by decide) rfl (by rw [hR.1, hR.2]; decide) (Nat.le_of_ble_eq_true rfl) dX2_advance_118 (ok_qI fun v18 s19 => ?_)
        refine ok_putI C flX2_75_6 dX2_advance_121 (fun s20 _ => ?_)
        refine ok_aload_n C 0 dX2_advance_124 rfl ?_
        refine ok_aload_n C 0 dX2_advance_125 rfl ?_
        refine ok_getI C frX2_75_6 dX2_advance_126 (fun v21 => ?_)
        refine ok_aload_n C 0 dX2_advance_129 rfl ?_
        refine ok_getI C frX2_59_6 dX2_advance_130 (fun v22 => ?_)
        refine ok_isub C dX2_advance_133 ?_
        refine ok_bipush C (v := 6) dX2_advance_134 (by decide) ?_
        refine ok_icmp_gt C 143 dX2_advance_136 (by decide) ?_ ?_
        · refine ok_iconst C (v := 4) dX2_advance_143 (by decide) ?_
          refine OK.sub (lv' := []) [] rfl ?_
          exact oX2_advance_144 C T hn hR hin a0 4 s20
        · refine ok_iconst C (v := 1) dX2_advance_139 (by decide) ?_
          refine ok_goto C 144 dX2_advance_140 (by decide) ?_
          refine OK.sub (lv' := []) [] rfl ?_
          exact oX2_advance_144 C T hn hR hin a0 1 s20
    · refine ok_aload_n C 0 dX2_advance_79 rfl ?_
      refine ok_iconst C (v := 3) dX2_advance_80 (by decide) ?_
      refine ok_putI C flX2_50_6 dX2_advance_81 (fun s23 _ => ?_)
      refine ok_aload_n C 0 dX2_advance_84 rfl ?_
      refine ok_aload_n C 0 dX2_advance_85 rfl ?_
      refine ok_getI C frX2_59_6 dX2_advance_86 (fun v24 => ?_)
      refine ok_iconst C (v := 1) dX2_advance_89 (by decide) ?_
      refine ok_iadd C dX2_advance_90 ?_
      refine ok_putI C flX2_75_6 dX2_advance_91 (fun s25 _ => ?_)
      refine ok_goto C 207 dX2_advance_94 (by decide) ?_
      exact ok_vreturn C dX2_advance_207
  · refine ok_aload_n C 0 dX2_advance_57 rfl ?_
    refine ok_iconst C (v := 0) dX2_advance_58 (by decide) ?_
    refine ok_putI C flX2_50_6 dX2_advance_59 (fun s26 _ => ?_)
    refine ok_goto C 207 dX2_advance_62 (by decide) ?_
    exact ok_vreturn C dX2_advance_207
set_option maxHeartbeats 4000000 in
theorem oX2_advance_8 {Γ : CX} (C : OKC Γ cX2_advance RX2 none) (T : ∀ z ∈ (cx_c Γ).exceptionTable.toList, False) (hn : cx_nL Γ = 1) (hR : cx_fr Γ = 3 ∧ cx_lo Γ = 106) (hin : (cx_meth Γ).name = yX2_advance.name) : ∀ (n : Nat) (a0 : Nat) (s0 : AS), OK Γ 8 [(0, .ref a0)] [] (fX2_advance_8 n a0 s0) s0 := by
  intro n
  induction n with
  | zero => intro _ s0; exact OK.none
  | succ n ih =>
    intro a0 s0
    rw [fX2_advance_8]
    refine ok_aload_n C 0 dX2_advance_8 rfl ?_
    refine ok_getI C frX2_59_6 dX2_advance_9 (fun v1 => ?_)
    refine ok_aload_n C 0 dX2_advance_12 rfl ?_
    refine ok_getI C frX2_72_6 dX2_advance_13 (fun v2 => ?_)
    refine ok_icmp_ge C 46 dX2_advance_16 (by decide) ?_ ?_
    · exact oX2_advance_46 C T hn hR hin a0 s0
    · refine ok_aload_n C 0 dX2_advance_19 rfl ?_
      refine ok_getR C frX2_9_6 dX2_advance_20 (fun q3 => ?_)
      refine ok_aload_n C 0 dX2_advance_23 rfl ?_
      refine ok_getI C frX2_59_6 dX2_advance_24 (fun v4 => ?_)
      refine ok_iald C dX2_advance_27 (fun v5 => ?_)
      refine ok_bipush C (v := 32) dX2_advance_28 (by decide) ?_
      refine ok_icmp_ne C 46 dX2_advance_30 (by decide) ?_ ?_
      · exact oX2_advance_46 C T hn hR hin a0 s0
      · refine ok_aload_n C 0 dX2_advance_33 rfl ?_
        refine ok_dup C dX2_advance_34 rfl ?_
        refine ok_getI C frX2_59_6 dX2_advance_35 (fun v6 => ?_)
        refine ok_iconst C (v := 1) dX2_advance_38 (by decide) ?_
        refine ok_iadd C dX2_advance_39 ?_
        refine ok_putI C flX2_59_6 dX2_advance_40 (fun s7 _ => ?_)
        refine ok_goto C 8 dX2_advance_43 (by decide) ?_
        exact ih a0 s7
set_option maxHeartbeats 4000000 in
theorem oX2_advance {Γ : CX} (C : OKC Γ cX2_advance RX2 none) (T : ∀ z ∈ (cx_c Γ).exceptionTable.toList, False) (hn : cx_nL Γ = 1) (hR : cx_fr Γ = 3 ∧ cx_lo Γ = 106) (hin : (cx_meth Γ).name = yX2_advance.name) : ∀ (a0 : Nat) (s0 : AS), OK Γ 0 [(0, .ref a0)] [] (fX2_advance a0 s0) s0 := by
  intro a0 s0
  unfold fX2_advance
  refine ok_aload_n C 0 dX2_advance_0 rfl ?_
  refine ok_aload_n C 0 dX2_advance_1 rfl ?_
  refine ok_getI C frX2_75_6 dX2_advance_2 (fun v1 => ?_)
  refine ok_putI C flX2_59_6 dX2_advance_5 (fun s2 _ => ?_)
  exact oX2_advance_8 C T hn hR hin FU a0 s2
theorem ctX2_advance {l : Launch} (hl : l.stackTraces = false) {D : va_G} {dA : Nat → ClassId} {B0 : Nat} (a0 : Nat) : Ct l D dA B0 yX2_advance (.code yX2_advance cX2_advance 1 (none) :: ax_ALL) 3 106 [.ref a0] (fX2_advance a0) :=
  Ct.of hl (by decide +kernel) (Nat.le_of_ble_eq_true rfl) fun Γ C _ _ _ _ e5 e6 e7 T hin => oX2_advance C T e5 ⟨e6, e7⟩ hin a0 _
/-! ChaseLocker$Reader.startText(I)V -/
def fX2_startText_53  (a0 : Nat) (s0 : AS) : Option AR :=
  cV s0 a0 6 (fX2_advance a0 s0) (qV (fun s1 =>
  some (.inl none, s1)))
def fX2_startText_34  : Nat → Nat → Int32 → AS → Option AR
  | 0, _, _, _ => none
  | n + 1, a0, x2, s0 =>
    if (8 : Int32) ≤ x2 then (
      fX2_startText_53 a0 s0)
    else (
      gR s0 a0 6 1 (fun q1 =>
      uN 101 .boolean s0 q1 x2 0 (fun s2 =>
      lt (x2 + 1) (fun v3 =>
      fX2_startText_34 n a0 v3 s2))))
def fX2_startText (a0 : Nat) (x1 : Int32) (s0 : AS) : Option AR :=
  gI s0 a0 6 2 (fun v1 =>
  lt (if v1 < x1 then v1 else x1) (fun v2 =>
  sI s0 a0 6 5 v2 (fun s3 =>
  sI s3 a0 6 2 0 (fun s4 =>
  sI s4 a0 6 3 0 (fun s5 =>
  sI s5 a0 6 4 ((-1)) (fun s6 =>
  sI s6 a0 6 8 0 (fun s7 =>
  fX2_startText_34 FU a0 0 s7)))))))
set_option maxHeartbeats 4000000 in
theorem oX2_startText_53 {Γ : CX} (C : OKC Γ cX2_startText RX2 none) (T : ∀ z ∈ (cx_c Γ).exceptionTable.toList, False) (hn : cx_nL Γ = 3) (hR : cx_fr Γ = 4 ∧ cx_lo Γ = 126) (hin : (cx_meth Γ).name = yX2_startText.name) : ∀ (a0 : Nat) (s0 : AS), OK Γ 53 [(0, .ref a0)] [] (fX2_startText_53  a0 s0) s0 := by
  intro a0 s0
  unfold fX2_startText_53
  refine ok_aload_n C 0 dX2_startText_53 rfl ?_
  refine ok_callV C T [] (F := fX2_advance a0) (ctX2_advance (C.2.2.2.2.2.2.2.2.1) a0) vlX2_53 viX2_advance rfl rfl (by decide) rfl (by rw [hR.1, hR.2]; decide) (Nat.le_of_ble_eq_true rfl) dX2_startText_54 (ok_qV fun s1 => ?_)
  exact ok_vreturn C dX2_startText_57
set_option maxHeartbeats 4000000 in
theorem oX2_startText_34 {Γ : CX} (C : OKC Γ cX2_startText RX2 none) (T : ∀ z ∈ (cx_c Γ).exceptionTable.toList, False) (hn : cx_nL Γ = 3) (hR : cx_fr Γ = 4 ∧ cx_lo Γ = 126) (hin : (cx_meth Γ).name = yX2_startText.name) : ∀ (n : Nat) (a0 : Nat) (x2 : Int32) (s0 : AS), OK Γ 34 [(0, .ref a0), (2, .int x2)] [] (fX2_startText_34 n a0 x2 s0) s0 := by
  intro n
  induction n with
  | zero => intro _ _ s0; exact OK.none
  | succ n ih =>
    intro a0 x2 s0
    rw [fX2_startText_34]
    refine ok_iload_n C 1 dX2_startText_34 rfl ?_
    refine ok_bipush C (v := 8) dX2_startText_35 (by decide) ?_
    refine ok_icmp_ge C 53 dX2_startText_37 (by decide) ?_ ?_
    · refine OK.sub (lv' := [(0, .ref a0)]) [0] rfl ?_
      exact oX2_startText_53 C T hn hR hin a0 s0
    · refine ok_aload_n C 0 dX2_startText_40 rfl ?_
      refine ok_getR C frX2_15_6 dX2_startText_41 (fun q1 => ?_)
      refine ok_iload_n C 1 dX2_startText_44 rfl ?_
      refine ok_iconst C (v := 0) dX2_startText_45 (by decide) ?_
      refine ok_zast C dX2_startText_46 (fun s2 _ => ?_)
      refine ok_iincL C 1 (c := 1) (fun v3 => [(2, .int v3), (0, .ref a0)]) dX2_startText_47 rfl rfl (by rw [hn]; decide) (fun _ => rfl) (fun v3 => ?_)
      refine ok_goto C 34 dX2_startText_50 (by decide) ?_
      refine OK.sub (lv' := [(0, .ref a0), (2, .int v3)]) [1, 0] rfl ?_
      exact ih a0 v3 s2
set_option maxHeartbeats 4000000 in
theorem oX2_startText {Γ : CX} (C : OKC Γ cX2_startText RX2 none) (T : ∀ z ∈ (cx_c Γ).exceptionTable.toList, False) (hn : cx_nL Γ = 3) (hR : cx_fr Γ = 4 ∧ cx_lo Γ = 126) (hin : (cx_meth Γ).name = yX2_startText.name) : ∀ (a0 : Nat) (x1 : Int32) (s0 : AS), OK Γ 0 [(0, .ref a0), (1, .int x1)] [] (fX2_startText a0 x1 s0) s0 := by
  intro a0 x1 s0
  unfold fX2_startText
  refine ok_aload_n C 0 dX2_startText_0 rfl ?_
  refine ok_iload_n C 1 dX2_startText_1 rfl ?_
  refine ok_aload_n C 0 dX2_startText_2 rfl ?_
  refine ok_getI C frX2_23_6 dX2_startText_3 (fun v1 => ?_)
  refine ok_mmin C mlX2_66 (by rw [hR.1]; decide) (by rw [hR.2]; exact Nat.le_of_ble_eq_true rfl) dX2_startText_6 ?_
  refine ok_lt (fun v2 => ?_)
  refine ok_putI C flX2_72_6 dX2_startText_9 (fun s3 _ => ?_)
  refine ok_aload_n C 0 dX2_startText_12 rfl ?_
  refine ok_iconst C (v := 0) dX2_startText_13 (by decide) ?_
  refine ok_putI C flX2_23_6 dX2_startText_14 (fun s4 _ => ?_)
  refine ok_aload_n C 0 dX2_startText_17 rfl ?_
  refine ok_iconst C (v := 0) dX2_startText_18 (by decide) ?_
  refine ok_putI C flX2_47_6 dX2_startText_19 (fun s5 _ => ?_)
  refine ok_aload_n C 0 dX2_startText_22 rfl ?_
  refine ok_iconst C (v := (-1)) dX2_startText_23 (by decide) ?_
  refine ok_putI C flX2_19_6 dX2_startText_24 (fun s6 _ => ?_)
  refine ok_aload_n C 0 dX2_startText_27 rfl ?_
  refine ok_iconst C (v := 0) dX2_startText_28 (by decide) ?_
  refine ok_putI C flX2_75_6 dX2_startText_29 (fun s7 _ => ?_)
  refine ok_iconst C (v := 0) dX2_startText_32 (by decide) ?_
  refine ok_istore_n C (i := 2) [(2, .int 0), (0, .ref a0), (1, .int x1)] dX2_startText_33 rfl (by rw [hn]; decide) rfl ?_
  refine OK.sub (lv' := [(0, .ref a0), (2, .int 0)]) [1, 0] rfl ?_
  exact oX2_startText_34 C T hn hR hin FU a0 0 s7
theorem ctX2_startText {l : Launch} (hl : l.stackTraces = false) {D : va_G} {dA : Nat → ClassId} {B0 : Nat} (a0 : Nat) (x1 : Int32) : Ct l D dA B0 yX2_startText (.code yX2_startText cX2_startText 3 (none) :: ax_ALL) 4 126 [.ref a0, .int x1] (fX2_startText a0 x1) :=
  Ct.of hl (by decide +kernel) (Nat.le_of_ble_eq_true rfl) fun Γ C _ _ _ _ e5 e6 e7 T hin => oX2_startText C T e5 ⟨e6, e7⟩ hin a0 x1 _
/-! ChaseLocker$Reader.isWord(Ljava/lang/String;)Z -/
def fX2_isWord_28  : Nat → Nat → Nat → Int32 → AS → Option AR
  | 0, _, _, _, _ => none
  | n + 1, a0, a1, x2, s0 =>
    cK s0 a1 (fJ0_length_8abf5 a1 s0) (qI (fun v1 s2 =>
    if v1 ≤ x2 then (
      rZ 1 s2)
    else (
      gI s2 a0 6 7 (fun v3 =>
      gI s2 a0 6 5 (fun v4 =>
      if v4 ≤ (v3 + x2) then (
        rZ 1 s2)
      else (
        gR s2 a0 6 0 (fun q5 =>
        gI s2 a0 6 7 (fun v6 =>
        aI s2 q5 100 (v6 + x2) (fun v7 =>
        cK s2 a1 (fJ0_charAt_5068e a1 x2 s2) (qI (fun v8 s9 =>
        if v7 = v8 then (
          lt (x2 + 1) (fun v10 =>
          fX2_isWord_28 n a0 a1 v10 s9))
        else (
          rZ 0 s9))))))))))))
def fX2_isWord (a0 : Nat) (a1 : Nat) (s0 : AS) : Option AR :=
  gI s0 a0 6 6 (fun v1 =>
  if v1 = (1 : Int32) then (
    gI s0 a0 6 8 (fun v2 =>
    gI s0 a0 6 7 (fun v3 =>
    cK s0 a1 (fJ0_length_8abf5 a1 s0) (qI (fun v4 s5 =>
    if (v2 - v3) = v4 then (
      fX2_isWord_28 FU a0 a1 0 s5)
    else (
      rZ 0 s5))))))
  else (
    rZ 0 s0))
set_option maxHeartbeats 4000000 in
theorem oX2_isWord_28 {Γ : CX} (C : OKC Γ cX2_isWord RX2 (some (.boolean))) (T : ∀ z ∈ (cx_c Γ).exceptionTable.toList, False) (hn : cx_nL Γ = 3) (hR : cx_fr Γ = 5 ∧ cx_lo Γ = 145) (hin : (cx_meth Γ).name = yX2_isWord.name) : ∀ (n : Nat) (a0 : Nat) (a1 : Nat) (x2 : Int32) (s0 : AS), OK Γ 28 [(0, .ref a0), (1, .ref a1), (2, .int x2)] [] (fX2_isWord_28 n a0 a1 x2 s0) s0 := by
  intro n
  induction n with
  | zero => intro _ _ _ s0; exact OK.none
  | succ n ih =>
    intro a0 a1 x2 s0
    rw [fX2_isWord_28]
    refine ok_iload_n C 2 dX2_isWord_28 rfl ?_
    refine ok_aload_n C 1 dX2_isWord_29 rfl ?_
    refine ok_callK C T [] (F := fJ0_length_8abf5 a1) (ctJ0_length_8abf5 (C.2.2.2.2.2.2.2.2.1) a1) vlX2_161 viJ0_length_8abf5 rfl rfl (by rw [hR.1, hR.2]; decide) (Nat.le_of_ble_eq_true rfl) dX2_isWord_30 (ok_qI fun v1 s2 => ?_)
    refine ok_icmp_ge C 76 dX2_isWord_33 (by decide) ?_ ?_
    · refine ok_iconst C (v := 1) dX2_isWord_76 (by decide) ?_
      exact ok_zreturn C dX2_isWord_77
    · refine ok_aload_n C 0 dX2_isWord_36 rfl ?_
      refine ok_getI C frX2_59_6 dX2_isWord_37 (fun v3 => ?_)
      refine ok_iload_n C 2 dX2_isWord_40 rfl ?_
      refine ok_iadd C dX2_isWord_41 ?_
      refine ok_aload_n C 0 dX2_isWord_42 rfl ?_
      refine ok_getI C frX2_72_6 dX2_isWord_43 (fun v4 => ?_)
      refine ok_icmp_ge C 76 dX2_isWord_46 (by decide) ?_ ?_
      · refine ok_iconst C (v := 1) dX2_isWord_76 (by decide) ?_
        exact ok_zreturn C dX2_isWord_77
      · refine ok_aload_n C 0 dX2_isWord_49 rfl ?_
        refine ok_getR C frX2_9_6 dX2_isWord_50 (fun q5 => ?_)
        refine ok_aload_n C 0 dX2_isWord_53 rfl ?_
        refine ok_getI C frX2_59_6 dX2_isWord_54 (fun v6 => ?_)
        refine ok_iload_n C 2 dX2_isWord_57 rfl ?_
        refine ok_iadd C dX2_isWord_58 ?_
        refine ok_iald C dX2_isWord_59 (fun v7 => ?_)
        refine ok_aload_n C 1 dX2_isWord_60 rfl ?_
        refine ok_iload_n C 2 dX2_isWord_61 rfl ?_
        refine ok_callK C T [.int x2] (F := fJ0_charAt_5068e a1 x2) (ctJ0_charAt_5068e (C.2.2.2.2.2.2.2.2.1) a1 x2) vlX2_166 viJ0_charAt_5068e rfl rfl (by rw [hR.1, hR.2]; decide) (Nat.le_of_ble_eq_true rfl) dX2_isWord_62 (ok_qI fun v8 s9 => ?_)
        refine ok_icmp_eq C 70 dX2_isWord_65 (by decide) ?_ ?_
        · refine ok_iincL C 2 (c := 1) (fun v10 => [(2, .int v10), (0, .ref a0), (1, .ref a1)]) dX2_isWord_70 rfl rfl (by rw [hn]; decide) (fun _ => rfl) (fun v10 => ?_)
          refine ok_goto C 28 dX2_isWord_73 (by decide) ?_
          refine OK.sub (lv' := [(0, .ref a0), (1, .ref a1), (2, .int v10)]) [1, 2, 0] rfl ?_
          exact ih a0 a1 v10 s9
        · refine ok_iconst C (v := 0) dX2_isWord_68 (by decide) ?_
          exact ok_zreturn C dX2_isWord_69
set_option maxHeartbeats 4000000 in
theorem oX2_isWord {Γ : CX} (C : OKC Γ cX2_isWord RX2 (some (.boolean))) (T : ∀ z ∈ (cx_c Γ).exceptionTable.toList, False) (hn : cx_nL Γ = 3) (hR : cx_fr Γ = 5 ∧ cx_lo Γ = 145) (hin : (cx_meth Γ).name = yX2_isWord.name) : ∀ (a0 : Nat) (a1 : Nat) (s0 : AS), OK Γ 0 [(0, .ref a0), (1, .ref a1)] [] (fX2_isWord a0 a1 s0) s0 := by
  intro a0 a1 s0
  unfold fX2_isWord
  refine ok_aload_n C 0 dX2_isWord_0 rfl ?_
  refine ok_getI C frX2_50_6 dX2_isWord_1 (fun v1 => ?_)
  refine ok_iconst C (v := 1) dX2_isWord_4 (by decide) ?_
  refine ok_icmp_ne C 24 dX2_isWord_5 (by decide) ?_ ?_
  · refine ok_iconst C (v := 0) dX2_isWord_24 (by decide) ?_
    exact ok_zreturn C dX2_isWord_25
  · refine ok_aload_n C 0 dX2_isWord_8 rfl ?_
    refine ok_getI C frX2_75_6 dX2_isWord_9 (fun v2 => ?_)
    refine ok_aload_n C 0 dX2_isWord_12 rfl ?_
    refine ok_getI C frX2_59_6 dX2_isWord_13 (fun v3 => ?_)
    refine ok_isub C dX2_isWord_16 ?_
    refine ok_aload_n C 1 dX2_isWord_17 rfl ?_
    refine ok_callK C T [] (F := fJ0_length_8abf5 a1) (ctJ0_length_8abf5 (C.2.2.2.2.2.2.2.2.1) a1) vlX2_161 viJ0_length_8abf5 rfl rfl (by rw [hR.1, hR.2]; decide) (Nat.le_of_ble_eq_true rfl) dX2_isWord_18 (ok_qI fun v4 s5 => ?_)
    refine ok_icmp_eq C 26 dX2_isWord_21 (by decide) ?_ ?_
    · refine ok_iconst C (v := 0) dX2_isWord_26 (by decide) ?_
      refine ok_istore_n C (i := 2) [(2, .int 0), (0, .ref a0), (1, .ref a1)] dX2_isWord_27 rfl (by rw [hn]; decide) rfl ?_
      refine OK.sub (lv' := [(0, .ref a0), (1, .ref a1), (2, .int 0)]) [1, 2, 0] rfl ?_
      exact oX2_isWord_28 C T hn hR hin FU a0 a1 0 s5
    · refine ok_iconst C (v := 0) dX2_isWord_24 (by decide) ?_
      exact ok_zreturn C dX2_isWord_25
theorem ctX2_isWord {l : Launch} (hl : l.stackTraces = false) {D : va_G} {dA : Nat → ClassId} {B0 : Nat} (a0 : Nat) (a1 : Nat) : Ct l D dA B0 yX2_isWord (.code yX2_isWord cX2_isWord 3 (some (.boolean)) :: ax_ALL) 5 145 [.ref a0, .ref a1] (fX2_isWord a0 a1) :=
  Ct.of hl (by decide +kernel) (Nat.le_of_ble_eq_true rfl) fun Γ C _ _ _ _ e5 e6 e7 T hin => oX2_isWord C T e5 ⟨e6, e7⟩ hin a0 a1 _
/-! ChaseLocker$Reader.fail(II)V -/
def fX2_fail (a0 : Nat) (x1 : Int32) (x2 : Int32) (s0 : AS) : Option AR :=
  gI s0 a0 6 3 (fun v1 =>
  if v1 = 0 then (
    sI s0 a0 6 3 x1 (fun s2 =>
    sI s2 a0 6 4 x2 (fun s3 =>
    some (.inl none, s3))))
  else (
    some (.inl none, s0)))
set_option maxHeartbeats 4000000 in
theorem oX2_fail {Γ : CX} (C : OKC Γ cX2_fail RX2 none) (T : ∀ z ∈ (cx_c Γ).exceptionTable.toList, False) (hn : cx_nL Γ = 3) (hR : cx_fr Γ = 1 ∧ cx_lo Γ = 60) (hin : (cx_meth Γ).name = yX2_fail.name) : ∀ (a0 : Nat) (x1 : Int32) (x2 : Int32) (s0 : AS), OK Γ 0 [(0, .ref a0), (1, .int x1), (2, .int x2)] [] (fX2_fail a0 x1 x2 s0) s0 := by
  intro a0 x1 x2 s0
  unfold fX2_fail
  refine ok_aload_n C 0 dX2_fail_0 rfl ?_
  refine ok_getI C frX2_47_6 dX2_fail_1 (fun v1 => ?_)
  refine ok_if_ne C 17 dX2_fail_4 (by decide) ?_ ?_
  · exact ok_vreturn C dX2_fail_17
  · refine ok_aload_n C 0 dX2_fail_7 rfl ?_
    refine ok_iload_n C 1 dX2_fail_8 rfl ?_
    refine ok_putI C flX2_47_6 dX2_fail_9 (fun s2 _ => ?_)
    refine ok_aload_n C 0 dX2_fail_12 rfl ?_
    refine ok_iload_n C 2 dX2_fail_13 rfl ?_
    refine ok_putI C flX2_19_6 dX2_fail_14 (fun s3 _ => ?_)
    exact ok_vreturn C dX2_fail_17
theorem ctX2_fail {l : Launch} (hl : l.stackTraces = false) {D : va_G} {dA : Nat → ClassId} {B0 : Nat} (a0 : Nat) (x1 : Int32) (x2 : Int32) : Ct l D dA B0 yX2_fail (.code yX2_fail cX2_fail 3 (none) :: ax_ALL) 1 60 [.ref a0, .int x1, .int x2] (fX2_fail a0 x1 x2) :=
  Ct.of hl (by decide +kernel) (Nat.le_of_ble_eq_true rfl) fun Γ C _ _ _ _ e5 e6 e7 T hin => oX2_fail C T e5 ⟨e6, e7⟩ hin a0 x1 x2 _
/-! ChaseLocker$Reader.takeWord(Ljava/lang/String;)V -/
def fX2_takeWord_17  (a0 : Nat) (s0 : AS) : Option AR :=
  gI s0 a0 6 3 (fun v1 =>
  if v1 = 0 then (
    cV s0 a0 6 (fX2_advance a0 s0) (qV (fun s2 =>
    some (.inl none, s2))))
  else (
    some (.inl none, s0)))
def fX2_takeWord (a0 : Nat) (a1 : Nat) (s0 : AS) : Option AR :=
  cV s0 a0 6 (fX2_isWord a0 a1 s0) (qI (fun v1 s2 =>
  if v1 = 0 then (
    gI s2 a0 6 7 (fun v3 =>
    cV s2 a0 6 (fX2_fail a0 1 v3 s2) (qV (fun s4 =>
    fX2_takeWord_17 a0 s4))))
  else (
    fX2_takeWord_17 a0 s2)))
set_option maxHeartbeats 4000000 in
theorem oX2_takeWord_17 {Γ : CX} (C : OKC Γ cX2_takeWord RX2 none) (T : ∀ z ∈ (cx_c Γ).exceptionTable.toList, False) (hn : cx_nL Γ = 2) (hR : cx_fr Γ = 6 ∧ cx_lo Γ = 167) (hin : (cx_meth Γ).name = yX2_takeWord.name) : ∀ (a0 : Nat) (s0 : AS), OK Γ 17 [(0, .ref a0)] [] (fX2_takeWord_17  a0 s0) s0 := by
  intro a0 s0
  unfold fX2_takeWord_17
  refine ok_aload_n C 0 dX2_takeWord_17 rfl ?_
  refine ok_getI C frX2_47_6 dX2_takeWord_18 (fun v1 => ?_)
  refine ok_if_ne C 28 dX2_takeWord_21 (by decide) ?_ ?_
  · exact ok_vreturn C dX2_takeWord_28
  · refine ok_aload_n C 0 dX2_takeWord_24 rfl ?_
    refine ok_callV C T [] (F := fX2_advance a0) (ctX2_advance (C.2.2.2.2.2.2.2.2.1) a0) vlX2_53 viX2_advance rfl rfl (by decide) rfl (by rw [hR.1, hR.2]; decide) (Nat.le_of_ble_eq_true rfl) dX2_takeWord_25 (ok_qV fun s2 => ?_)
    exact ok_vreturn C dX2_takeWord_28
set_option maxHeartbeats 4000000 in
theorem oX2_takeWord {Γ : CX} (C : OKC Γ cX2_takeWord RX2 none) (T : ∀ z ∈ (cx_c Γ).exceptionTable.toList, False) (hn : cx_nL Γ = 2) (hR : cx_fr Γ = 6 ∧ cx_lo Γ = 167) (hin : (cx_meth Γ).name = yX2_takeWord.name) : ∀ (a0 : Nat) (a1 : Nat) (s0 : AS), OK Γ 0 [(0, .ref a0), (1, .ref a1)] [] (fX2_takeWord a0 a1 s0) s0 := by
  intro a0 a1 s0
  unfold fX2_takeWord
  refine ok_aload_n C 0 dX2_takeWord_0 rfl ?_
  refine ok_aload_n C 1 dX2_takeWord_1 rfl ?_
  refine ok_callV C T [.ref a1] (F := fX2_isWord a0 a1) (ctX2_isWord (C.2.2.2.2.2.2.2.2.1) a0 a1) vlX2_116 viX2_isWord rfl rfl (by decide) rfl (by rw [hR.1, hR.2]; decide) (Nat.le_of_ble_eq_true rfl) dX2_takeWord_2 (ok_qI fun v1 s2 => ?_)
  refine ok_if_ne C 17 dX2_takeWord_5 (by decide) ?_ ?_
  · refine OK.sub (lv' := [(0, .ref a0)]) [0] rfl ?_
    exact oX2_takeWord_17 C T hn hR hin a0 s2
  · refine ok_aload_n C 0 dX2_takeWord_8 rfl ?_
    refine ok_iconst C (v := 1) dX2_takeWord_9 (by decide) ?_
    refine ok_aload_n C 0 dX2_takeWord_10 rfl ?_
    refine ok_getI C frX2_59_6 dX2_takeWord_11 (fun v3 => ?_)
    refine ok_callV C T [.int 1, .int v3] (F := fX2_fail a0 1 v3) (ctX2_fail (C.2.2.2.2.2.2.2.2.1) a0 1 v3) vlX2_62 viX2_fail rfl rfl (by decide) rfl (by rw [hR.1, hR.2]; decide) (Nat.le_of_ble_eq_true rfl) dX2_takeWord_14 (ok_qV fun s4 => ?_)
    refine OK.sub (lv' := [(0, .ref a0)]) [0] rfl ?_
    exact oX2_takeWord_17 C T hn hR hin a0 s4
theorem ctX2_takeWord {l : Launch} (hl : l.stackTraces = false) {D : va_G} {dA : Nat → ClassId} {B0 : Nat} (a0 : Nat) (a1 : Nat) : Ct l D dA B0 yX2_takeWord (.code yX2_takeWord cX2_takeWord 2 (none) :: ax_ALL) 6 167 [.ref a0, .ref a1] (fX2_takeWord a0 a1) :=
  Ct.of hl (by decide +kernel) (Nat.le_of_ble_eq_true rfl) fun Γ C _ _ _ _ e5 e6 e7 T hin => oX2_takeWord C T e5 ⟨e6, e7⟩ hin a0 a1 _
/-! ChaseLocker$Reader.numberHere()I -/
def fX2_numberHere_7  : Nat → Nat → Int32 → Int32 → AS → Option AR
  | 0, _, _, _, _ => none
  | n + 1, a0, x1, x2, s0 =>
    gI s0 a0 6 8 (fun v1 =>
    if v1 ≤ x2 then (
      some (.inl (some (.int x1)), s0))
    else (
      gI s0 a0 6 5 (fun v2 =>
      if v2 ≤ x2 then (
        some (.inl (some (.int x1)), s0))
      else (
        gR s0 a0 6 0 (fun q3 =>
        aI s0 q3 100 x2 (fun v4 =>
        lt (((x1 * 10) + v4) - 48) (fun v5 =>
        lt (x2 + 1) (fun v6 =>
        fX2_numberHere_7 n a0 v5 v6 s0))))))))
def fX2_numberHere (a0 : Nat) (s0 : AS) : Option AR :=
  gI s0 a0 6 7 (fun v1 =>
  fX2_numberHere_7 FU a0 0 v1 s0)
set_option maxHeartbeats 4000000 in
theorem oX2_numberHere_7 {Γ : CX} (C : OKC Γ cX2_numberHere RX2 (some (.int))) (T : ∀ z ∈ (cx_c Γ).exceptionTable.toList, False) (hn : cx_nL Γ = 3) (hR : cx_fr Γ = 1 ∧ cx_lo Γ = 60) (hin : (cx_meth Γ).name = yX2_numberHere.name) : ∀ (n : Nat) (a0 : Nat) (x1 : Int32) (x2 : Int32) (s0 : AS), OK Γ 7 [(0, .ref a0), (1, .int x1), (2, .int x2)] [] (fX2_numberHere_7 n a0 x1 x2 s0) s0 := by
  intro n
  induction n with
  | zero => intro _ _ _ s0; exact OK.none
  | succ n ih =>
    intro a0 x1 x2 s0
    rw [fX2_numberHere_7]
    refine ok_iload_n C 2 dX2_numberHere_7 rfl ?_
    refine ok_aload_n C 0 dX2_numberHere_8 rfl ?_
    refine ok_getI C frX2_75_6 dX2_numberHere_9 (fun v1 => ?_)
    refine ok_icmp_ge C 44 dX2_numberHere_12 (by decide) ?_ ?_
    · refine ok_iload_n C 1 dX2_numberHere_44 rfl ?_
      exact ok_ireturn C dX2_numberHere_45
    · refine ok_iload_n C 2 dX2_numberHere_15 rfl ?_
      refine ok_aload_n C 0 dX2_numberHere_16 rfl ?_
      refine ok_getI C frX2_72_6 dX2_numberHere_17 (fun v2 => ?_)
      refine ok_icmp_ge C 44 dX2_numberHere_20 (by decide) ?_ ?_
      · refine ok_iload_n C 1 dX2_numberHere_44 rfl ?_
        exact ok_ireturn C dX2_numberHere_45
      · refine ok_iload_n C 1 dX2_numberHere_23 rfl ?_
        refine ok_bipush C (v := 10) dX2_numberHere_24 (by decide) ?_
        refine ok_imul C dX2_numberHere_26 ?_
        refine ok_aload_n C 0 dX2_numberHere_27 rfl ?_
        refine ok_getR C frX2_9_6 dX2_numberHere_28 (fun q3 => ?_)
        refine ok_iload_n C 2 dX2_numberHere_31 rfl ?_
        refine ok_iald C dX2_numberHere_32 (fun v4 => ?_)
        refine ok_iadd C dX2_numberHere_33 ?_
        refine ok_bipush C (v := 48) dX2_numberHere_34 (by decide) ?_
        refine ok_isub C dX2_numberHere_36 ?_
        refine ok_lt (fun v5 => ?_)
        refine ok_istore_n C (i := 1) [(1, .int v5), (0, .ref a0), (2, .int x2)] dX2_numberHere_37 rfl (by rw [hn]; decide) rfl ?_
        refine ok_iincL C 2 (c := 1) (fun v6 => [(2, .int v6), (1, .int v5), (0, .ref a0)]) dX2_numberHere_38 rfl rfl (by rw [hn]; decide) (fun _ => rfl) (fun v6 => ?_)
        refine ok_goto C 7 dX2_numberHere_41 (by decide) ?_
        refine OK.sub (lv' := [(0, .ref a0), (1, .int v5), (2, .int v6)]) [2, 1, 0] rfl ?_
        exact ih a0 v5 v6 s0
set_option maxHeartbeats 4000000 in
theorem oX2_numberHere {Γ : CX} (C : OKC Γ cX2_numberHere RX2 (some (.int))) (T : ∀ z ∈ (cx_c Γ).exceptionTable.toList, False) (hn : cx_nL Γ = 3) (hR : cx_fr Γ = 1 ∧ cx_lo Γ = 60) (hin : (cx_meth Γ).name = yX2_numberHere.name) : ∀ (a0 : Nat) (s0 : AS), OK Γ 0 [(0, .ref a0)] [] (fX2_numberHere a0 s0) s0 := by
  intro a0 s0
  unfold fX2_numberHere
  refine ok_iconst C (v := 0) dX2_numberHere_0 (by decide) ?_
  refine ok_istore_n C (i := 1) [(1, .int 0), (0, .ref a0)] dX2_numberHere_1 rfl (by rw [hn]; decide) rfl ?_
  refine ok_aload_n C 1 dX2_numberHere_2 rfl ?_
  refine ok_getI C frX2_59_6 dX2_numberHere_3 (fun v1 => ?_)
  refine ok_istore_n C (i := 2) [(2, .int v1), (1, .int 0), (0, .ref a0)] dX2_numberHere_6 rfl (by rw [hn]; decide) rfl ?_
  refine OK.sub (lv' := [(0, .ref a0), (1, .int 0), (2, .int v1)]) [2, 1, 0] rfl ?_
  exact oX2_numberHere_7 C T hn hR hin FU a0 0 v1 s0
theorem ctX2_numberHere {l : Launch} (hl : l.stackTraces = false) {D : va_G} {dA : Nat → ClassId} {B0 : Nat} (a0 : Nat) : Ct l D dA B0 yX2_numberHere (.code yX2_numberHere cX2_numberHere 3 (some (.int)) :: ax_ALL) 1 60 [.ref a0] (fX2_numberHere a0) :=
  Ct.of hl (by decide +kernel) (Nat.le_of_ble_eq_true rfl) fun Γ C _ _ _ _ e5 e6 e7 T hin => oX2_numberHere C T e5 ⟨e6, e7⟩ hin a0 _
/-! ChaseLocker$Reader.takeNumber(II)I -/
def fX2_takeNumber_41  (a0 : Nat) (s0 : AS) : Option AR :=
  gI s0 a0 6 7 (fun v1 =>
  cV s0 a0 6 (fX2_fail a0 2 v1 s0) (qV (fun s2 =>
  some (.inl (some (.int ((-1)))), s2))))
def fX2_takeNumber_17  (a0 : Nat) (x1 : Int32) (x2 : Int32) (s0 : AS) : Option AR :=
  gI s0 a0 6 3 (fun v1 =>
  if v1 = 0 then (
    cV s0 a0 6 (fX2_numberHere a0 s0) (qI (fun v2 s3 =>
    if v2 < x1 then (
      fX2_takeNumber_41 a0 s3)
    else (
      if v2 ≤ x2 then (
        cV s3 a0 6 (fX2_advance a0 s3) (qV (fun s4 =>
        some (.inl (some (.int v2)), s4))))
      else (
        fX2_takeNumber_41 a0 s3)))))
  else (
    some (.inl (some (.int ((-1)))), s0)))
def fX2_takeNumber (a0 : Nat) (x1 : Int32) (x2 : Int32) (s0 : AS) : Option AR :=
  gI s0 a0 6 6 (fun v1 =>
  if v1 = (2 : Int32) then (
    fX2_takeNumber_17 a0 x1 x2 s0)
  else (
    gI s0 a0 6 7 (fun v2 =>
    cV s0 a0 6 (fX2_fail a0 1 v2 s0) (qV (fun s3 =>
    fX2_takeNumber_17 a0 x1 x2 s3)))))
set_option maxHeartbeats 4000000 in
theorem oX2_takeNumber_41 {Γ : CX} (C : OKC Γ cX2_takeNumber RX2 (some (.int))) (T : ∀ z ∈ (cx_c Γ).exceptionTable.toList, False) (hn : cx_nL Γ = 4) (hR : cx_fr Γ = 4 ∧ cx_lo Γ = 126) (hin : (cx_meth Γ).name = yX2_takeNumber.name) : ∀ (a0 : Nat) (s0 : AS), OK Γ 41 [(0, .ref a0)] [] (fX2_takeNumber_41  a0 s0) s0 := by
  intro a0 s0
  unfold fX2_takeNumber_41
  refine ok_aload_n C 0 dX2_takeNumber_41 rfl ?_
  refine ok_iconst C (v := 2) dX2_takeNumber_42 (by decide) ?_
  refine ok_aload_n C 0 dX2_takeNumber_43 rfl ?_
  refine ok_getI C frX2_59_6 dX2_takeNumber_44 (fun v1 => ?_)
  refine ok_callV C T [.int 2, .int v1] (F := fX2_fail a0 2 v1) (ctX2_fail (C.2.2.2.2.2.2.2.2.1) a0 2 v1) vlX2_62 viX2_fail rfl rfl (by decide) rfl (by rw [hR.1, hR.2]; decide) (Nat.le_of_ble_eq_true rfl) dX2_takeNumber_47 (ok_qV fun s2 => ?_)
  refine ok_iconst C (v := (-1)) dX2_takeNumber_50 (by decide) ?_
  exact ok_ireturn C dX2_takeNumber_51
set_option maxHeartbeats 4000000 in
theorem oX2_takeNumber_17 {Γ : CX} (C : OKC Γ cX2_takeNumber RX2 (some (.int))) (T : ∀ z ∈ (cx_c Γ).exceptionTable.toList, False) (hn : cx_nL Γ = 4) (hR : cx_fr Γ = 4 ∧ cx_lo Γ = 126) (hin : (cx_meth Γ).name = yX2_takeNumber.name) : ∀ (a0 : Nat) (x1 : Int32) (x2 : Int32) (s0 : AS), OK Γ 17 [(0, .ref a0), (1, .int x1), (2, .int x2)] [] (fX2_takeNumber_17  a0 x1 x2 s0) s0 := by
  intro a0 x1 x2 s0
  unfold fX2_takeNumber_17
  refine ok_aload_n C 0 dX2_takeNumber_17 rfl ?_
  refine ok_getI C frX2_47_6 dX2_takeNumber_18 (fun v1 => ?_)
  refine ok_if_eq C 26 dX2_takeNumber_21 (by decide) ?_ ?_
  · refine ok_aload_n C 0 dX2_takeNumber_26 rfl ?_
    refine ok_callV C T [] (F := fX2_numberHere a0) (ctX2_numberHere (C.2.2.2.2.2.2.2.2.1) a0) vlX2_157 viX2_numberHere rfl rfl (by decide) rfl (by rw [hR.1, hR.2]; decide) (Nat.le_of_ble_eq_true rfl) dX2_takeNumber_27 (ok_qI fun v2 s3 => ?_)
    refine ok_istore_n C (i := 3) [(3, .int v2), (0, .ref a0), (1, .int x1), (2, .int x2)] dX2_takeNumber_30 rfl (by rw [hn]; decide) rfl ?_
    refine ok_iload_n C 0 dX2_takeNumber_31 rfl ?_
    refine ok_iload_n C 2 dX2_takeNumber_32 rfl ?_
    refine ok_icmp_lt C 41 dX2_takeNumber_33 (by decide) ?_ ?_
    · refine OK.sub (lv' := [(0, .ref a0)]) [1] rfl ?_
      exact oX2_takeNumber_41 C T hn hR hin a0 s3
    · refine ok_iload_n C 0 dX2_takeNumber_36 rfl ?_
      refine ok_iload_n C 3 dX2_takeNumber_37 rfl ?_
      refine ok_icmp_le C 52 dX2_takeNumber_38 (by decide) ?_ ?_
      · refine ok_aload_n C 1 dX2_takeNumber_52 rfl ?_
        refine ok_callV C T [] (F := fX2_advance a0) (ctX2_advance (C.2.2.2.2.2.2.2.2.1) a0) vlX2_53 viX2_advance rfl rfl (by decide) rfl (by rw [hR.1, hR.2]; decide) (Nat.le_of_ble_eq_true rfl) dX2_takeNumber_53 (ok_qV fun s4 => ?_)
        refine ok_iload_n C 0 dX2_takeNumber_56 rfl ?_
        exact ok_ireturn C dX2_takeNumber_57
      · refine OK.sub (lv' := [(0, .ref a0)]) [1] rfl ?_
        exact oX2_takeNumber_41 C T hn hR hin a0 s3
  · refine ok_iconst C (v := (-1)) dX2_takeNumber_24 (by decide) ?_
    exact ok_ireturn C dX2_takeNumber_25
set_option maxHeartbeats 4000000 in
theorem oX2_takeNumber {Γ : CX} (C : OKC Γ cX2_takeNumber RX2 (some (.int))) (T : ∀ z ∈ (cx_c Γ).exceptionTable.toList, False) (hn : cx_nL Γ = 4) (hR : cx_fr Γ = 4 ∧ cx_lo Γ = 126) (hin : (cx_meth Γ).name = yX2_takeNumber.name) : ∀ (a0 : Nat) (x1 : Int32) (x2 : Int32) (s0 : AS), OK Γ 0 [(0, .ref a0), (1, .int x1), (2, .int x2)] [] (fX2_takeNumber a0 x1 x2 s0) s0 := by
  intro a0 x1 x2 s0
  unfold fX2_takeNumber
  refine ok_aload_n C 0 dX2_takeNumber_0 rfl ?_
  refine ok_getI C frX2_50_6 dX2_takeNumber_1 (fun v1 => ?_)
  refine ok_iconst C (v := 2) dX2_takeNumber_4 (by decide) ?_
  refine ok_icmp_eq C 17 dX2_takeNumber_5 (by decide) ?_ ?_
  · exact oX2_takeNumber_17 C T hn hR hin a0 x1 x2 s0
  · refine ok_aload_n C 0 dX2_takeNumber_8 rfl ?_
    refine ok_iconst C (v := 1) dX2_takeNumber_9 (by decide) ?_
    refine ok_aload_n C 0 dX2_takeNumber_10 rfl ?_
    refine ok_getI C frX2_59_6 dX2_takeNumber_11 (fun v2 => ?_)
    refine ok_callV C T [.int 1, .int v2] (F := fX2_fail a0 1 v2) (ctX2_fail (C.2.2.2.2.2.2.2.2.1) a0 1 v2) vlX2_62 viX2_fail rfl rfl (by decide) rfl (by rw [hR.1, hR.2]; decide) (Nat.le_of_ble_eq_true rfl) dX2_takeNumber_14 (ok_qV fun s3 => ?_)
    exact oX2_takeNumber_17 C T hn hR hin a0 x1 x2 s3
theorem ctX2_takeNumber {l : Launch} (hl : l.stackTraces = false) {D : va_G} {dA : Nat → ClassId} {B0 : Nat} (a0 : Nat) (x1 : Int32) (x2 : Int32) : Ct l D dA B0 yX2_takeNumber (.code yX2_takeNumber cX2_takeNumber 4 (some (.int)) :: ax_ALL) 4 126 [.ref a0, .int x1, .int x2] (fX2_takeNumber a0 x1 x2) :=
  Ct.of hl (by decide +kernel) (Nat.le_of_ble_eq_true rfl) fun Γ C _ _ _ _ e5 e6 e7 T hin => oX2_takeNumber C T e5 ⟨e6, e7⟩ hin a0 x1 x2 _
/-! ChaseLocker$Reader.takeSemicolon()V -/
def fX2_takeSemicolon_17  (a0 : Nat) (s0 : AS) : Option AR :=
  gI s0 a0 6 3 (fun v1 =>
  if v1 = 0 then (
    cV s0 a0 6 (fX2_advance a0 s0) (qV (fun s2 =>
    some (.inl none, s2))))
  else (
    some (.inl none, s0)))
def fX2_takeSemicolon (a0 : Nat) (s0 : AS) : Option AR :=
  gI s0 a0 6 6 (fun v1 =>
  if v1 = (3 : Int32) then (
    fX2_takeSemicolon_17 a0 s0)
  else (
    gI s0 a0 6 7 (fun v2 =>
    cV s0 a0 6 (fX2_fail a0 1 v2 s0) (qV (fun s3 =>
    fX2_takeSemicolon_17 a0 s3)))))
set_option maxHeartbeats 4000000 in
theorem oX2_takeSemicolon_17 {Γ : CX} (C : OKC Γ cX2_takeSemicolon RX2 none) (T : ∀ z ∈ (cx_c Γ).exceptionTable.toList, False) (hn : cx_nL Γ = 1) (hR : cx_fr Γ = 4 ∧ cx_lo Γ = 126) (hin : (cx_meth Γ).name = yX2_takeSemicolon.name) : ∀ (a0 : Nat) (s0 : AS), OK Γ 17 [(0, .ref a0)] [] (fX2_takeSemicolon_17  a0 s0) s0 := by
  intro a0 s0
  unfold fX2_takeSemicolon_17
  refine ok_aload_n C 0 dX2_takeSemicolon_17 rfl ?_
  refine ok_getI C frX2_47_6 dX2_takeSemicolon_18 (fun v1 => ?_)
  refine ok_if_ne C 28 dX2_takeSemicolon_21 (by decide) ?_ ?_
  · exact ok_vreturn C dX2_takeSemicolon_28
  · refine ok_aload_n C 0 dX2_takeSemicolon_24 rfl ?_
    refine ok_callV C T [] (F := fX2_advance a0) (ctX2_advance (C.2.2.2.2.2.2.2.2.1) a0) vlX2_53 viX2_advance rfl rfl (by decide) rfl (by rw [hR.1, hR.2]; decide) (Nat.le_of_ble_eq_true rfl) dX2_takeSemicolon_25 (ok_qV fun s2 => ?_)
    exact ok_vreturn C dX2_takeSemicolon_28
set_option maxHeartbeats 4000000 in
theorem oX2_takeSemicolon {Γ : CX} (C : OKC Γ cX2_takeSemicolon RX2 none) (T : ∀ z ∈ (cx_c Γ).exceptionTable.toList, False) (hn : cx_nL Γ = 1) (hR : cx_fr Γ = 4 ∧ cx_lo Γ = 126) (hin : (cx_meth Γ).name = yX2_takeSemicolon.name) : ∀ (a0 : Nat) (s0 : AS), OK Γ 0 [(0, .ref a0)] [] (fX2_takeSemicolon a0 s0) s0 := by
  intro a0 s0
  unfold fX2_takeSemicolon
  refine ok_aload_n C 0 dX2_takeSemicolon_0 rfl ?_
  refine ok_getI C frX2_50_6 dX2_takeSemicolon_1 (fun v1 => ?_)
  refine ok_iconst C (v := 3) dX2_takeSemicolon_4 (by decide) ?_
  refine ok_icmp_eq C 17 dX2_takeSemicolon_5 (by decide) ?_ ?_
  · exact oX2_takeSemicolon_17 C T hn hR hin a0 s0
  · refine ok_aload_n C 0 dX2_takeSemicolon_8 rfl ?_
    refine ok_iconst C (v := 1) dX2_takeSemicolon_9 (by decide) ?_
    refine ok_aload_n C 0 dX2_takeSemicolon_10 rfl ?_
    refine ok_getI C frX2_59_6 dX2_takeSemicolon_11 (fun v2 => ?_)
    refine ok_callV C T [.int 1, .int v2] (F := fX2_fail a0 1 v2) (ctX2_fail (C.2.2.2.2.2.2.2.2.1) a0 1 v2) vlX2_62 viX2_fail rfl rfl (by decide) rfl (by rw [hR.1, hR.2]; decide) (Nat.le_of_ble_eq_true rfl) dX2_takeSemicolon_14 (ok_qV fun s3 => ?_)
    exact oX2_takeSemicolon_17 C T hn hR hin a0 s3
theorem ctX2_takeSemicolon {l : Launch} (hl : l.stackTraces = false) {D : va_G} {dA : Nat → ClassId} {B0 : Nat} (a0 : Nat) : Ct l D dA B0 yX2_takeSemicolon (.code yX2_takeSemicolon cX2_takeSemicolon 1 (none) :: ax_ALL) 4 126 [.ref a0] (fX2_takeSemicolon a0) :=
  Ct.of hl (by decide +kernel) (Nat.le_of_ble_eq_true rfl) fun Γ C _ _ _ _ e5 e6 e7 T hin => oX2_takeSemicolon C T e5 ⟨e6, e7⟩ hin a0 _
/-! ChaseLocker$Reader.readHead(LChaseLocker$Plan;LChaseLocker$State;)V -/
def fX2_readHead (a0 : Nat) (a1 : Nat) (a2 : Nat) (s0 : AS) : Option AR :=
  cV s0 a0 6 (fX2_takeWord a0 1000026 s0) (qV (fun s1 =>
  cV s1 a0 6 (fX2_takeNumber a0 10 500 s1) (qI (fun v2 s3 =>
  sI s3 a1 5 0 v2 (fun s4 =>
  cV s4 a0 6 (fX2_takeNumber a0 1 8 s4) (qI (fun v5 s6 =>
  sI s6 a1 5 1 v5 (fun s7 =>
  cV s7 a0 6 (fX2_takeNumber a0 1 50 s7) (qI (fun v8 s9 =>
  sI s9 a1 5 2 v8 (fun s10 =>
  cV s10 a0 6 (fX2_takeNumber a0 0 20 s10) (qI (fun v11 s12 =>
  sI s12 a1 5 3 v11 (fun s13 =>
  cV s13 a0 6 (fX2_takeNumber a0 0 20 s13) (qI (fun v14 s15 =>
  sI s15 a2 9 2 v14 (fun s16 =>
  cV s16 a0 6 (fX2_takeSemicolon a0 s16) (qV (fun s17 =>
  cV s17 a0 6 (fX2_takeWord a0 1000027 s17) (qV (fun s18 =>
  cV s18 a0 6 (fX2_takeNumber a0 0 9 s18) (qI (fun v19 s20 =>
  sI s20 a1 5 4 v19 (fun s21 =>
  cV s21 a0 6 (fX2_takeNumber a0 0 9 s21) (qI (fun v22 s23 =>
  sI s23 a1 5 5 v22 (fun s24 =>
  cV s24 a0 6 (fX2_takeNumber a0 1 999 s24) (qI (fun v25 s26 =>
  sI s26 a1 5 6 v25 (fun s27 =>
  some (.inl none, s27)))))))))))))))))))))))))))))))
set_option maxHeartbeats 4000000 in
theorem oX2_readHead {Γ : CX} (C : OKC Γ cX2_readHead RX2 none) (T : ∀ z ∈ (cx_c Γ).exceptionTable.toList, False) (hn : cx_nL Γ = 3) (hR : cx_fr Γ = 7 ∧ cx_lo Γ = 188) (hin : (cx_meth Γ).name = yX2_readHead.name) : ∀ (a0 : Nat) (a1 : Nat) (a2 : Nat) (s0 : AS), OK Γ 0 [(0, .ref a0), (1, .ref a1), (2, .ref a2)] [] (fX2_readHead a0 a1 a2 s0) s0 := by
  intro a0 a1 a2 s0
  unfold fX2_readHead
  refine ok_aload_n C 0 dX2_readHead_0 rfl ?_
  refine ok_ldcS C 26 rfl dX2_readHead_1 ?_
  refine ok_callV C T [.ref 1000026] (F := fX2_takeWord a0 1000026) (ctX2_takeWord (C.2.2.2.2.2.2.2.2.1) a0 1000026) vlX2_80 viX2_takeWord rfl rfl (by decide) rfl (by rw [hR.1, hR.2]; decide) (Nat.le_of_ble_eq_true rfl) dX2_readHead_3 (ok_qV fun s1 => ?_)
  refine ok_aload_n C 1 dX2_readHead_6 rfl ?_
  refine ok_aload_n C 0 dX2_readHead_7 rfl ?_
  refine ok_bipush C (v := 10) dX2_readHead_8 (by decide) ?_
  refine ok_sipush C (v := 500) dX2_readHead_10 (by decide) ?_
  refine ok_callV C T [.int 10, .int 500] (F := fX2_takeNumber a0 10 500) (ctX2_takeNumber (C.2.2.2.2.2.2.2.2.1) a0 10 500) vlX2_84 viX2_takeNumber rfl rfl (by decide) rfl (by rw [hR.1, hR.2]; decide) (Nat.le_of_ble_eq_true rfl) dX2_readHead_13 (ok_qI fun v2 s3 => ?_)
  refine ok_putI C flX2_87_5 dX2_readHead_16 (fun s4 _ => ?_)
  refine ok_aload_n C 1 dX2_readHead_19 rfl ?_
  refine ok_aload_n C 0 dX2_readHead_20 rfl ?_
  refine ok_iconst C (v := 1) dX2_readHead_21 (by decide) ?_
  refine ok_bipush C (v := 8) dX2_readHead_22 (by decide) ?_
  refine ok_callV C T [.int 1, .int 8] (F := fX2_takeNumber a0 1 8) (ctX2_takeNumber (C.2.2.2.2.2.2.2.2.1) a0 1 8) vlX2_84 viX2_takeNumber rfl rfl (by decide) rfl (by rw [hR.1, hR.2]; decide) (Nat.le_of_ble_eq_true rfl) dX2_readHead_24 (ok_qI fun v5 s6 => ?_)
  refine ok_putI C flX2_88_5 dX2_readHead_27 (fun s7 _ => ?_)
  refine ok_aload_n C 1 dX2_readHead_30 rfl ?_
  refine ok_aload_n C 0 dX2_readHead_31 rfl ?_
  refine ok_iconst C (v := 1) dX2_readHead_32 (by decide) ?_
  refine ok_bipush C (v := 50) dX2_readHead_33 (by decide) ?_
  refine ok_callV C T [.int 1, .int 50] (F := fX2_takeNumber a0 1 50) (ctX2_takeNumber (C.2.2.2.2.2.2.2.2.1) a0 1 50) vlX2_84 viX2_takeNumber rfl rfl (by decide) rfl (by rw [hR.1, hR.2]; decide) (Nat.le_of_ble_eq_true rfl) dX2_readHead_35 (ok_qI fun v8 s9 => ?_)
  refine ok_putI C flX2_91_5 dX2_readHead_38 (fun s10 _ => ?_)
  refine ok_aload_n C 1 dX2_readHead_41 rfl ?_
  refine ok_aload_n C 0 dX2_readHead_42 rfl ?_
  refine ok_iconst C (v := 0) dX2_readHead_43 (by decide) ?_
  refine ok_bipush C (v := 20) dX2_readHead_44 (by decide) ?_
  refine ok_callV C T [.int 0, .int 20] (F := fX2_takeNumber a0 0 20) (ctX2_takeNumber (C.2.2.2.2.2.2.2.2.1) a0 0 20) vlX2_84 viX2_takeNumber rfl rfl (by decide) rfl (by rw [hR.1, hR.2]; decide) (Nat.le_of_ble_eq_true rfl) dX2_readHead_46 (ok_qI fun v11 s12 => ?_)
  refine ok_putI C flX2_94_5 dX2_readHead_49 (fun s13 _ => ?_)
  refine ok_aload_n C 2 dX2_readHead_52 rfl ?_
  refine ok_aload_n C 0 dX2_readHead_53 rfl ?_
  refine ok_iconst C (v := 0) dX2_readHead_54 (by decide) ?_
  refine ok_bipush C (v := 20) dX2_readHead_55 (by decide) ?_
  refine ok_callV C T [.int 0, .int 20] (F := fX2_takeNumber a0 0 20) (ctX2_takeNumber (C.2.2.2.2.2.2.2.2.1) a0 0 20) vlX2_84 viX2_takeNumber rfl rfl (by decide) rfl (by rw [hR.1, hR.2]; decide) (Nat.le_of_ble_eq_true rfl) dX2_readHead_57 (ok_qI fun v14 s15 => ?_)
  refine ok_putI C flX2_97_9 dX2_readHead_60 (fun s16 _ => ?_)
  refine ok_aload_n C 0 dX2_readHead_63 rfl ?_
  refine ok_callV C T [] (F := fX2_takeSemicolon a0) (ctX2_takeSemicolon (C.2.2.2.2.2.2.2.2.1) a0) vlX2_100 viX2_takeSemicolon rfl rfl (by decide) rfl (by rw [hR.1, hR.2]; decide) (Nat.le_of_ble_eq_true rfl) dX2_readHead_64 (ok_qV fun s17 => ?_)
  refine ok_aload_n C 0 dX2_readHead_67 rfl ?_
  refine ok_ldcS C 27 rfl dX2_readHead_68 ?_
  refine ok_callV C T [.ref 1000027] (F := fX2_takeWord a0 1000027) (ctX2_takeWord (C.2.2.2.2.2.2.2.2.1) a0 1000027) vlX2_80 viX2_takeWord rfl rfl (by decide) rfl (by rw [hR.1, hR.2]; decide) (Nat.le_of_ble_eq_true rfl) dX2_readHead_70 (ok_qV fun s18 => ?_)
  refine ok_aload_n C 1 dX2_readHead_73 rfl ?_
  refine ok_aload_n C 0 dX2_readHead_74 rfl ?_
  refine ok_iconst C (v := 0) dX2_readHead_75 (by decide) ?_
  refine ok_bipush C (v := 9) dX2_readHead_76 (by decide) ?_
  refine ok_callV C T [.int 0, .int 9] (F := fX2_takeNumber a0 0 9) (ctX2_takeNumber (C.2.2.2.2.2.2.2.2.1) a0 0 9) vlX2_84 viX2_takeNumber rfl rfl (by decide) rfl (by rw [hR.1, hR.2]; decide) (Nat.le_of_ble_eq_true rfl) dX2_readHead_78 (ok_qI fun v19 s20 => ?_)
  refine ok_putI C flX2_105_5 dX2_readHead_81 (fun s21 _ => ?_)
  refine ok_aload_n C 1 dX2_readHead_84 rfl ?_
  refine ok_aload_n C 0 dX2_readHead_85 rfl ?_
  refine ok_iconst C (v := 0) dX2_readHead_86 (by decide) ?_
  refine ok_bipush C (v := 9) dX2_readHead_87 (by decide) ?_
  refine ok_callV C T [.int 0, .int 9] (F := fX2_takeNumber a0 0 9) (ctX2_takeNumber (C.2.2.2.2.2.2.2.2.1) a0 0 9) vlX2_84 viX2_takeNumber rfl rfl (by decide) rfl (by rw [hR.1, hR.2]; decide) (Nat.le_of_ble_eq_true rfl) dX2_readHead_89 (ok_qI fun v22 s23 => ?_)
  refine ok_putI C flX2_108_5 dX2_readHead_92 (fun s24 _ => ?_)
  refine ok_aload_n C 1 dX2_readHead_95 rfl ?_
  refine ok_aload_n C 0 dX2_readHead_96 rfl ?_
  refine ok_iconst C (v := 1) dX2_readHead_97 (by decide) ?_
  refine ok_sipush C (v := 999) dX2_readHead_98 (by decide) ?_
  refine ok_callV C T [.int 1, .int 999] (F := fX2_takeNumber a0 1 999) (ctX2_takeNumber (C.2.2.2.2.2.2.2.2.1) a0 1 999) vlX2_84 viX2_takeNumber rfl rfl (by decide) rfl (by rw [hR.1, hR.2]; decide) (Nat.le_of_ble_eq_true rfl) dX2_readHead_101 (ok_qI fun v25 s26 => ?_)
  refine ok_putI C flX2_111_5 dX2_readHead_104 (fun s27 _ => ?_)
  exact ok_vreturn C dX2_readHead_107
theorem ctX2_readHead {l : Launch} (hl : l.stackTraces = false) {D : va_G} {dA : Nat → ClassId} {B0 : Nat} (a0 : Nat) (a1 : Nat) (a2 : Nat) : Ct l D dA B0 yX2_readHead (.code yX2_readHead cX2_readHead 3 (none) :: ax_ALL) 7 188 [.ref a0, .ref a1, .ref a2] (fX2_readHead a0 a1 a2) :=
  Ct.of hl (by decide +kernel) (Nat.le_of_ble_eq_true rfl) fun Γ C _ _ _ _ e5 e6 e7 T hin => oX2_readHead C T e5 ⟨e6, e7⟩ hin a0 a1 a2 _
/-! ChaseLocker$Reader.readRow(LChaseLocker$Plan;LChaseLocker$State;)V -/
def fX2_readRow_151 (r67 : Nat → Nat → Nat → Int32 → AS → Option AR) (a0 : Nat) (a1 : Nat) (a5 : Nat) (x6 : Int32) (s0 : AS) : Option AR :=
  lt (x6 + 1) (fun v1 =>
  r67 a0 a1 a5 v1 s0)
def fX2_readRow_137 (r67 : Nat → Nat → Nat → Int32 → AS → Option AR) (a0 : Nat) (a1 : Nat) (a5 : Nat) (x6 : Int32) (x7 : Int32) (s0 : AS) : Option AR :=
  gI s0 a0 6 3 (fun v1 =>
  if v1 = 0 then (
    cV s0 a5 7 (fX3_addBlock a5 x7 s0) (qV (fun s2 =>
    fX2_readRow_151 r67 a0 a1 a5 x6 s2)))
  else (
    fX2_readRow_151 r67 a0 a1 a5 x6 s0))
def fX2_readRow_120 (r67 : Nat → Nat → Nat → Int32 → AS → Option AR) (a0 : Nat) (a1 : Nat) (x3 : Int32) (a5 : Nat) (x6 : Int32) (x7 : Int32) (s0 : AS) : Option AR :=
  cV s0 a5 7 (fX3_gapIn a5 a1 s0) (qI (fun v1 s2 =>
  if x7 ≤ v1 then (
    fX2_readRow_137 r67 a0 a1 a5 x6 x7 s2)
  else (
    cV s2 a0 6 (fX2_fail a0 5 x3 s2) (qV (fun s3 =>
    fX2_readRow_137 r67 a0 a1 a5 x6 x7 s3)))))
def fX2_readRow_67  : Nat → Nat → Nat → Nat → Int32 → AS → Option AR
  | 0, _, _, _, _, _ => none
  | n + 1, a0, a1, a5, x6, s0 =>
    if (6 : Int32) < x6 then (
      some (.inl none, s0))
    else (
      gI s0 a0 6 3 (fun v1 =>
      if v1 = 0 then (
        gI s0 a0 6 6 (fun v2 =>
        if v2 = (2 : Int32) then (
          gI s0 a0 6 7 (fun v3 =>
          cV s0 a0 6 (fX2_takeNumber a0 1 200 s0) (qI (fun v4 s5 =>
          gI s5 a5 7 1 (fun v6 =>
          if v6 < (6 : Int32) then (
            fX2_readRow_120 (fX2_readRow_67 n) a0 a1 v3 a5 x6 v4 s5)
          else (
            cV s5 a0 6 (fX2_fail a0 4 v3 s5) (qV (fun s7 =>
            fX2_readRow_120 (fX2_readRow_67 n) a0 a1 v3 a5 x6 v4 s7))))))))
        else (
          some (.inl none, s0))))
      else (
        some (.inl none, s0))))
def fX2_readRow_47  (a0 : Nat) (a1 : Nat) (a2 : Nat) (x4 : Int32) (s0 : AS) : Option AR :=
  gR s0 a0 6 1 (fun q1 =>
  uN 101 .boolean s0 q1 x4 1 (fun s2 =>
  gR s2 a2 9 0 (fun q3 =>
  aR s2 q3 111 x4 (fun q4 =>
  fX2_readRow_67 FU a0 a1 q4 0 s2))))
def fX2_readRow (a0 : Nat) (a1 : Nat) (a2 : Nat) (s0 : AS) : Option AR :=
  gI s0 a0 6 7 (fun v1 =>
  gI s0 a1 5 1 (fun v2 =>
  cV s0 a0 6 (fX2_takeNumber a0 0 (v2 - 1) s0) (qI (fun v3 s4 =>
  if v3 < 0 then (
    some (.inl none, s4))
  else (
    if v3 < (8 : Int32) then (
      gR s4 a0 6 1 (fun q5 =>
      aI s4 q5 101 v3 (fun v6 =>
      if v6 = 0 then (
        fX2_readRow_47 a0 a1 a2 v3 s4)
      else (
        cV s4 a0 6 (fX2_fail a0 3 v1 s4) (qV (fun s7 =>
        fX2_readRow_47 a0 a1 a2 v3 s7))))))
    else (
      some (.inl none, s4)))))))
set_option maxHeartbeats 4000000 in
theorem oX2_readRow_151 {Γ : CX} (C : OKC Γ cX2_readRow RX2 none) (T : ∀ z ∈ (cx_c Γ).exceptionTable.toList, False) (hn : cx_nL Γ = 8) (hR : cx_fr Γ = 5 ∧ cx_lo Γ = 149) (hin : (cx_meth Γ).name = yX2_readRow.name) {r67 : Nat → Nat → Nat → Int32 → AS → Option AR} (h67 : ∀ (a0 : Nat) (a1 : Nat) (a5 : Nat) (x6 : Int32) (s0 : AS), OK Γ 67 [(0, .ref a0), (1, .ref a1), (5, .ref a5), (6, .int x6)] [] (r67 a0 a1 a5 x6 s0) s0) : ∀ (a0 : Nat) (a1 : Nat) (a5 : Nat) (x6 : Int32) (s0 : AS), OK Γ 151 [(0, .ref a0), (1, .ref a1), (5, .ref a5), (6, .int x6)] [] (fX2_readRow_151 r67 a0 a1 a5 x6 s0) s0 := by
  intro a0 a1 a5 x6 s0
  unfold fX2_readRow_151
  refine ok_iincL C 3 (c := 1) (fun v1 => [(6, .int v1), (0, .ref a0), (1, .ref a1), (5, .ref a5)]) dX2_readRow_151 rfl rfl (by rw [hn]; decide) (fun _ => rfl) (fun v1 => ?_)
  refine ok_goto C 67 dX2_readRow_154 (by decide) ?_
  refine OK.sub (lv' := [(0, .ref a0), (1, .ref a1), (5, .ref a5), (6, .int v1)]) [1, 2, 3, 0] rfl ?_
  exact h67 a0 a1 a5 v1 s0
set_option maxHeartbeats 4000000 in
theorem oX2_readRow_137 {Γ : CX} (C : OKC Γ cX2_readRow RX2 none) (T : ∀ z ∈ (cx_c Γ).exceptionTable.toList, False) (hn : cx_nL Γ = 8) (hR : cx_fr Γ = 5 ∧ cx_lo Γ = 149) (hin : (cx_meth Γ).name = yX2_readRow.name) {r67 : Nat → Nat → Nat → Int32 → AS → Option AR} (h67 : ∀ (a0 : Nat) (a1 : Nat) (a5 : Nat) (x6 : Int32) (s0 : AS), OK Γ 67 [(0, .ref a0), (1, .ref a1), (5, .ref a5), (6, .int x6)] [] (r67 a0 a1 a5 x6 s0) s0) : ∀ (a0 : Nat) (a1 : Nat) (a5 : Nat) (x6 : Int32) (x7 : Int32) (s0 : AS), OK Γ 137 [(0, .ref a0), (1, .ref a1), (5, .ref a5), (6, .int x6), (7, .int x7)] [] (fX2_readRow_137 r67 a0 a1 a5 x6 x7 s0) s0 := by
  intro a0 a1 a5 x6 x7 s0
  unfold fX2_readRow_137
  refine ok_aload_n C 0 dX2_readRow_137 rfl ?_
  refine ok_getI C frX2_47_6 dX2_readRow_138 (fun v1 => ?_)
  refine ok_if_ne C 151 dX2_readRow_141 (by decide) ?_ ?_
  · refine OK.sub (lv' := [(0, .ref a0), (1, .ref a1), (5, .ref a5), (6, .int x6)]) [0, 1, 2, 3] rfl ?_
    exact oX2_readRow_151 C T hn hR hin h67 a0 a1 a5 x6 s0
  · refine ok_aload C 2 dX2_readRow_144 rfl ?_
    refine ok_iload C 4 dX2_readRow_146 rfl ?_
    refine ok_callV C T [.int x7] (F := fX3_addBlock a5 x7) (ctX3_addBlock (C.2.2.2.2.2.2.2.2.1) a5 x7) vlX2_154 viX3_addBlock rfl rfl (by decide) rfl (by rw [hR.1, hR.2]; decide) (Nat.le_of_ble_eq_true rfl) dX2_readRow_148 (ok_qV fun s2 => ?_)
    refine OK.sub (lv' := [(0, .ref a0), (1, .ref a1), (5, .ref a5), (6, .int x6)]) [0, 1, 2, 3] rfl ?_
    exact oX2_readRow_151 C T hn hR hin h67 a0 a1 a5 x6 s2
set_option maxHeartbeats 4000000 in
theorem oX2_readRow_120 {Γ : CX} (C : OKC Γ cX2_readRow RX2 none) (T : ∀ z ∈ (cx_c Γ).exceptionTable.toList, False) (hn : cx_nL Γ = 8) (hR : cx_fr Γ = 5 ∧ cx_lo Γ = 149) (hin : (cx_meth Γ).name = yX2_readRow.name) {r67 : Nat → Nat → Nat → Int32 → AS → Option AR} (h67 : ∀ (a0 : Nat) (a1 : Nat) (a5 : Nat) (x6 : Int32) (s0 : AS), OK Γ 67 [(0, .ref a0), (1, .ref a1), (5, .ref a5), (6, .int x6)] [] (r67 a0 a1 a5 x6 s0) s0) : ∀ (a0 : Nat) (a1 : Nat) (x3 : Int32) (a5 : Nat) (x6 : Int32) (x7 : Int32) (s0 : AS), OK Γ 120 [(0, .ref a0), (1, .ref a1), (3, .int x3), (5, .ref a5), (6, .int x6), (7, .int x7)] [] (fX2_readRow_120 r67 a0 a1 x3 a5 x6 x7 s0) s0 := by
  intro a0 a1 x3 a5 x6 x7 s0
  unfold fX2_readRow_120
  refine ok_iload C 5 dX2_readRow_120 rfl ?_
  refine ok_aload C 3 dX2_readRow_122 rfl ?_
  refine ok_aload_n C 1 dX2_readRow_124 rfl ?_
  refine ok_callV C T [.ref a1] (F := fX3_gapIn a5 a1) (ctX3_gapIn (C.2.2.2.2.2.2.2.2.1) a5 a1) vlX2_150 viX3_gapIn rfl rfl (by decide) rfl (by rw [hR.1, hR.2]; decide) (Nat.le_of_ble_eq_true rfl) dX2_readRow_125 (ok_qI fun v1 s2 => ?_)
  refine ok_icmp_le C 137 dX2_readRow_128 (by decide) ?_ ?_
  · refine OK.sub (lv' := [(0, .ref a0), (1, .ref a1), (5, .ref a5), (6, .int x6), (7, .int x7)]) [0, 1, 3, 4, 5] rfl ?_
    exact oX2_readRow_137 C T hn hR hin h67 a0 a1 a5 x6 x7 s2
  · refine ok_aload_n C 0 dX2_readRow_131 rfl ?_
    refine ok_iconst C (v := 5) dX2_readRow_132 (by decide) ?_
    refine ok_iload_n C 2 dX2_readRow_133 rfl ?_
    refine ok_callV C T [.int 5, .int x3] (F := fX2_fail a0 5 x3) (ctX2_fail (C.2.2.2.2.2.2.2.2.1) a0 5 x3) vlX2_62 viX2_fail rfl rfl (by decide) rfl (by rw [hR.1, hR.2]; decide) (Nat.le_of_ble_eq_true rfl) dX2_readRow_134 (ok_qV fun s3 => ?_)
    refine OK.sub (lv' := [(0, .ref a0), (1, .ref a1), (5, .ref a5), (6, .int x6), (7, .int x7)]) [0, 1, 3, 4, 5] rfl ?_
    exact oX2_readRow_137 C T hn hR hin h67 a0 a1 a5 x6 x7 s3
set_option maxHeartbeats 4000000 in
theorem oX2_readRow_67 {Γ : CX} (C : OKC Γ cX2_readRow RX2 none) (T : ∀ z ∈ (cx_c Γ).exceptionTable.toList, False) (hn : cx_nL Γ = 8) (hR : cx_fr Γ = 5 ∧ cx_lo Γ = 149) (hin : (cx_meth Γ).name = yX2_readRow.name) : ∀ (n : Nat) (a0 : Nat) (a1 : Nat) (a5 : Nat) (x6 : Int32) (s0 : AS), OK Γ 67 [(0, .ref a0), (1, .ref a1), (5, .ref a5), (6, .int x6)] [] (fX2_readRow_67 n a0 a1 a5 x6 s0) s0 := by
  intro n
  induction n with
  | zero => intro _ _ _ _ s0; exact OK.none
  | succ n ih =>
    intro a0 a1 a5 x6 s0
    rw [fX2_readRow_67]
    refine ok_iload C 3 dX2_readRow_67 rfl ?_
    refine ok_bipush C (v := 6) dX2_readRow_69 (by decide) ?_
    refine ok_icmp_gt C 157 dX2_readRow_71 (by decide) ?_ ?_
    · exact ok_vreturn C dX2_readRow_157
    · refine ok_aload_n C 0 dX2_readRow_74 rfl ?_
      refine ok_getI C frX2_47_6 dX2_readRow_75 (fun v1 => ?_)
      refine ok_if_ne C 157 dX2_readRow_78 (by decide) ?_ ?_
      · exact ok_vreturn C dX2_readRow_157
      · refine ok_aload_n C 0 dX2_readRow_81 rfl ?_
        refine ok_getI C frX2_50_6 dX2_readRow_82 (fun v2 => ?_)
        refine ok_iconst C (v := 2) dX2_readRow_85 (by decide) ?_
        refine ok_icmp_ne C 157 dX2_readRow_86 (by decide) ?_ ?_
        · exact ok_vreturn C dX2_readRow_157
        · refine ok_aload_n C 0 dX2_readRow_89 rfl ?_
          refine ok_getI C frX2_59_6 dX2_readRow_90 (fun v3 => ?_)
          refine ok_istore_n C (i := 3) [(3, .int v3), (0, .ref a0), (1, .ref a1), (5, .ref a5), (6, .int x6)] dX2_readRow_93 rfl (by rw [hn]; decide) rfl ?_
          refine ok_aload_n C 1 dX2_readRow_94 rfl ?_
          refine ok_iconst C (v := 1) dX2_readRow_95 (by decide) ?_
          refine ok_sipush C (v := 200) dX2_readRow_96 (by decide) ?_
          refine ok_callV C T [.int 1, .int 200] (F := fX2_takeNumber a0 1 200) (ctX2_takeNumber (C.2.2.2.2.2.2.2.2.1) a0 1 200) vlX2_84 viX2_takeNumber rfl rfl (by decide) rfl (by rw [hR.1, hR.2]; decide) (Nat.le_of_ble_eq_true rfl) dX2_readRow_99 (ok_qI fun v4 s5 => ?_)
          refine ok_istore C (i := 7) [(7, .int v4), (3, .int v3), (0, .ref a0), (1, .ref a1), (5, .ref a5), (6, .int x6)] dX2_readRow_102 (by rw [hn]; decide) rfl ?_
          refine ok_aload C 4 dX2_readRow_104 rfl ?_
          refine ok_getI C frX2_145_7 dX2_readRow_106 (fun v6 => ?_)
          refine ok_bipush C (v := 6) dX2_readRow_109 (by decide) ?_
          refine ok_icmp_lt C 120 dX2_readRow_111 (by decide) ?_ ?_
          · refine OK.sub (lv' := [(0, .ref a0), (1, .ref a1), (3, .int v3), (5, .ref a5), (6, .int x6), (7, .int v4)]) [2, 3, 1, 4, 5, 0] rfl ?_
            exact oX2_readRow_120 C T hn hR hin ih a0 a1 v3 a5 x6 v4 s5
          · refine ok_aload_n C 2 dX2_readRow_114 rfl ?_
            refine ok_iconst C (v := 4) dX2_readRow_115 (by decide) ?_
            refine ok_iload_n C 1 dX2_readRow_116 rfl ?_
            refine ok_callV C T [.int 4, .int v3] (F := fX2_fail a0 4 v3) (ctX2_fail (C.2.2.2.2.2.2.2.2.1) a0 4 v3) vlX2_62 viX2_fail rfl rfl (by decide) rfl (by rw [hR.1, hR.2]; decide) (Nat.le_of_ble_eq_true rfl) dX2_readRow_117 (ok_qV fun s7 => ?_)
            refine OK.sub (lv' := [(0, .ref a0), (1, .ref a1), (3, .int v3), (5, .ref a5), (6, .int x6), (7, .int v4)]) [2, 3, 1, 4, 5, 0] rfl ?_
            exact oX2_readRow_120 C T hn hR hin ih a0 a1 v3 a5 x6 v4 s7
set_option maxHeartbeats 4000000 in
theorem oX2_readRow_47 {Γ : CX} (C : OKC Γ cX2_readRow RX2 none) (T : ∀ z ∈ (cx_c Γ).exceptionTable.toList, False) (hn : cx_nL Γ = 8) (hR : cx_fr Γ = 5 ∧ cx_lo Γ = 149) (hin : (cx_meth Γ).name = yX2_readRow.name) : ∀ (a0 : Nat) (a1 : Nat) (a2 : Nat) (x4 : Int32) (s0 : AS), OK Γ 47 [(0, .ref a0), (1, .ref a1), (2, .ref a2), (4, .int x4)] [] (fX2_readRow_47  a0 a1 a2 x4 s0) s0 := by
  intro a0 a1 a2 x4 s0
  unfold fX2_readRow_47
  refine ok_aload_n C 0 dX2_readRow_47 rfl ?_
  refine ok_getR C frX2_15_6 dX2_readRow_48 (fun q1 => ?_)
  refine ok_iload C 3 dX2_readRow_51 rfl ?_
  refine ok_iconst C (v := 1) dX2_readRow_53 (by decide) ?_
  refine ok_zast C dX2_readRow_54 (fun s2 _ => ?_)
  refine ok_aload_n C 2 dX2_readRow_55 rfl ?_
  refine ok_getR C frX2_142_9 dX2_readRow_56 (fun q3 => ?_)
  refine ok_iload C 3 dX2_readRow_59 rfl ?_
  refine ok_aald C 111 7 (fun _ => rfl) (by decide) dX2_readRow_61 (fun q4 => ?_)
  refine ok_astore C (i := 5) [(5, .ref q4), (0, .ref a0), (1, .ref a1), (2, .ref a2), (4, .int x4)] dX2_readRow_62 (by rw [hn]; decide) rfl ?_
  refine ok_iconst C (v := 0) dX2_readRow_64 (by decide) ?_
  refine ok_istore C (i := 6) [(6, .int 0), (5, .ref q4), (0, .ref a0), (1, .ref a1), (2, .ref a2), (4, .int x4)] dX2_readRow_65 (by rw [hn]; decide) rfl ?_
  refine OK.sub (lv' := [(0, .ref a0), (1, .ref a1), (5, .ref q4), (6, .int 0)]) [2, 3, 1, 0] rfl ?_
  exact oX2_readRow_67 C T hn hR hin FU a0 a1 q4 0 s2
set_option maxHeartbeats 4000000 in
theorem oX2_readRow {Γ : CX} (C : OKC Γ cX2_readRow RX2 none) (T : ∀ z ∈ (cx_c Γ).exceptionTable.toList, False) (hn : cx_nL Γ = 8) (hR : cx_fr Γ = 5 ∧ cx_lo Γ = 149) (hin : (cx_meth Γ).name = yX2_readRow.name) : ∀ (a0 : Nat) (a1 : Nat) (a2 : Nat) (s0 : AS), OK Γ 0 [(0, .ref a0), (1, .ref a1), (2, .ref a2)] [] (fX2_readRow a0 a1 a2 s0) s0 := by
  intro a0 a1 a2 s0
  unfold fX2_readRow
  refine ok_aload_n C 0 dX2_readRow_0 rfl ?_
  refine ok_getI C frX2_59_6 dX2_readRow_1 (fun v1 => ?_)
  refine ok_istore_n C (i := 3) [(3, .int v1), (0, .ref a0), (1, .ref a1), (2, .ref a2)] dX2_readRow_4 rfl (by rw [hn]; decide) rfl ?_
  refine ok_aload_n C 1 dX2_readRow_5 rfl ?_
  refine ok_iconst C (v := 0) dX2_readRow_6 (by decide) ?_
  refine ok_aload_n C 2 dX2_readRow_7 rfl ?_
  refine ok_getI C frX2_88_5 dX2_readRow_8 (fun v2 => ?_)
  refine ok_iconst C (v := 1) dX2_readRow_11 (by decide) ?_
  refine ok_isub C dX2_readRow_12 ?_
  refine ok_callV C T [.int 0, .int (v2 - 1)] (F := fX2_takeNumber a0 0 (v2 - 1)) (ctX2_takeNumber (C.2.2.2.2.2.2.2.2.1) a0 0 (v2 - 1)) vlX2_84 viX2_takeNumber rfl rfl (by decide) rfl (by rw [hR.1, hR.2]; decide) (Nat.le_of_ble_eq_true rfl) dX2_readRow_13 (ok_qI fun v3 s4 => ?_)
  refine ok_istore C (i := 4) [(4, .int v3), (3, .int v1), (0, .ref a0), (1, .ref a1), (2, .ref a2)] dX2_readRow_16 (by rw [hn]; decide) rfl ?_
  refine ok_iload C 0 dX2_readRow_18 rfl ?_
  refine ok_if_lt C 30 dX2_readRow_20 (by decide) ?_ ?_
  · exact ok_vreturn C dX2_readRow_30
  · refine ok_iload C 0 dX2_readRow_23 rfl ?_
    refine ok_bipush C (v := 8) dX2_readRow_25 (by decide) ?_
    refine ok_icmp_lt C 31 dX2_readRow_27 (by decide) ?_ ?_
    · refine ok_aload_n C 2 dX2_readRow_31 rfl ?_
      refine ok_getR C frX2_15_6 dX2_readRow_32 (fun q5 => ?_)
      refine ok_iload C 0 dX2_readRow_35 rfl ?_
      refine ok_zald C dX2_readRow_37 (fun v6 => ?_)
      refine ok_if_eq C 47 dX2_readRow_38 (by decide) ?_ ?_
      · refine OK.sub (lv' := [(0, .ref a0), (1, .ref a1), (2, .ref a2), (4, .int v3)]) [2, 3, 4, 0] rfl ?_
        exact oX2_readRow_47 C T hn hR hin a0 a1 a2 v3 s4
      · refine ok_aload_n C 2 dX2_readRow_41 rfl ?_
        refine ok_iconst C (v := 3) dX2_readRow_42 (by decide) ?_
        refine ok_iload_n C 1 dX2_readRow_43 rfl ?_
        refine ok_callV C T [.int 3, .int v1] (F := fX2_fail a0 3 v1) (ctX2_fail (C.2.2.2.2.2.2.2.2.1) a0 3 v1) vlX2_62 viX2_fail rfl rfl (by decide) rfl (by rw [hR.1, hR.2]; decide) (Nat.le_of_ble_eq_true rfl) dX2_readRow_44 (ok_qV fun s7 => ?_)
        refine OK.sub (lv' := [(0, .ref a0), (1, .ref a1), (2, .ref a2), (4, .int v3)]) [2, 3, 4, 0] rfl ?_
        exact oX2_readRow_47 C T hn hR hin a0 a1 a2 v3 s7
    · exact ok_vreturn C dX2_readRow_30
theorem ctX2_readRow {l : Launch} (hl : l.stackTraces = false) {D : va_G} {dA : Nat → ClassId} {B0 : Nat} (a0 : Nat) (a1 : Nat) (a2 : Nat) : Ct l D dA B0 yX2_readRow (.code yX2_readRow cX2_readRow 8 (none) :: ax_ALL) 5 149 [.ref a0, .ref a1, .ref a2] (fX2_readRow a0 a1 a2) :=
  Ct.of hl (by decide +kernel) (Nat.le_of_ble_eq_true rfl) fun Γ C _ _ _ _ e5 e6 e7 T hin => oX2_readRow C T e5 ⟨e6, e7⟩ hin a0 a1 a2 _
/-! ChaseLocker$Reader.readKind(ZLChaseLocker$Plan;LChaseLocker$State;)V -/
def fX2_readKind_56  (a0 : Nat) (x1 : Int32) (a2 : Nat) (a3 : Nat) (x5 : Int32) (s0 : AS) : Option AR :=
  cV s0 a0 6 (fX2_takeNumber a0 0 99 s0) (qI (fun v1 s2 =>
  gI s2 a0 6 3 (fun v3 =>
  if v3 = 0 then (
    gR s2 a3 9 1 (fun q4 =>
    gI s2 a2 5 7 (fun v5 =>
    uI s2 q4 v5 v1 (fun s6 =>
    cV s6 a2 5 (fX1_addKind a2 x1 x5 s6) (qV (fun s7 =>
    some (.inl none, s7)))))))
  else (
    some (.inl none, s2)))))
def fX2_readKind (a0 : Nat) (x1 : Int32) (a2 : Nat) (a3 : Nat) (s0 : AS) : Option AR :=
  gI s0 a2 5 7 (fun v1 =>
  if v1 < (10 : Int32) then (
    cV s0 a0 6 (fX2_advance a0 s0) (qV (fun s2 =>
    gI s2 a0 6 7 (fun v3 =>
    cV s2 a0 6 (fX2_takeNumber a0 1 99 s2) (qI (fun v4 s5 =>
    cV s5 a2 5 (fX1_find a2 x1 v4 s5) (qI (fun v6 s7 =>
    if v6 = (-1 : Int32) then (
      fX2_readKind_56 a0 x1 a2 a3 v4 s7)
    else (
      cV s7 a0 6 (fX2_fail a0 3 v3 s7) (qV (fun s8 =>
      fX2_readKind_56 a0 x1 a2 a3 v4 s8)))))))))))
  else (
    gI s0 a0 6 7 (fun v9 =>
    cV s0 a0 6 (fX2_fail a0 4 v9 s0) (qV (fun s10 =>
    some (.inl none, s10))))))
set_option maxHeartbeats 4000000 in
theorem oX2_readKind_56 {Γ : CX} (C : OKC Γ cX2_readKind RX2 none) (T : ∀ z ∈ (cx_c Γ).exceptionTable.toList, False) (hn : cx_nL Γ = 7) (hR : cx_fr Γ = 5 ∧ cx_lo Γ = 149) (hin : (cx_meth Γ).name = yX2_readKind.name) : ∀ (a0 : Nat) (x1 : Int32) (a2 : Nat) (a3 : Nat) (x5 : Int32) (s0 : AS), OK Γ 56 [(0, .ref a0), (1, .int x1), (2, .ref a2), (3, .ref a3), (5, .int x5)] [] (fX2_readKind_56  a0 x1 a2 a3 x5 s0) s0 := by
  intro a0 x1 a2 a3 x5 s0
  unfold fX2_readKind_56
  refine ok_aload_n C 0 dX2_readKind_56 rfl ?_
  refine ok_iconst C (v := 0) dX2_readKind_57 (by decide) ?_
  refine ok_bipush C (v := 99) dX2_readKind_58 (by decide) ?_
  refine ok_callV C T [.int 0, .int 99] (F := fX2_takeNumber a0 0 99) (ctX2_takeNumber (C.2.2.2.2.2.2.2.2.1) a0 0 99) vlX2_84 viX2_takeNumber rfl rfl (by decide) rfl (by rw [hR.1, hR.2]; decide) (Nat.le_of_ble_eq_true rfl) dX2_readKind_60 (ok_qI fun v1 s2 => ?_)
  refine ok_istore C (i := 6) [(6, .int v1), (0, .ref a0), (1, .int x1), (2, .ref a2), (3, .ref a3), (5, .int x5)] dX2_readKind_63 (by rw [hn]; decide) rfl ?_
  refine ok_aload_n C 1 dX2_readKind_65 rfl ?_
  refine ok_getI C frX2_47_6 dX2_readKind_66 (fun v3 => ?_)
  refine ok_if_ne C 90 dX2_readKind_69 (by decide) ?_ ?_
  · exact ok_vreturn C dX2_readKind_90
  · refine ok_aload_n C 4 dX2_readKind_72 rfl ?_
    refine ok_getR C frX2_135_9 dX2_readKind_73 (fun q4 => ?_)
    refine ok_aload_n C 3 dX2_readKind_76 rfl ?_
    refine ok_getI C frX2_33_5 dX2_readKind_77 (fun v5 => ?_)
    refine ok_iload C 0 dX2_readKind_80 rfl ?_
    refine ok_iast C dX2_readKind_82 (fun s6 _ => ?_)
    refine ok_aload_n C 3 dX2_readKind_83 rfl ?_
    refine ok_iload_n C 2 dX2_readKind_84 rfl ?_
    refine ok_iload C 5 dX2_readKind_85 rfl ?_
    refine ok_callV C T [.int x1, .int x5] (F := fX1_addKind a2 x1 x5) (ctX1_addKind (C.2.2.2.2.2.2.2.2.1) a2 x1 x5) vlX2_138 viX1_addKind rfl rfl (by decide) rfl (by rw [hR.1, hR.2]; decide) (Nat.le_of_ble_eq_true rfl) dX2_readKind_87 (ok_qV fun s7 => ?_)
    exact ok_vreturn C dX2_readKind_90
set_option maxHeartbeats 4000000 in
theorem oX2_readKind {Γ : CX} (C : OKC Γ cX2_readKind RX2 none) (T : ∀ z ∈ (cx_c Γ).exceptionTable.toList, False) (hn : cx_nL Γ = 7) (hR : cx_fr Γ = 5 ∧ cx_lo Γ = 149) (hin : (cx_meth Γ).name = yX2_readKind.name) : ∀ (a0 : Nat) (x1 : Int32) (a2 : Nat) (a3 : Nat) (s0 : AS), OK Γ 0 [(0, .ref a0), (1, .int x1), (2, .ref a2), (3, .ref a3)] [] (fX2_readKind a0 x1 a2 a3 s0) s0 := by
  intro a0 x1 a2 a3 s0
  unfold fX2_readKind
  refine ok_aload_n C 2 dX2_readKind_0 rfl ?_
  refine ok_getI C frX2_33_5 dX2_readKind_1 (fun v1 => ?_)
  refine ok_bipush C (v := 10) dX2_readKind_4 (by decide) ?_
  refine ok_icmp_lt C 19 dX2_readKind_6 (by decide) ?_ ?_
  · refine ok_aload_n C 0 dX2_readKind_19 rfl ?_
    refine ok_callV C T [] (F := fX2_advance a0) (ctX2_advance (C.2.2.2.2.2.2.2.2.1) a0) vlX2_53 viX2_advance rfl rfl (by decide) rfl (by rw [hR.1, hR.2]; decide) (Nat.le_of_ble_eq_true rfl) dX2_readKind_20 (ok_qV fun s2 => ?_)
    refine ok_aload_n C 0 dX2_readKind_23 rfl ?_
    refine ok_getI C frX2_59_6 dX2_readKind_24 (fun v3 => ?_)
    refine ok_istore C (i := 4) [(4, .int v3), (0, .ref a0), (1, .int x1), (2, .ref a2), (3, .ref a3)] dX2_readKind_27 (by rw [hn]; decide) rfl ?_
    refine ok_aload_n C 1 dX2_readKind_29 rfl ?_
    refine ok_iconst C (v := 1) dX2_readKind_30 (by decide) ?_
    refine ok_bipush C (v := 99) dX2_readKind_31 (by decide) ?_
    refine ok_callV C T [.int 1, .int 99] (F := fX2_takeNumber a0 1 99) (ctX2_takeNumber (C.2.2.2.2.2.2.2.2.1) a0 1 99) vlX2_84 viX2_takeNumber rfl rfl (by decide) rfl (by rw [hR.1, hR.2]; decide) (Nat.le_of_ble_eq_true rfl) dX2_readKind_33 (ok_qI fun v4 s5 => ?_)
    refine ok_istore C (i := 5) [(5, .int v4), (4, .int v3), (0, .ref a0), (1, .int x1), (2, .ref a2), (3, .ref a3)] dX2_readKind_36 (by rw [hn]; decide) rfl ?_
    refine ok_aload_n C 4 dX2_readKind_38 rfl ?_
    refine ok_iload_n C 3 dX2_readKind_39 rfl ?_
    refine ok_iload C 0 dX2_readKind_40 rfl ?_
    refine ok_callV C T [.int x1, .int v4] (F := fX1_find a2 x1 v4) (ctX1_find (C.2.2.2.2.2.2.2.2.1) a2 x1 v4) vlX2_131 viX1_find rfl rfl (by decide) rfl (by rw [hR.1, hR.2]; decide) (Nat.le_of_ble_eq_true rfl) dX2_readKind_42 (ok_qI fun v6 s7 => ?_)
    refine ok_iconst C (v := (-1)) dX2_readKind_45 (by decide) ?_
    refine ok_icmp_eq C 56 dX2_readKind_46 (by decide) ?_ ?_
    · refine OK.sub (lv' := [(0, .ref a0), (1, .int x1), (2, .ref a2), (3, .ref a3), (5, .int v4)]) [2, 3, 4, 5, 0] rfl ?_
      exact oX2_readKind_56 C T hn hR hin a0 x1 a2 a3 v4 s7
    · refine ok_aload_n C 2 dX2_readKind_49 rfl ?_
      refine ok_iconst C (v := 3) dX2_readKind_50 (by decide) ?_
      refine ok_iload C 1 dX2_readKind_51 rfl ?_
      refine ok_callV C T [.int 3, .int v3] (F := fX2_fail a0 3 v3) (ctX2_fail (C.2.2.2.2.2.2.2.2.1) a0 3 v3) vlX2_62 viX2_fail rfl rfl (by decide) rfl (by rw [hR.1, hR.2]; decide) (Nat.le_of_ble_eq_true rfl) dX2_readKind_53 (ok_qV fun s8 => ?_)
      refine OK.sub (lv' := [(0, .ref a0), (1, .int x1), (2, .ref a2), (3, .ref a3), (5, .int v4)]) [2, 3, 4, 5, 0] rfl ?_
      exact oX2_readKind_56 C T hn hR hin a0 x1 a2 a3 v4 s8
  · refine ok_aload_n C 0 dX2_readKind_9 rfl ?_
    refine ok_iconst C (v := 4) dX2_readKind_10 (by decide) ?_
    refine ok_aload_n C 0 dX2_readKind_11 rfl ?_
    refine ok_getI C frX2_59_6 dX2_readKind_12 (fun v9 => ?_)
    refine ok_callV C T [.int 4, .int v9] (F := fX2_fail a0 4 v9) (ctX2_fail (C.2.2.2.2.2.2.2.2.1) a0 4 v9) vlX2_62 viX2_fail rfl rfl (by decide) rfl (by rw [hR.1, hR.2]; decide) (Nat.le_of_ble_eq_true rfl) dX2_readKind_15 (ok_qV fun s10 => ?_)
    exact ok_vreturn C dX2_readKind_18
theorem ctX2_readKind {l : Launch} (hl : l.stackTraces = false) {D : va_G} {dA : Nat → ClassId} {B0 : Nat} (a0 : Nat) (x1 : Int32) (a2 : Nat) (a3 : Nat) : Ct l D dA B0 yX2_readKind (.code yX2_readKind cX2_readKind 7 (none) :: ax_ALL) 5 149 [.ref a0, .int x1, .ref a2, .ref a3] (fX2_readKind a0 x1 a2 a3) :=
  Ct.of hl (by decide +kernel) (Nat.le_of_ble_eq_true rfl) fun Γ C _ _ _ _ e5 e6 e7 T hin => oX2_readKind C T e5 ⟨e6, e7⟩ hin a0 x1 a2 a3 _
/-! ChaseLocker$Reader.readLine(LChaseLocker$Plan;LChaseLocker$State;)V -/
def fX2_readLine (a0 : Nat) (a1 : Nat) (a2 : Nat) (s0 : AS) : Option AR :=
  cV s0 a0 6 (fX2_isWord a0 1000028 s0) (qI (fun v1 s2 =>
  if v1 = 0 then (
    cV s2 a0 6 (fX2_isWord a0 1000029 s2) (qI (fun v3 s4 =>
    if v3 = 0 then (
      cV s4 a0 6 (fX2_takeWord a0 1000030 s4) (qV (fun s5 =>
      cV s5 a0 6 (fX2_readRow a0 a1 a2 s5) (qV (fun s6 =>
      some (.inl none, s6))))))
    else (
      cV s4 a0 6 (fX2_readKind a0 1 a1 a2 s4) (qV (fun s7 =>
      some (.inl none, s7)))))))
  else (
    cV s2 a0 6 (fX2_readKind a0 0 a1 a2 s2) (qV (fun s8 =>
    some (.inl none, s8))))))
set_option maxHeartbeats 4000000 in
theorem oX2_readLine {Γ : CX} (C : OKC Γ cX2_readLine RX2 none) (T : ∀ z ∈ (cx_c Γ).exceptionTable.toList, False) (hn : cx_nL Γ = 3) (hR : cx_fr Γ = 7 ∧ cx_lo Γ = 188) (hin : (cx_meth Γ).name = yX2_readLine.name) : ∀ (a0 : Nat) (a1 : Nat) (a2 : Nat) (s0 : AS), OK Γ 0 [(0, .ref a0), (1, .ref a1), (2, .ref a2)] [] (fX2_readLine a0 a1 a2 s0) s0 := by
  intro a0 a1 a2 s0
  unfold fX2_readLine
  refine ok_aload_n C 0 dX2_readLine_0 rfl ?_
  refine ok_ldcS C 28 rfl dX2_readLine_1 ?_
  refine ok_callV C T [.ref 1000028] (F := fX2_isWord a0 1000028) (ctX2_isWord (C.2.2.2.2.2.2.2.2.1) a0 1000028) vlX2_116 viX2_isWord rfl rfl (by decide) rfl (by rw [hR.1, hR.2]; decide) (Nat.le_of_ble_eq_true rfl) dX2_readLine_3 (ok_qI fun v1 s2 => ?_)
  refine ok_if_eq C 19 dX2_readLine_6 (by decide) ?_ ?_
  · refine ok_aload_n C 0 dX2_readLine_19 rfl ?_
    refine ok_ldcS C 29 rfl dX2_readLine_20 ?_
    refine ok_callV C T [.ref 1000029] (F := fX2_isWord a0 1000029) (ctX2_isWord (C.2.2.2.2.2.2.2.2.1) a0 1000029) vlX2_116 viX2_isWord rfl rfl (by decide) rfl (by rw [hR.1, hR.2]; decide) (Nat.le_of_ble_eq_true rfl) dX2_readLine_22 (ok_qI fun v3 s4 => ?_)
    refine ok_if_eq C 38 dX2_readLine_25 (by decide) ?_ ?_
    · refine ok_aload_n C 0 dX2_readLine_38 rfl ?_
      refine ok_ldcS C 30 rfl dX2_readLine_39 ?_
      refine ok_callV C T [.ref 1000030] (F := fX2_takeWord a0 1000030) (ctX2_takeWord (C.2.2.2.2.2.2.2.2.1) a0 1000030) vlX2_80 viX2_takeWord rfl rfl (by decide) rfl (by rw [hR.1, hR.2]; decide) (Nat.le_of_ble_eq_true rfl) dX2_readLine_41 (ok_qV fun s5 => ?_)
      refine ok_aload_n C 0 dX2_readLine_44 rfl ?_
      refine ok_aload_n C 1 dX2_readLine_45 rfl ?_
      refine ok_aload_n C 2 dX2_readLine_46 rfl ?_
      refine ok_callV C T [.ref a1, .ref a2] (F := fX2_readRow a0 a1 a2) (ctX2_readRow (C.2.2.2.2.2.2.2.2.1) a0 a1 a2) vlX2_128 viX2_readRow rfl rfl (by decide) rfl (by rw [hR.1, hR.2]; decide) (Nat.le_of_ble_eq_true rfl) dX2_readLine_47 (ok_qV fun s6 => ?_)
      exact ok_vreturn C dX2_readLine_50
    · refine ok_aload_n C 0 dX2_readLine_28 rfl ?_
      refine ok_iconst C (v := 1) dX2_readLine_29 (by decide) ?_
      refine ok_aload_n C 1 dX2_readLine_30 rfl ?_
      refine ok_aload_n C 2 dX2_readLine_31 rfl ?_
      refine ok_callV C T [.int 1, .ref a1, .ref a2] (F := fX2_readKind a0 1 a1 a2) (ctX2_readKind (C.2.2.2.2.2.2.2.2.1) a0 1 a1 a2) vlX2_120 viX2_readKind rfl rfl (by decide) rfl (by rw [hR.1, hR.2]; decide) (Nat.le_of_ble_eq_true rfl) dX2_readLine_32 (ok_qV fun s7 => ?_)
      refine ok_goto C 50 dX2_readLine_35 (by decide) ?_
      exact ok_vreturn C dX2_readLine_50
  · refine ok_aload_n C 0 dX2_readLine_9 rfl ?_
    refine ok_iconst C (v := 0) dX2_readLine_10 (by decide) ?_
    refine ok_aload_n C 1 dX2_readLine_11 rfl ?_
    refine ok_aload_n C 2 dX2_readLine_12 rfl ?_
    refine ok_callV C T [.int 0, .ref a1, .ref a2] (F := fX2_readKind a0 0 a1 a2) (ctX2_readKind (C.2.2.2.2.2.2.2.2.1) a0 0 a1 a2) vlX2_120 viX2_readKind rfl rfl (by decide) rfl (by rw [hR.1, hR.2]; decide) (Nat.le_of_ble_eq_true rfl) dX2_readLine_13 (ok_qV fun s8 => ?_)
    refine ok_goto C 50 dX2_readLine_16 (by decide) ?_
    exact ok_vreturn C dX2_readLine_50
theorem ctX2_readLine {l : Launch} (hl : l.stackTraces = false) {D : va_G} {dA : Nat → ClassId} {B0 : Nat} (a0 : Nat) (a1 : Nat) (a2 : Nat) : Ct l D dA B0 yX2_readLine (.code yX2_readLine cX2_readLine 3 (none) :: ax_ALL) 7 188 [.ref a0, .ref a1, .ref a2] (fX2_readLine a0 a1 a2) :=
  Ct.of hl (by decide +kernel) (Nat.le_of_ble_eq_true rfl) fun Γ C _ _ _ _ e5 e6 e7 T hin => oX2_readLine C T e5 ⟨e6, e7⟩ hin a0 a1 a2 _
/-! ChaseLocker$Reader.readText(ILChaseLocker$Plan;LChaseLocker$State;)Z -/
def fX2_readText_78  (a0 : Nat) (s0 : AS) : Option AR :=
  gI s0 a0 6 3 (fun v1 =>
  if v1 = 0 then (
    rZ 1 s0)
  else (
    rZ 0 s0))
def fX2_readText_62  (a0 : Nat) (s0 : AS) : Option AR :=
  gI s0 a0 6 6 (fun v1 =>
  if v1 = 0 then (
    fX2_readText_78 a0 s0)
  else (
    gI s0 a0 6 7 (fun v2 =>
    cV s0 a0 6 (fX2_fail a0 1 v2 s0) (qV (fun s3 =>
    fX2_readText_78 a0 s3)))))
def fX2_readText_23  : Nat → Nat → Nat → Nat → Int32 → AS → Option AR
  | 0, _, _, _, _, _ => none
  | n + 1, a0, a2, a3, x4, s0 =>
    if (500 : Int32) ≤ x4 then (
      fX2_readText_62 a0 s0)
    else (
      gI s0 a0 6 3 (fun v1 =>
      if v1 = 0 then (
        gI s0 a0 6 6 (fun v2 =>
        if v2 = (3 : Int32) then (
          cV s0 a0 6 (fX2_advance a0 s0) (qV (fun s3 =>
          cV s3 a0 6 (fX2_readLine a0 a2 a3 s3) (qV (fun s4 =>
          lt (x4 + 1) (fun v5 =>
          fX2_readText_23 n a0 a2 a3 v5 s4))))))
        else (
          fX2_readText_62 a0 s0)))
      else (
        fX2_readText_62 a0 s0)))
def fX2_readText (a0 : Nat) (x1 : Int32) (a2 : Nat) (a3 : Nat) (s0 : AS) : Option AR :=
  cV s0 a0 6 (fX2_startText a0 x1 s0) (qV (fun s1 =>
  sI s1 a2 5 7 0 (fun s2 =>
  cV s2 a3 9 (fX5_clear a3 s2) (qV (fun s3 =>
  cV s3 a0 6 (fX2_readHead a0 a2 a3 s3) (qV (fun s4 =>
  fX2_readText_23 FU a0 a2 a3 0 s4)))))))
set_option maxHeartbeats 4000000 in
theorem oX2_readText_78 {Γ : CX} (C : OKC Γ cX2_readText RX2 (some (.boolean))) (T : ∀ z ∈ (cx_c Γ).exceptionTable.toList, False) (hn : cx_nL Γ = 5) (hR : cx_fr Γ = 8 ∧ cx_lo Γ = 210) (hin : (cx_meth Γ).name = yX2_readText.name) : ∀ (a0 : Nat) (s0 : AS), OK Γ 78 [(0, .ref a0)] [] (fX2_readText_78  a0 s0) s0 := by
  intro a0 s0
  unfold fX2_readText_78
  refine ok_aload_n C 0 dX2_readText_78 rfl ?_
  refine ok_getI C frX2_47_6 dX2_readText_79 (fun v1 => ?_)
  refine ok_if_ne C 89 dX2_readText_82 (by decide) ?_ ?_
  · refine ok_iconst C (v := 0) dX2_readText_89 (by decide) ?_
    exact ok_zreturn C dX2_readText_90
  · refine ok_iconst C (v := 1) dX2_readText_85 (by decide) ?_
    refine ok_goto C 90 dX2_readText_86 (by decide) ?_
    exact ok_zreturn C dX2_readText_90
set_option maxHeartbeats 4000000 in
theorem oX2_readText_62 {Γ : CX} (C : OKC Γ cX2_readText RX2 (some (.boolean))) (T : ∀ z ∈ (cx_c Γ).exceptionTable.toList, False) (hn : cx_nL Γ = 5) (hR : cx_fr Γ = 8 ∧ cx_lo Γ = 210) (hin : (cx_meth Γ).name = yX2_readText.name) : ∀ (a0 : Nat) (s0 : AS), OK Γ 62 [(0, .ref a0)] [] (fX2_readText_62  a0 s0) s0 := by
  intro a0 s0
  unfold fX2_readText_62
  refine ok_aload_n C 0 dX2_readText_62 rfl ?_
  refine ok_getI C frX2_50_6 dX2_readText_63 (fun v1 => ?_)
  refine ok_if_eq C 78 dX2_readText_66 (by decide) ?_ ?_
  · exact oX2_readText_78 C T hn hR hin a0 s0
  · refine ok_aload_n C 0 dX2_readText_69 rfl ?_
    refine ok_iconst C (v := 1) dX2_readText_70 (by decide) ?_
    refine ok_aload_n C 0 dX2_readText_71 rfl ?_
    refine ok_getI C frX2_59_6 dX2_readText_72 (fun v2 => ?_)
    refine ok_callV C T [.int 1, .int v2] (F := fX2_fail a0 1 v2) (ctX2_fail (C.2.2.2.2.2.2.2.2.1) a0 1 v2) vlX2_62 viX2_fail rfl rfl (by decide) rfl (by rw [hR.1, hR.2]; decide) (Nat.le_of_ble_eq_true rfl) dX2_readText_75 (ok_qV fun s3 => ?_)
    exact oX2_readText_78 C T hn hR hin a0 s3
set_option maxHeartbeats 4000000 in
theorem oX2_readText_23 {Γ : CX} (C : OKC Γ cX2_readText RX2 (some (.boolean))) (T : ∀ z ∈ (cx_c Γ).exceptionTable.toList, False) (hn : cx_nL Γ = 5) (hR : cx_fr Γ = 8 ∧ cx_lo Γ = 210) (hin : (cx_meth Γ).name = yX2_readText.name) : ∀ (n : Nat) (a0 : Nat) (a2 : Nat) (a3 : Nat) (x4 : Int32) (s0 : AS), OK Γ 23 [(0, .ref a0), (2, .ref a2), (3, .ref a3), (4, .int x4)] [] (fX2_readText_23 n a0 a2 a3 x4 s0) s0 := by
  intro n
  induction n with
  | zero => intro _ _ _ _ s0; exact OK.none
  | succ n ih =>
    intro a0 a2 a3 x4 s0
    rw [fX2_readText_23]
    refine ok_iload C 3 dX2_readText_23 rfl ?_
    refine ok_sipush C (v := 500) dX2_readText_25 (by decide) ?_
    refine ok_icmp_ge C 62 dX2_readText_28 (by decide) ?_ ?_
    · refine OK.sub (lv' := [(0, .ref a0)]) [0] rfl ?_
      exact oX2_readText_62 C T hn hR hin a0 s0
    · refine ok_aload_n C 0 dX2_readText_31 rfl ?_
      refine ok_getI C frX2_47_6 dX2_readText_32 (fun v1 => ?_)
      refine ok_if_ne C 62 dX2_readText_35 (by decide) ?_ ?_
      · refine OK.sub (lv' := [(0, .ref a0)]) [0] rfl ?_
        exact oX2_readText_62 C T hn hR hin a0 s0
      · refine ok_aload_n C 0 dX2_readText_38 rfl ?_
        refine ok_getI C frX2_50_6 dX2_readText_39 (fun v2 => ?_)
        refine ok_iconst C (v := 3) dX2_readText_42 (by decide) ?_
        refine ok_icmp_ne C 62 dX2_readText_43 (by decide) ?_ ?_
        · refine OK.sub (lv' := [(0, .ref a0)]) [0] rfl ?_
          exact oX2_readText_62 C T hn hR hin a0 s0
        · refine ok_aload_n C 0 dX2_readText_46 rfl ?_
          refine ok_callV C T [] (F := fX2_advance a0) (ctX2_advance (C.2.2.2.2.2.2.2.2.1) a0) vlX2_53 viX2_advance rfl rfl (by decide) rfl (by rw [hR.1, hR.2]; decide) (Nat.le_of_ble_eq_true rfl) dX2_readText_47 (ok_qV fun s3 => ?_)
          refine ok_aload_n C 0 dX2_readText_50 rfl ?_
          refine ok_aload_n C 1 dX2_readText_51 rfl ?_
          refine ok_aload_n C 2 dX2_readText_52 rfl ?_
          refine ok_callV C T [.ref a2, .ref a3] (F := fX2_readLine a0 a2 a3) (ctX2_readLine (C.2.2.2.2.2.2.2.2.1) a0 a2 a3) vlX2_56 viX2_readLine rfl rfl (by decide) rfl (by rw [hR.1, hR.2]; decide) (Nat.le_of_ble_eq_true rfl) dX2_readText_53 (ok_qV fun s4 => ?_)
          refine ok_iincL C 3 (c := 1) (fun v5 => [(4, .int v5), (0, .ref a0), (2, .ref a2), (3, .ref a3)]) dX2_readText_56 rfl rfl (by rw [hn]; decide) (fun _ => rfl) (fun v5 => ?_)
          refine ok_goto C 23 dX2_readText_59 (by decide) ?_
          refine OK.sub (lv' := [(0, .ref a0), (2, .ref a2), (3, .ref a3), (4, .int v5)]) [1, 2, 3, 0] rfl ?_
          exact ih a0 a2 a3 v5 s4
set_option maxHeartbeats 4000000 in
theorem oX2_readText {Γ : CX} (C : OKC Γ cX2_readText RX2 (some (.boolean))) (T : ∀ z ∈ (cx_c Γ).exceptionTable.toList, False) (hn : cx_nL Γ = 5) (hR : cx_fr Γ = 8 ∧ cx_lo Γ = 210) (hin : (cx_meth Γ).name = yX2_readText.name) : ∀ (a0 : Nat) (x1 : Int32) (a2 : Nat) (a3 : Nat) (s0 : AS), OK Γ 0 [(0, .ref a0), (1, .int x1), (2, .ref a2), (3, .ref a3)] [] (fX2_readText a0 x1 a2 a3 s0) s0 := by
  intro a0 x1 a2 a3 s0
  unfold fX2_readText
  refine ok_aload_n C 0 dX2_readText_0 rfl ?_
  refine ok_iload_n C 1 dX2_readText_1 rfl ?_
  refine ok_callV C T [.int x1] (F := fX2_startText a0 x1) (ctX2_startText (C.2.2.2.2.2.2.2.2.1) a0 x1) vlX2_30 viX2_startText rfl rfl (by decide) rfl (by rw [hR.1, hR.2]; decide) (Nat.le_of_ble_eq_true rfl) dX2_readText_2 (ok_qV fun s1 => ?_)
  refine ok_aload_n C 2 dX2_readText_5 rfl ?_
  refine ok_iconst C (v := 0) dX2_readText_6 (by decide) ?_
  refine ok_putI C flX2_33_5 dX2_readText_7 (fun s2 _ => ?_)
  refine ok_aload_n C 3 dX2_readText_10 rfl ?_
  refine ok_callV C T [] (F := fX5_clear a3) (ctX5_clear (C.2.2.2.2.2.2.2.2.1) a3) vlX2_38 viX5_clear rfl rfl (by decide) rfl (by rw [hR.1, hR.2]; decide) (Nat.le_of_ble_eq_true rfl) dX2_readText_11 (ok_qV fun s3 => ?_)
  refine ok_aload_n C 0 dX2_readText_14 rfl ?_
  refine ok_aload_n C 2 dX2_readText_15 rfl ?_
  refine ok_aload_n C 3 dX2_readText_16 rfl ?_
  refine ok_callV C T [.ref a2, .ref a3] (F := fX2_readHead a0 a2 a3) (ctX2_readHead (C.2.2.2.2.2.2.2.2.1) a0 a2 a3) vlX2_43 viX2_readHead rfl rfl (by decide) rfl (by rw [hR.1, hR.2]; decide) (Nat.le_of_ble_eq_true rfl) dX2_readText_17 (ok_qV fun s4 => ?_)
  refine ok_iconst C (v := 0) dX2_readText_20 (by decide) ?_
  refine ok_istore C (i := 4) [(4, .int 0), (0, .ref a0), (1, .int x1), (2, .ref a2), (3, .ref a3)] dX2_readText_21 (by rw [hn]; decide) rfl ?_
  refine OK.sub (lv' := [(0, .ref a0), (2, .ref a2), (3, .ref a3), (4, .int 0)]) [1, 3, 4, 0] rfl ?_
  exact oX2_readText_23 C T hn hR hin FU a0 a2 a3 0 s4
theorem ctX2_readText {l : Launch} (hl : l.stackTraces = false) {D : va_G} {dA : Nat → ClassId} {B0 : Nat} (a0 : Nat) (x1 : Int32) (a2 : Nat) (a3 : Nat) : Ct l D dA B0 yX2_readText (.code yX2_readText cX2_readText 5 (some (.boolean)) :: ax_ALL) 8 210 [.ref a0, .int x1, .ref a2, .ref a3] (fX2_readText a0 x1 a2 a3) :=
  Ct.of hl (by decide +kernel) (Nat.le_of_ble_eq_true rfl) fun Γ C _ _ _ _ e5 e6 e7 T hin => oX2_readText C T e5 ⟨e6, e7⟩ hin a0 x1 a2 a3 _
