/-! ChaseLocker$Plan.<init>()V -/
def fX1_init (a0 : Nat) (s0 : AS) : Option AR :=
  nA s0 101 10 (fun q1 s2 =>
  sR s2 a0 5 8 q1 (fun s3 =>
  nA s3 100 10 (fun q4 s5 =>
  sR s5 a0 5 9 q4 (fun s6 =>
  nA s6 100 10 (fun q7 s8 =>
  sR s8 a0 5 10 q7 (fun s9 =>
  some (.inl none, s9)))))))
set_option maxHeartbeats 4000000 in
theorem oX1_init {Γ : CX} (C : OKC Γ cX1_init RX1 none) (T : ∀ z ∈ (cx_c Γ).exceptionTable.toList, False) (hn : cx_nL Γ = 1) (hR : cx_fr Γ = 2 ∧ cx_lo Γ = 60) (hin : (cx_meth Γ).name = yX1_init.name) : ∀ (a0 : Nat) (s0 : AS), OK Γ 0 [(0, .ref a0)] [] (fX1_init a0 s0) s0 := by
  intro a0 s0
  unfold fX1_init
  refine ok_aload_n C 0 dX1_init_0 rfl ?_
  refine ok_objInit C kw_133 kw_48 kw_49 (by rw [hR.1]; decide) (by rw [hR.2]; exact Nat.le_of_ble_eq_true rfl) dX1_init_1 ?_
  refine ok_aload_n C 0 dX1_init_4 rfl ?_
  refine ok_bipush C (v := 10) dX1_init_5 (by decide) ?_
  refine ok_newZ C kw_134 dX1_init_7 (fun q1 s2 => ?_)
  refine ok_putRF C flX1_9_5 (by first | exact Or.inl ⟨_, rfl⟩ | exact Or.inr ⟨_, rfl⟩) hin dX1_init_9 (fun s3 _ => ?_)
  refine ok_aload_n C 0 dX1_init_12 rfl ?_
  refine ok_bipush C (v := 10) dX1_init_13 (by decide) ?_
  refine ok_newI C kw_136 dX1_init_15 (fun q4 s5 => ?_)
  refine ok_putRF C flX1_15_5 (by first | exact Or.inl ⟨_, rfl⟩ | exact Or.inr ⟨_, rfl⟩) hin dX1_init_17 (fun s6 _ => ?_)
  refine ok_aload_n C 0 dX1_init_20 rfl ?_
  refine ok_bipush C (v := 10) dX1_init_21 (by decide) ?_
  refine ok_newI C kw_136 dX1_init_23 (fun q7 s8 => ?_)
  refine ok_putRF C flX1_19_5 (by first | exact Or.inl ⟨_, rfl⟩ | exact Or.inr ⟨_, rfl⟩) hin dX1_init_25 (fun s9 _ => ?_)
  exact ok_vreturn C dX1_init_28
theorem ctX1_init {l : Launch} (hl : l.stackTraces = false) {D : va_G} {dA : Nat → ClassId} {B0 : Nat} (a0 : Nat) : Ct l D dA B0 yX1_init (.code yX1_init cX1_init 1 (none) :: ax_ALL) 2 60 [.ref a0] (fX1_init a0) :=
  Ct.of hl (by decide +kernel) (Nat.le_of_ble_eq_true rfl) fun Γ C _ _ _ _ e5 e6 e7 T hin => oX1_init C T e5 ⟨e6, e7⟩ hin a0 _
/-! ChaseLocker$Plan.find(ZI)I -/
def fX1_find_32 (r2 : Nat → Int32 → Int32 → Int32 → AS → Option AR) (a0 : Nat) (x1 : Int32) (x2 : Int32) (x3 : Int32) (s0 : AS) : Option AR :=
  lt (x3 + 1) (fun v1 =>
  r2 a0 x1 x2 v1 s0)
def fX1_find_2  : Nat → Nat → Int32 → Int32 → Int32 → AS → Option AR
  | 0, _, _, _, _, _ => none
  | n + 1, a0, x1, x2, x3, s0 =>
    gI s0 a0 5 7 (fun v1 =>
    if v1 ≤ x3 then (
      some (.inl (some (.int ((-1)))), s0))
    else (
      gR s0 a0 5 8 (fun q2 =>
      aI s0 q2 101 x3 (fun v3 =>
      if v3 = x1 then (
        gR s0 a0 5 9 (fun q4 =>
        aI s0 q4 100 x3 (fun v5 =>
        if v5 = x2 then (
          some (.inl (some (.int x3)), s0))
        else (
          fX1_find_32 (fX1_find_2 n) a0 x1 x2 x3 s0))))
      else (
        fX1_find_32 (fX1_find_2 n) a0 x1 x2 x3 s0)))))
def fX1_find (a0 : Nat) (x1 : Int32) (x2 : Int32) (s0 : AS) : Option AR :=
  fX1_find_2 FU a0 x1 x2 0 s0
set_option maxHeartbeats 4000000 in
theorem oX1_find_32 {Γ : CX} (C : OKC Γ cX1_find RX1 (some (.int))) (T : ∀ z ∈ (cx_c Γ).exceptionTable.toList, False) (hn : cx_nL Γ = 4) (hR : cx_fr Γ = 1 ∧ cx_lo Γ = 60) (hin : (cx_meth Γ).name = yX1_find.name) {r2 : Nat → Int32 → Int32 → Int32 → AS → Option AR} (h2 : ∀ (a0 : Nat) (x1 : Int32) (x2 : Int32) (x3 : Int32) (s0 : AS), OK Γ 2 [(0, .ref a0), (1, .int x1), (2, .int x2), (3, .int x3)] [] (r2 a0 x1 x2 x3 s0) s0) : ∀ (a0 : Nat) (x1 : Int32) (x2 : Int32) (x3 : Int32) (s0 : AS), OK Γ 32 [(0, .ref a0), (1, .int x1), (2, .int x2), (3, .int x3)] [] (fX1_find_32 r2 a0 x1 x2 x3 s0) s0 := by
  intro a0 x1 x2 x3 s0
  unfold fX1_find_32
  refine ok_iincL C 3 (c := 1) (fun v1 => [(3, .int v1), (0, .ref a0), (1, .int x1), (2, .int x2)]) dX1_find_32 rfl rfl (by rw [hn]; decide) (fun _ => rfl) (fun v1 => ?_)
  refine ok_goto C 2 dX1_find_35 (by decide) ?_
  refine OK.sub (lv' := [(0, .ref a0), (1, .int x1), (2, .int x2), (3, .int v1)]) [1, 2, 3, 0] rfl ?_
  exact h2 a0 x1 x2 v1 s0
set_option maxHeartbeats 4000000 in
theorem oX1_find_2 {Γ : CX} (C : OKC Γ cX1_find RX1 (some (.int))) (T : ∀ z ∈ (cx_c Γ).exceptionTable.toList, False) (hn : cx_nL Γ = 4) (hR : cx_fr Γ = 1 ∧ cx_lo Γ = 60) (hin : (cx_meth Γ).name = yX1_find.name) : ∀ (n : Nat) (a0 : Nat) (x1 : Int32) (x2 : Int32) (x3 : Int32) (s0 : AS), OK Γ 2 [(0, .ref a0), (1, .int x1), (2, .int x2), (3, .int x3)] [] (fX1_find_2 n a0 x1 x2 x3 s0) s0 := by
  intro n
  induction n with
  | zero => intro _ _ _ _ s0; exact OK.none
  | succ n ih =>
    intro a0 x1 x2 x3 s0
    rw [fX1_find_2]
    refine ok_iload_n C 3 dX1_find_2 rfl ?_
    refine ok_aload_n C 0 dX1_find_3 rfl ?_
    refine ok_getI C frX1_22_5 dX1_find_4 (fun v1 => ?_)
    refine ok_icmp_ge C 38 dX1_find_7 (by decide) ?_ ?_
    · refine ok_iconst C (v := (-1)) dX1_find_38 (by decide) ?_
      exact ok_ireturn C dX1_find_39
    · refine ok_aload_n C 0 dX1_find_10 rfl ?_
      refine ok_getR C frX1_9_5 dX1_find_11 (fun q2 => ?_)
      refine ok_iload_n C 3 dX1_find_14 rfl ?_
      refine ok_zald C dX1_find_15 (fun v3 => ?_)
      refine ok_iload_n C 1 dX1_find_16 rfl ?_
      refine ok_icmp_ne C 32 dX1_find_17 (by decide) ?_ ?_
      · exact oX1_find_32 C T hn hR hin ih a0 x1 x2 x3 s0
      · refine ok_aload_n C 0 dX1_find_20 rfl ?_
        refine ok_getR C frX1_15_5 dX1_find_21 (fun q4 => ?_)
        refine ok_iload_n C 3 dX1_find_24 rfl ?_
        refine ok_iald C dX1_find_25 (fun v5 => ?_)
        refine ok_iload_n C 2 dX1_find_26 rfl ?_
        refine ok_icmp_ne C 32 dX1_find_27 (by decide) ?_ ?_
        · exact oX1_find_32 C T hn hR hin ih a0 x1 x2 x3 s0
        · refine ok_iload_n C 3 dX1_find_30 rfl ?_
          exact ok_ireturn C dX1_find_31
set_option maxHeartbeats 4000000 in
theorem oX1_find {Γ : CX} (C : OKC Γ cX1_find RX1 (some (.int))) (T : ∀ z ∈ (cx_c Γ).exceptionTable.toList, False) (hn : cx_nL Γ = 4) (hR : cx_fr Γ = 1 ∧ cx_lo Γ = 60) (hin : (cx_meth Γ).name = yX1_find.name) : ∀ (a0 : Nat) (x1 : Int32) (x2 : Int32) (s0 : AS), OK Γ 0 [(0, .ref a0), (1, .int x1), (2, .int x2)] [] (fX1_find a0 x1 x2 s0) s0 := by
  intro a0 x1 x2 s0
  unfold fX1_find
  refine ok_iconst C (v := 0) dX1_find_0 (by decide) ?_
  refine ok_istore_n C (i := 3) [(3, .int 0), (0, .ref a0), (1, .int x1), (2, .int x2)] dX1_find_1 rfl (by rw [hn]; decide) rfl ?_
  refine OK.sub (lv' := [(0, .ref a0), (1, .int x1), (2, .int x2), (3, .int 0)]) [1, 2, 3, 0] rfl ?_
  exact oX1_find_2 C T hn hR hin FU a0 x1 x2 0 s0
theorem ctX1_find {l : Launch} (hl : l.stackTraces = false) {D : va_G} {dA : Nat → ClassId} {B0 : Nat} (a0 : Nat) (x1 : Int32) (x2 : Int32) : Ct l D dA B0 yX1_find (.code yX1_find cX1_find 4 (some (.int)) :: ax_ALL) 1 60 [.ref a0, .int x1, .int x2] (fX1_find a0 x1 x2) :=
  Ct.of hl (by decide +kernel) (Nat.le_of_ble_eq_true rfl) fun Γ C _ _ _ _ e5 e6 e7 T hin => oX1_find C T e5 ⟨e6, e7⟩ hin a0 x1 x2 _
/-! ChaseLocker$Plan.isAhead(II)Z -/
def fX1_isAhead (a0 : Nat) (x1 : Int32) (x2 : Int32) (s0 : AS) : Option AR :=
  gR s0 a0 5 9 (fun q1 =>
  aI s0 q1 100 x1 (fun v2 =>
  gR s0 a0 5 9 (fun q3 =>
  aI s0 q3 100 x2 (fun v4 =>
  if v4 < v2 then (
    rZ 1 s0)
  else (
    gR s0 a0 5 9 (fun q5 =>
    aI s0 q5 100 x1 (fun v6 =>
    gR s0 a0 5 9 (fun q7 =>
    aI s0 q7 100 x2 (fun v8 =>
    if v6 = v8 then (
      gR s0 a0 5 8 (fun q9 =>
      aI s0 q9 101 x1 (fun v10 =>
      if v10 = 0 then (
        rZ 0 s0)
      else (
        gR s0 a0 5 8 (fun q11 =>
        aI s0 q11 101 x2 (fun v12 =>
        if v12 = 0 then (
          rZ 1 s0)
        else (
          rZ 0 s0)))))))
    else (
      rZ 0 s0))))))))))
set_option maxHeartbeats 4000000 in
theorem oX1_isAhead {Γ : CX} (C : OKC Γ cX1_isAhead RX1 (some (.boolean))) (T : ∀ z ∈ (cx_c Γ).exceptionTable.toList, False) (hn : cx_nL Γ = 3) (hR : cx_fr Γ = 1 ∧ cx_lo Γ = 60) (hin : (cx_meth Γ).name = yX1_isAhead.name) : ∀ (a0 : Nat) (x1 : Int32) (x2 : Int32) (s0 : AS), OK Γ 0 [(0, .ref a0), (1, .int x1), (2, .int x2)] [] (fX1_isAhead a0 x1 x2 s0) s0 := by
  intro a0 x1 x2 s0
  unfold fX1_isAhead
  refine ok_aload_n C 0 dX1_isAhead_0 rfl ?_
  refine ok_getR C frX1_15_5 dX1_isAhead_1 (fun q1 => ?_)
  refine ok_iload_n C 1 dX1_isAhead_4 rfl ?_
  refine ok_iald C dX1_isAhead_5 (fun v2 => ?_)
  refine ok_aload_n C 0 dX1_isAhead_6 rfl ?_
  refine ok_getR C frX1_15_5 dX1_isAhead_7 (fun q3 => ?_)
  refine ok_iload_n C 2 dX1_isAhead_10 rfl ?_
  refine ok_iald C dX1_isAhead_11 (fun v4 => ?_)
  refine ok_icmp_gt C 48 dX1_isAhead_12 (by decide) ?_ ?_
  · refine ok_iconst C (v := 1) dX1_isAhead_48 (by decide) ?_
    refine ok_goto C 53 dX1_isAhead_49 (by decide) ?_
    exact ok_zreturn C dX1_isAhead_53
  · refine ok_aload_n C 0 dX1_isAhead_15 rfl ?_
    refine ok_getR C frX1_15_5 dX1_isAhead_16 (fun q5 => ?_)
    refine ok_iload_n C 1 dX1_isAhead_19 rfl ?_
    refine ok_iald C dX1_isAhead_20 (fun v6 => ?_)
    refine ok_aload_n C 0 dX1_isAhead_21 rfl ?_
    refine ok_getR C frX1_15_5 dX1_isAhead_22 (fun q7 => ?_)
    refine ok_iload_n C 2 dX1_isAhead_25 rfl ?_
    refine ok_iald C dX1_isAhead_26 (fun v8 => ?_)
    refine ok_icmp_ne C 52 dX1_isAhead_27 (by decide) ?_ ?_
    · refine ok_iconst C (v := 0) dX1_isAhead_52 (by decide) ?_
      exact ok_zreturn C dX1_isAhead_53
    · refine ok_aload_n C 0 dX1_isAhead_30 rfl ?_
      refine ok_getR C frX1_9_5 dX1_isAhead_31 (fun q9 => ?_)
      refine ok_iload_n C 1 dX1_isAhead_34 rfl ?_
      refine ok_zald C dX1_isAhead_35 (fun v10 => ?_)
      refine ok_if_eq C 52 dX1_isAhead_36 (by decide) ?_ ?_
      · refine ok_iconst C (v := 0) dX1_isAhead_52 (by decide) ?_
        exact ok_zreturn C dX1_isAhead_53
      · refine ok_aload_n C 0 dX1_isAhead_39 rfl ?_
        refine ok_getR C frX1_9_5 dX1_isAhead_40 (fun q11 => ?_)
        refine ok_iload_n C 2 dX1_isAhead_43 rfl ?_
        refine ok_zald C dX1_isAhead_44 (fun v12 => ?_)
        refine ok_if_ne C 52 dX1_isAhead_45 (by decide) ?_ ?_
        · refine ok_iconst C (v := 0) dX1_isAhead_52 (by decide) ?_
          exact ok_zreturn C dX1_isAhead_53
        · refine ok_iconst C (v := 1) dX1_isAhead_48 (by decide) ?_
          refine ok_goto C 53 dX1_isAhead_49 (by decide) ?_
          exact ok_zreturn C dX1_isAhead_53
theorem ctX1_isAhead {l : Launch} (hl : l.stackTraces = false) {D : va_G} {dA : Nat → ClassId} {B0 : Nat} (a0 : Nat) (x1 : Int32) (x2 : Int32) : Ct l D dA B0 yX1_isAhead (.code yX1_isAhead cX1_isAhead 3 (some (.boolean)) :: ax_ALL) 1 60 [.ref a0, .int x1, .int x2] (fX1_isAhead a0 x1 x2) :=
  Ct.of hl (by decide +kernel) (Nat.le_of_ble_eq_true rfl) fun Γ C _ _ _ _ e5 e6 e7 T hin => oX1_isAhead C T e5 ⟨e6, e7⟩ hin a0 x1 x2 _
/-! ChaseLocker$Plan.addKind(ZI)V -/
def fX1_addKind_78  (a0 : Nat) (x3 : Int32) (s0 : AS) : Option AR :=
  gR s0 a0 5 10 (fun q1 =>
  gI s0 a0 5 7 (fun v2 =>
  uI s0 q1 x3 v2 (fun s3 =>
  gI s3 a0 5 7 (fun v4 =>
  sI s3 a0 5 7 (v4 + 1) (fun s5 =>
  some (.inl none, s5))))))
def fX1_addKind_35  : Nat → Nat → Int32 → AS → Option AR
  | 0, _, _, _ => none
  | n + 1, a0, x3, s0 =>
    if x3 ≤ 0 then (
      fX1_addKind_78 a0 x3 s0)
    else (
      gI s0 a0 5 7 (fun v1 =>
      gR s0 a0 5 10 (fun q2 =>
      aI s0 q2 100 (x3 - 1) (fun v3 =>
      cV s0 a0 5 (fX1_isAhead a0 v1 v3 s0) (qI (fun v4 s5 =>
      if v4 = 0 then (
        fX1_addKind_78 a0 x3 s5)
      else (
        gR s5 a0 5 10 (fun q6 =>
        gR s5 a0 5 10 (fun q7 =>
        aI s5 q7 100 (x3 - 1) (fun v8 =>
        uI s5 q6 x3 v8 (fun s9 =>
        lt (x3 + (-1)) (fun v10 =>
        fX1_addKind_35 n a0 v10 s9))))))))))))
def fX1_addKind (a0 : Nat) (x1 : Int32) (x2 : Int32) (s0 : AS) : Option AR :=
  gI s0 a0 5 7 (fun v1 =>
  if v1 < (10 : Int32) then (
    gR s0 a0 5 8 (fun q2 =>
    gI s0 a0 5 7 (fun v3 =>
    uN 101 .boolean s0 q2 v3 x1 (fun s4 =>
    gR s4 a0 5 9 (fun q5 =>
    gI s4 a0 5 7 (fun v6 =>
    uI s4 q5 v6 x2 (fun s7 =>
    gI s7 a0 5 7 (fun v8 =>
    fX1_addKind_35 FU a0 v8 s7))))))))
  else (
    some (.inl none, s0)))
set_option maxHeartbeats 4000000 in
theorem oX1_addKind_78 {Γ : CX} (C : OKC Γ cX1_addKind RX1 none) (T : ∀ z ∈ (cx_c Γ).exceptionTable.toList, False) (hn : cx_nL Γ = 4) (hR : cx_fr Γ = 2 ∧ cx_lo Γ = 82) (hin : (cx_meth Γ).name = yX1_addKind.name) : ∀ (a0 : Nat) (x3 : Int32) (s0 : AS), OK Γ 78 [(0, .ref a0), (3, .int x3)] [] (fX1_addKind_78  a0 x3 s0) s0 := by
  intro a0 x3 s0
  unfold fX1_addKind_78
  refine ok_aload_n C 0 dX1_addKind_78 rfl ?_
  refine ok_getR C frX1_19_5 dX1_addKind_79 (fun q1 => ?_)
  refine ok_iload_n C 1 dX1_addKind_82 rfl ?_
  refine ok_aload_n C 0 dX1_addKind_83 rfl ?_
  refine ok_getI C frX1_22_5 dX1_addKind_84 (fun v2 => ?_)
  refine ok_iast C dX1_addKind_87 (fun s3 _ => ?_)
  refine ok_aload_n C 0 dX1_addKind_88 rfl ?_
  refine ok_dup C dX1_addKind_89 rfl ?_
  refine ok_getI C frX1_22_5 dX1_addKind_90 (fun v4 => ?_)
  refine ok_iconst C (v := 1) dX1_addKind_93 (by decide) ?_
  refine ok_iadd C dX1_addKind_94 ?_
  refine ok_putI C flX1_22_5 dX1_addKind_95 (fun s5 _ => ?_)
  exact ok_vreturn C dX1_addKind_98
set_option maxHeartbeats 4000000 in
theorem oX1_addKind_35 {Γ : CX} (C : OKC Γ cX1_addKind RX1 none) (T : ∀ z ∈ (cx_c Γ).exceptionTable.toList, False) (hn : cx_nL Γ = 4) (hR : cx_fr Γ = 2 ∧ cx_lo Γ = 82) (hin : (cx_meth Γ).name = yX1_addKind.name) : ∀ (n : Nat) (a0 : Nat) (x3 : Int32) (s0 : AS), OK Γ 35 [(0, .ref a0), (3, .int x3)] [] (fX1_addKind_35 n a0 x3 s0) s0 := by
  intro n
  induction n with
  | zero => intro _ _ s0; exact OK.none
  | succ n ih =>
    intro a0 x3 s0
    rw [fX1_addKind_35]
    refine ok_iload_n C 1 dX1_addKind_35 rfl ?_
    refine ok_if_le C 78 dX1_addKind_36 (by decide) ?_ ?_
    · exact oX1_addKind_78 C T hn hR hin a0 x3 s0
    · refine ok_aload_n C 0 dX1_addKind_39 rfl ?_
      refine ok_aload_n C 0 dX1_addKind_40 rfl ?_
      refine ok_getI C frX1_22_5 dX1_addKind_41 (fun v1 => ?_)
      refine ok_aload_n C 0 dX1_addKind_44 rfl ?_
      refine ok_getR C frX1_19_5 dX1_addKind_45 (fun q2 => ?_)
      refine ok_iload_n C 1 dX1_addKind_48 rfl ?_
      refine ok_iconst C (v := 1) dX1_addKind_49 (by decide) ?_
      refine ok_isub C dX1_addKind_50 ?_
      refine ok_iald C dX1_addKind_51 (fun v3 => ?_)
      refine ok_callV C T [.int v1, .int v3] (F := fX1_isAhead a0 v1 v3) (ctX1_isAhead (C.2.2.2.2.2.2.2.2.1) a0 v1 v3) vlX1_26 viX1_isAhead rfl rfl (by decide) rfl (by rw [hR.1, hR.2]; decide) (Nat.le_of_ble_eq_true rfl) dX1_addKind_52 (ok_qI fun v4 s5 => ?_)
      refine ok_if_eq C 78 dX1_addKind_55 (by decide) ?_ ?_
      · exact oX1_addKind_78 C T hn hR hin a0 x3 s5
      · refine ok_aload_n C 0 dX1_addKind_58 rfl ?_
        refine ok_getR C frX1_19_5 dX1_addKind_59 (fun q6 => ?_)
        refine ok_iload_n C 1 dX1_addKind_62 rfl ?_
        refine ok_aload_n C 0 dX1_addKind_63 rfl ?_
        refine ok_getR C frX1_19_5 dX1_addKind_64 (fun q7 => ?_)
        refine ok_iload_n C 1 dX1_addKind_67 rfl ?_
        refine ok_iconst C (v := 1) dX1_addKind_68 (by decide) ?_
        refine ok_isub C dX1_addKind_69 ?_
        refine ok_iald C dX1_addKind_70 (fun v8 => ?_)
        refine ok_iast C dX1_addKind_71 (fun s9 _ => ?_)
        refine ok_iincL C 1 (c := (-1)) (fun v10 => [(3, .int v10), (0, .ref a0)]) dX1_addKind_72 rfl rfl (by rw [hn]; decide) (fun _ => rfl) (fun v10 => ?_)
        refine ok_goto C 35 dX1_addKind_75 (by decide) ?_
        refine OK.sub (lv' := [(0, .ref a0), (3, .int v10)]) [1, 0] rfl ?_
        exact ih a0 v10 s9
set_option maxHeartbeats 4000000 in
theorem oX1_addKind {Γ : CX} (C : OKC Γ cX1_addKind RX1 none) (T : ∀ z ∈ (cx_c Γ).exceptionTable.toList, False) (hn : cx_nL Γ = 4) (hR : cx_fr Γ = 2 ∧ cx_lo Γ = 82) (hin : (cx_meth Γ).name = yX1_addKind.name) : ∀ (a0 : Nat) (x1 : Int32) (x2 : Int32) (s0 : AS), OK Γ 0 [(0, .ref a0), (1, .int x1), (2, .int x2)] [] (fX1_addKind a0 x1 x2 s0) s0 := by
  intro a0 x1 x2 s0
  unfold fX1_addKind
  refine ok_aload_n C 0 dX1_addKind_0 rfl ?_
  refine ok_getI C frX1_22_5 dX1_addKind_1 (fun v1 => ?_)
  refine ok_bipush C (v := 10) dX1_addKind_4 (by decide) ?_
  refine ok_icmp_lt C 10 dX1_addKind_6 (by decide) ?_ ?_
  · refine ok_aload_n C 0 dX1_addKind_10 rfl ?_
    refine ok_getR C frX1_9_5 dX1_addKind_11 (fun q2 => ?_)
    refine ok_aload_n C 0 dX1_addKind_14 rfl ?_
    refine ok_getI C frX1_22_5 dX1_addKind_15 (fun v3 => ?_)
    refine ok_iload_n C 1 dX1_addKind_18 rfl ?_
    refine ok_zast C dX1_addKind_19 (fun s4 _ => ?_)
    refine ok_aload_n C 0 dX1_addKind_20 rfl ?_
    refine ok_getR C frX1_15_5 dX1_addKind_21 (fun q5 => ?_)
    refine ok_aload_n C 0 dX1_addKind_24 rfl ?_
    refine ok_getI C frX1_22_5 dX1_addKind_25 (fun v6 => ?_)
    refine ok_iload_n C 2 dX1_addKind_28 rfl ?_
    refine ok_iast C dX1_addKind_29 (fun s7 _ => ?_)
    refine ok_aload_n C 0 dX1_addKind_30 rfl ?_
    refine ok_getI C frX1_22_5 dX1_addKind_31 (fun v8 => ?_)
    refine ok_istore_n C (i := 3) [(3, .int v8), (0, .ref a0), (1, .int x1), (2, .int x2)] dX1_addKind_34 rfl (by rw [hn]; decide) rfl ?_
    refine OK.sub (lv' := [(0, .ref a0), (3, .int v8)]) [1, 0] rfl ?_
    exact oX1_addKind_35 C T hn hR hin FU a0 v8 s7
  · exact ok_vreturn C dX1_addKind_9
theorem ctX1_addKind {l : Launch} (hl : l.stackTraces = false) {D : va_G} {dA : Nat → ClassId} {B0 : Nat} (a0 : Nat) (x1 : Int32) (x2 : Int32) : Ct l D dA B0 yX1_addKind (.code yX1_addKind cX1_addKind 4 (none) :: ax_ALL) 2 82 [.ref a0, .int x1, .int x2] (fX1_addKind a0 x1 x2) :=
  Ct.of hl (by decide +kernel) (Nat.le_of_ble_eq_true rfl) fun Γ C _ _ _ _ e5 e6 e7 T hin => oX1_addKind C T e5 ⟨e6, e7⟩ hin a0 x1 x2 _
/-! ChaseLocker$Row.<init>()V -/
def fX3_init (a0 : Nat) (s0 : AS) : Option AR :=
  nA s0 100 6 (fun q1 s2 =>
  sR s2 a0 7 0 q1 (fun s3 =>
  nA s3 102 32 (fun q4 s5 =>
  sR s5 a0 7 3 q4 (fun s6 =>
  nA s6 100 10 (fun q7 s8 =>
  sR s8 a0 7 6 q7 (fun s9 =>
  sI s9 a0 7 7 ((-1)) (fun s10 =>
  some (.inl none, s10))))))))
set_option maxHeartbeats 4000000 in
theorem oX3_init {Γ : CX} (C : OKC Γ cX3_init RX3 none) (T : ∀ z ∈ (cx_c Γ).exceptionTable.toList, False) (hn : cx_nL Γ = 1) (hR : cx_fr Γ = 2 ∧ cx_lo Γ = 60) (hin : (cx_meth Γ).name = yX3_init.name) : ∀ (a0 : Nat) (s0 : AS), OK Γ 0 [(0, .ref a0)] [] (fX3_init a0 s0) s0 := by
  intro a0 s0
  unfold fX3_init
  refine ok_aload_n C 0 dX3_init_0 rfl ?_
  refine ok_objInit C kw_144 kw_48 kw_49 (by rw [hR.1]; decide) (by rw [hR.2]; exact Nat.le_of_ble_eq_true rfl) dX3_init_1 ?_
  refine ok_aload_n C 0 dX3_init_4 rfl ?_
  refine ok_bipush C (v := 6) dX3_init_5 (by decide) ?_
  refine ok_newI C kw_136 dX3_init_7 (fun q1 s2 => ?_)
  refine ok_putRF C flX3_11_7 (by first | exact Or.inl ⟨_, rfl⟩ | exact Or.inr ⟨_, rfl⟩) hin dX3_init_9 (fun s3 _ => ?_)
  refine ok_aload_n C 0 dX3_init_12 rfl ?_
  refine ok_bipush C (v := 32) dX3_init_13 (by decide) ?_
  refine ok_newJ C kw_146 dX3_init_15 (fun q4 s5 => ?_)
  refine ok_putRF C flX3_15_7 (by first | exact Or.inl ⟨_, rfl⟩ | exact Or.inr ⟨_, rfl⟩) hin dX3_init_17 (fun s6 _ => ?_)
  refine ok_aload_n C 0 dX3_init_20 rfl ?_
  refine ok_bipush C (v := 10) dX3_init_21 (by decide) ?_
  refine ok_newI C kw_136 dX3_init_23 (fun q7 s8 => ?_)
  refine ok_putRF C flX3_19_7 (by first | exact Or.inl ⟨_, rfl⟩ | exact Or.inr ⟨_, rfl⟩) hin dX3_init_25 (fun s9 _ => ?_)
  refine ok_aload_n C 0 dX3_init_28 rfl ?_
  refine ok_iconst C (v := (-1)) dX3_init_29 (by decide) ?_
  refine ok_putI C flX3_22_7 dX3_init_30 (fun s10 _ => ?_)
  exact ok_vreturn C dX3_init_33
theorem ctX3_init {l : Launch} (hl : l.stackTraces = false) {D : va_G} {dA : Nat → ClassId} {B0 : Nat} (a0 : Nat) : Ct l D dA B0 yX3_init (.code yX3_init cX3_init 1 (none) :: ax_ALL) 2 60 [.ref a0] (fX3_init a0) :=
  Ct.of hl (by decide +kernel) (Nat.le_of_ble_eq_true rfl) fun Γ C _ _ _ _ e5 e6 e7 T hin => oX3_init C T e5 ⟨e6, e7⟩ hin a0 _
/-! ChaseLocker$Row.dropBlocks()V -/
def fX3_dropBlocks (a0 : Nat) (s0 : AS) : Option AR :=
  sI s0 a0 7 1 0 (fun s1 =>
  sI s1 a0 7 2 0 (fun s2 =>
  some (.inl none, s2)))
set_option maxHeartbeats 4000000 in
theorem oX3_dropBlocks {Γ : CX} (C : OKC Γ cX3_dropBlocks RX3 none) (T : ∀ z ∈ (cx_c Γ).exceptionTable.toList, False) (hn : cx_nL Γ = 1) (hR : cx_fr Γ = 1 ∧ cx_lo Γ = 60) (hin : (cx_meth Γ).name = yX3_dropBlocks.name) : ∀ (a0 : Nat) (s0 : AS), OK Γ 0 [(0, .ref a0)] [] (fX3_dropBlocks a0 s0) s0 := by
  intro a0 s0
  unfold fX3_dropBlocks
  refine ok_aload_n C 0 dX3_dropBlocks_0 rfl ?_
  refine ok_iconst C (v := 0) dX3_dropBlocks_1 (by decide) ?_
  refine ok_putI C flX3_44_7 dX3_dropBlocks_2 (fun s1 _ => ?_)
  refine ok_aload_n C 0 dX3_dropBlocks_5 rfl ?_
  refine ok_iconst C (v := 0) dX3_dropBlocks_6 (by decide) ?_
  refine ok_putI C flX3_47_7 dX3_dropBlocks_7 (fun s2 _ => ?_)
  exact ok_vreturn C dX3_dropBlocks_10
theorem ctX3_dropBlocks {l : Launch} (hl : l.stackTraces = false) {D : va_G} {dA : Nat → ClassId} {B0 : Nat} (a0 : Nat) : Ct l D dA B0 yX3_dropBlocks (.code yX3_dropBlocks cX3_dropBlocks 1 (none) :: ax_ALL) 1 60 [.ref a0] (fX3_dropBlocks a0) :=
  Ct.of hl (by decide +kernel) (Nat.le_of_ble_eq_true rfl) fun Γ C _ _ _ _ e5 e6 e7 T hin => oX3_dropBlocks C T e5 ⟨e6, e7⟩ hin a0 _
/-! ChaseLocker$Row.dropPieces()V -/
def fX3_dropPieces_12  : Nat → Nat → Int32 → AS → Option AR
  | 0, _, _, _ => none
  | n + 1, a0, x1, s0 =>
    if (10 : Int32) ≤ x1 then (
      some (.inl none, s0))
    else (
      gR s0 a0 7 6 (fun q1 =>
      uI s0 q1 x1 0 (fun s2 =>
      lt (x1 + 1) (fun v3 =>
      fX3_dropPieces_12 n a0 v3 s2))))
def fX3_dropPieces (a0 : Nat) (s0 : AS) : Option AR :=
  sI s0 a0 7 4 0 (fun s1 =>
  sI s1 a0 7 5 0 (fun s2 =>
  fX3_dropPieces_12 FU a0 0 s2))
set_option maxHeartbeats 4000000 in
theorem oX3_dropPieces_12 {Γ : CX} (C : OKC Γ cX3_dropPieces RX3 none) (T : ∀ z ∈ (cx_c Γ).exceptionTable.toList, False) (hn : cx_nL Γ = 2) (hR : cx_fr Γ = 1 ∧ cx_lo Γ = 60) (hin : (cx_meth Γ).name = yX3_dropPieces.name) : ∀ (n : Nat) (a0 : Nat) (x1 : Int32) (s0 : AS), OK Γ 12 [(0, .ref a0), (1, .int x1)] [] (fX3_dropPieces_12 n a0 x1 s0) s0 := by
  intro n
  induction n with
  | zero => intro _ _ s0; exact OK.none
  | succ n ih =>
    intro a0 x1 s0
    rw [fX3_dropPieces_12]
    refine ok_iload_n C 1 dX3_dropPieces_12 rfl ?_
    refine ok_bipush C (v := 10) dX3_dropPieces_13 (by decide) ?_
    refine ok_icmp_ge C 31 dX3_dropPieces_15 (by decide) ?_ ?_
    · exact ok_vreturn C dX3_dropPieces_31
    · refine ok_aload_n C 0 dX3_dropPieces_18 rfl ?_
      refine ok_getR C frX3_19_7 dX3_dropPieces_19 (fun q1 => ?_)
      refine ok_iload_n C 1 dX3_dropPieces_22 rfl ?_
      refine ok_iconst C (v := 0) dX3_dropPieces_23 (by decide) ?_
      refine ok_iast C dX3_dropPieces_24 (fun s2 _ => ?_)
      refine ok_iincL C 1 (c := 1) (fun v3 => [(1, .int v3), (0, .ref a0)]) dX3_dropPieces_25 rfl rfl (by rw [hn]; decide) (fun _ => rfl) (fun v3 => ?_)
      refine ok_goto C 12 dX3_dropPieces_28 (by decide) ?_
      refine OK.sub (lv' := [(0, .ref a0), (1, .int v3)]) [1, 0] rfl ?_
      exact ih a0 v3 s2
set_option maxHeartbeats 4000000 in
theorem oX3_dropPieces {Γ : CX} (C : OKC Γ cX3_dropPieces RX3 none) (T : ∀ z ∈ (cx_c Γ).exceptionTable.toList, False) (hn : cx_nL Γ = 2) (hR : cx_fr Γ = 1 ∧ cx_lo Γ = 60) (hin : (cx_meth Γ).name = yX3_dropPieces.name) : ∀ (a0 : Nat) (s0 : AS), OK Γ 0 [(0, .ref a0)] [] (fX3_dropPieces a0 s0) s0 := by
  intro a0 s0
  unfold fX3_dropPieces
  refine ok_aload_n C 0 dX3_dropPieces_0 rfl ?_
  refine ok_iconst C (v := 0) dX3_dropPieces_1 (by decide) ?_
  refine ok_putI C flX3_50_7 dX3_dropPieces_2 (fun s1 _ => ?_)
  refine ok_aload_n C 0 dX3_dropPieces_5 rfl ?_
  refine ok_iconst C (v := 0) dX3_dropPieces_6 (by decide) ?_
  refine ok_putI C flX3_53_7 dX3_dropPieces_7 (fun s2 _ => ?_)
  refine ok_iconst C (v := 0) dX3_dropPieces_10 (by decide) ?_
  refine ok_istore_n C (i := 1) [(1, .int 0), (0, .ref a0)] dX3_dropPieces_11 rfl (by rw [hn]; decide) rfl ?_
  refine OK.sub (lv' := [(0, .ref a0), (1, .int 0)]) [1, 0] rfl ?_
  exact oX3_dropPieces_12 C T hn hR hin FU a0 0 s2
theorem ctX3_dropPieces {l : Launch} (hl : l.stackTraces = false) {D : va_G} {dA : Nat → ClassId} {B0 : Nat} (a0 : Nat) : Ct l D dA B0 yX3_dropPieces (.code yX3_dropPieces cX3_dropPieces 2 (none) :: ax_ALL) 1 60 [.ref a0] (fX3_dropPieces a0) :=
  Ct.of hl (by decide +kernel) (Nat.le_of_ble_eq_true rfl) fun Γ C _ _ _ _ e5 e6 e7 T hin => oX3_dropPieces C T e5 ⟨e6, e7⟩ hin a0 _
/-! ChaseLocker$Row.clear()V -/
def fX3_clear (a0 : Nat) (s0 : AS) : Option AR :=
  cV s0 a0 7 (fX3_dropBlocks a0 s0) (qV (fun s1 =>
  cV s1 a0 7 (fX3_dropPieces a0 s1) (qV (fun s2 =>
  sI s2 a0 7 7 ((-1)) (fun s3 =>
  sI s3 a0 7 8 0 (fun s4 =>
  sI s4 a0 7 9 0 (fun s5 =>
  some (.inl none, s5))))))))
set_option maxHeartbeats 4000000 in
theorem oX3_clear {Γ : CX} (C : OKC Γ cX3_clear RX3 none) (T : ∀ z ∈ (cx_c Γ).exceptionTable.toList, False) (hn : cx_nL Γ = 1) (hR : cx_fr Γ = 2 ∧ cx_lo Γ = 81) (hin : (cx_meth Γ).name = yX3_clear.name) : ∀ (a0 : Nat) (s0 : AS), OK Γ 0 [(0, .ref a0)] [] (fX3_clear a0 s0) s0 := by
  intro a0 s0
  unfold fX3_clear
  refine ok_aload_n C 0 dX3_clear_0 rfl ?_
  refine ok_callV C T [] (F := fX3_dropBlocks a0) (ctX3_dropBlocks (C.2.2.2.2.2.2.2.2.1) a0) vlX3_26 viX3_dropBlocks rfl rfl (by decide) rfl (by rw [hR.1, hR.2]; decide) (Nat.le_of_ble_eq_true rfl) dX3_clear_1 (ok_qV fun s1 => ?_)
  refine ok_aload_n C 0 dX3_clear_4 rfl ?_
  refine ok_callV C T [] (F := fX3_dropPieces a0) (ctX3_dropPieces (C.2.2.2.2.2.2.2.2.1) a0) vlX3_29 viX3_dropPieces rfl rfl (by decide) rfl (by rw [hR.1, hR.2]; decide) (Nat.le_of_ble_eq_true rfl) dX3_clear_5 (ok_qV fun s2 => ?_)
  refine ok_aload_n C 0 dX3_clear_8 rfl ?_
  refine ok_iconst C (v := (-1)) dX3_clear_9 (by decide) ?_
  refine ok_putI C flX3_22_7 dX3_clear_10 (fun s3 _ => ?_)
  refine ok_aload_n C 0 dX3_clear_13 rfl ?_
  refine ok_iconst C (v := 0) dX3_clear_14 (by decide) ?_
  refine ok_putI C flX3_32_7 dX3_clear_15 (fun s4 _ => ?_)
  refine ok_aload_n C 0 dX3_clear_18 rfl ?_
  refine ok_iconst C (v := 0) dX3_clear_19 (by decide) ?_
  refine ok_putI C flX3_35_7 dX3_clear_20 (fun s5 _ => ?_)
  exact ok_vreturn C dX3_clear_23
theorem ctX3_clear {l : Launch} (hl : l.stackTraces = false) {D : va_G} {dA : Nat → ClassId} {B0 : Nat} (a0 : Nat) : Ct l D dA B0 yX3_clear (.code yX3_clear cX3_clear 1 (none) :: ax_ALL) 2 81 [.ref a0] (fX3_clear a0) :=
  Ct.of hl (by decide +kernel) (Nat.le_of_ble_eq_true rfl) fun Γ C _ _ _ _ e5 e6 e7 T hin => oX3_clear C T e5 ⟨e6, e7⟩ hin a0 _
/-! ChaseLocker$Row.copyFrom(LChaseLocker$Row;)V -/
def fX3_copyFrom (a0 : Nat) (a1 : Nat) (s0 : AS) : Option AR :=
  gR s0 a1 7 0 (fun q1 =>
  gR s0 a0 7 0 (fun q2 =>
  cpI 100 .int s0 q1 0 q2 0 6 (fun s3 =>
  gI s3 a1 7 1 (fun v4 =>
  sI s3 a0 7 1 v4 (fun s5 =>
  gI s5 a1 7 2 (fun v6 =>
  sI s5 a0 7 2 v6 (fun s7 =>
  gR s7 a1 7 3 (fun q8 =>
  gR s7 a0 7 3 (fun q9 =>
  cpJ s7 q8 0 q9 0 32 (fun s10 =>
  gI s10 a1 7 4 (fun v11 =>
  sI s10 a0 7 4 v11 (fun s12 =>
  gI s12 a1 7 5 (fun v13 =>
  sI s12 a0 7 5 v13 (fun s14 =>
  gR s14 a1 7 6 (fun q15 =>
  gR s14 a0 7 6 (fun q16 =>
  cpI 100 .int s14 q15 0 q16 0 10 (fun s17 =>
  gI s17 a1 7 7 (fun v18 =>
  sI s17 a0 7 7 v18 (fun s19 =>
  gI s19 a1 7 8 (fun v20 =>
  sI s19 a0 7 8 v20 (fun s21 =>
  gI s21 a1 7 9 (fun v22 =>
  sI s21 a0 7 9 v22 (fun s23 =>
  some (.inl none, s23))))))))))))))))))))))))
set_option maxHeartbeats 4000000 in
theorem oX3_copyFrom {Γ : CX} (C : OKC Γ cX3_copyFrom RX3 none) (T : ∀ z ∈ (cx_c Γ).exceptionTable.toList, False) (hn : cx_nL Γ = 2) (hR : cx_fr Γ = 2 ∧ cx_lo Γ = 100) (hin : (cx_meth Γ).name = yX3_copyFrom.name) : ∀ (a0 : Nat) (a1 : Nat) (s0 : AS), OK Γ 0 [(0, .ref a0), (1, .ref a1)] [] (fX3_copyFrom a0 a1 s0) s0 := by
  intro a0 a1 s0
  unfold fX3_copyFrom
  refine ok_aload_n C 1 dX3_copyFrom_0 rfl ?_
  refine ok_getR C frX3_11_7 dX3_copyFrom_1 (fun q1 => ?_)
  refine ok_iconst C (v := 0) dX3_copyFrom_4 (by decide) ?_
  refine ok_aload_n C 0 dX3_copyFrom_5 rfl ?_
  refine ok_getR C frX3_11_7 dX3_copyFrom_6 (fun q2 => ?_)
  refine ok_iconst C (v := 0) dX3_copyFrom_9 (by decide) ?_
  refine ok_bipush C (v := 6) dX3_copyFrom_10 (by decide) ?_
  refine ok_copyI C 100 0 clX3_38 (fun _ => rfl) rfl (by decide) (by decide) (by decide) (by decide) (by rw [hR.1]; decide) (by rw [hR.2]; exact Nat.le_of_ble_eq_true rfl) dX3_copyFrom_12 (fun s3 => ?_)
  refine ok_aload_n C 0 dX3_copyFrom_15 rfl ?_
  refine ok_aload_n C 1 dX3_copyFrom_16 rfl ?_
  refine ok_getI C frX3_44_7 dX3_copyFrom_17 (fun v4 => ?_)
  refine ok_putI C flX3_44_7 dX3_copyFrom_20 (fun s5 _ => ?_)
  refine ok_aload_n C 0 dX3_copyFrom_23 rfl ?_
  refine ok_aload_n C 1 dX3_copyFrom_24 rfl ?_
  refine ok_getI C frX3_47_7 dX3_copyFrom_25 (fun v6 => ?_)
  refine ok_putI C flX3_47_7 dX3_copyFrom_28 (fun s7 _ => ?_)
  refine ok_aload_n C 1 dX3_copyFrom_31 rfl ?_
  refine ok_getR C frX3_15_7 dX3_copyFrom_32 (fun q8 => ?_)
  refine ok_iconst C (v := 0) dX3_copyFrom_35 (by decide) ?_
  refine ok_aload_n C 0 dX3_copyFrom_36 rfl ?_
  refine ok_getR C frX3_15_7 dX3_copyFrom_37 (fun q9 => ?_)
  refine ok_iconst C (v := 0) dX3_copyFrom_40 (by decide) ?_
  refine ok_bipush C (v := 32) dX3_copyFrom_41 (by decide) ?_
  refine ok_copyJ C clX3_38 (by rw [hR.1]; decide) (by rw [hR.2]; exact Nat.le_of_ble_eq_true rfl) dX3_copyFrom_43 (fun s10 => ?_)
  refine ok_aload_n C 0 dX3_copyFrom_46 rfl ?_
  refine ok_aload_n C 1 dX3_copyFrom_47 rfl ?_
  refine ok_getI C frX3_50_7 dX3_copyFrom_48 (fun v11 => ?_)
  refine ok_putI C flX3_50_7 dX3_copyFrom_51 (fun s12 _ => ?_)
  refine ok_aload_n C 0 dX3_copyFrom_54 rfl ?_
  refine ok_aload_n C 1 dX3_copyFrom_55 rfl ?_
  refine ok_getI C frX3_53_7 dX3_copyFrom_56 (fun v13 => ?_)
  refine ok_putI C flX3_53_7 dX3_copyFrom_59 (fun s14 _ => ?_)
  refine ok_aload_n C 1 dX3_copyFrom_62 rfl ?_
  refine ok_getR C frX3_19_7 dX3_copyFrom_63 (fun q15 => ?_)
  refine ok_iconst C (v := 0) dX3_copyFrom_66 (by decide) ?_
  refine ok_aload_n C 0 dX3_copyFrom_67 rfl ?_
  refine ok_getR C frX3_19_7 dX3_copyFrom_68 (fun q16 => ?_)
  refine ok_iconst C (v := 0) dX3_copyFrom_71 (by decide) ?_
  refine ok_bipush C (v := 10) dX3_copyFrom_72 (by decide) ?_
  refine ok_copyI C 100 0 clX3_38 (fun _ => rfl) rfl (by decide) (by decide) (by decide) (by decide) (by rw [hR.1]; decide) (by rw [hR.2]; exact Nat.le_of_ble_eq_true rfl) dX3_copyFrom_74 (fun s17 => ?_)
  refine ok_aload_n C 0 dX3_copyFrom_77 rfl ?_
  refine ok_aload_n C 1 dX3_copyFrom_78 rfl ?_
  refine ok_getI C frX3_22_7 dX3_copyFrom_79 (fun v18 => ?_)
  refine ok_putI C flX3_22_7 dX3_copyFrom_82 (fun s19 _ => ?_)
  refine ok_aload_n C 0 dX3_copyFrom_85 rfl ?_
  refine ok_aload_n C 1 dX3_copyFrom_86 rfl ?_
  refine ok_getI C frX3_32_7 dX3_copyFrom_87 (fun v20 => ?_)
  refine ok_putI C flX3_32_7 dX3_copyFrom_90 (fun s21 _ => ?_)
  refine ok_aload_n C 0 dX3_copyFrom_93 rfl ?_
  refine ok_aload_n C 1 dX3_copyFrom_94 rfl ?_
  refine ok_getI C frX3_35_7 dX3_copyFrom_95 (fun v22 => ?_)
  refine ok_putI C flX3_35_7 dX3_copyFrom_98 (fun s23 _ => ?_)
  exact ok_vreturn C dX3_copyFrom_101
theorem ctX3_copyFrom {l : Launch} (hl : l.stackTraces = false) {D : va_G} {dA : Nat → ClassId} {B0 : Nat} (a0 : Nat) (a1 : Nat) : Ct l D dA B0 yX3_copyFrom (.code yX3_copyFrom cX3_copyFrom 2 (none) :: ax_ALL) 2 100 [.ref a0, .ref a1] (fX3_copyFrom a0 a1) :=
  Ct.of hl (by decide +kernel) (Nat.le_of_ble_eq_true rfl) fun Γ C _ _ _ _ e5 e6 e7 T hin => oX3_copyFrom C T e5 ⟨e6, e7⟩ hin a0 a1 _
/-! ChaseLocker$Row.hasQuoin()Z -/
def fX3_hasQuoin (a0 : Nat) (s0 : AS) : Option AR :=
  gI s0 a0 7 7 (fun v1 =>
  if v1 = (-1 : Int32) then (
    rZ 0 s0)
  else (
    rZ 1 s0))
set_option maxHeartbeats 4000000 in
theorem oX3_hasQuoin {Γ : CX} (C : OKC Γ cX3_hasQuoin RX3 (some (.boolean))) (T : ∀ z ∈ (cx_c Γ).exceptionTable.toList, False) (hn : cx_nL Γ = 1) (hR : cx_fr Γ = 1 ∧ cx_lo Γ = 60) (hin : (cx_meth Γ).name = yX3_hasQuoin.name) : ∀ (a0 : Nat) (s0 : AS), OK Γ 0 [(0, .ref a0)] [] (fX3_hasQuoin a0 s0) s0 := by
  intro a0 s0
  unfold fX3_hasQuoin
  refine ok_aload_n C 0 dX3_hasQuoin_0 rfl ?_
  refine ok_getI C frX3_22_7 dX3_hasQuoin_1 (fun v1 => ?_)
  refine ok_iconst C (v := (-1)) dX3_hasQuoin_4 (by decide) ?_
  refine ok_icmp_eq C 12 dX3_hasQuoin_5 (by decide) ?_ ?_
  · refine ok_iconst C (v := 0) dX3_hasQuoin_12 (by decide) ?_
    exact ok_zreturn C dX3_hasQuoin_13
  · refine ok_iconst C (v := 1) dX3_hasQuoin_8 (by decide) ?_
    refine ok_goto C 13 dX3_hasQuoin_9 (by decide) ?_
    exact ok_zreturn C dX3_hasQuoin_13
theorem ctX3_hasQuoin {l : Launch} (hl : l.stackTraces = false) {D : va_G} {dA : Nat → ClassId} {B0 : Nat} (a0 : Nat) : Ct l D dA B0 yX3_hasQuoin (.code yX3_hasQuoin cX3_hasQuoin 1 (some (.boolean)) :: ax_ALL) 1 60 [.ref a0] (fX3_hasQuoin a0) :=
  Ct.of hl (by decide +kernel) (Nat.le_of_ble_eq_true rfl) fun Γ C _ _ _ _ e5 e6 e7 T hin => oX3_hasQuoin C T e5 ⟨e6, e7⟩ hin a0 _
/-! ChaseLocker$Row.roomIn(LChaseLocker$Plan;)I -/
def fX3_roomIn (a0 : Nat) (a1 : Nat) (s0 : AS) : Option AR :=
  gI s0 a1 5 0 (fun v1 =>
  gI s0 a0 7 2 (fun v2 =>
  gI s0 a0 7 5 (fun v3 =>
  some (.inl (some (.int ((v1 - v2) - v3))), s0))))
set_option maxHeartbeats 4000000 in
theorem oX3_roomIn {Γ : CX} (C : OKC Γ cX3_roomIn RX3 (some (.int))) (T : ∀ z ∈ (cx_c Γ).exceptionTable.toList, False) (hn : cx_nL Γ = 2) (hR : cx_fr Γ = 1 ∧ cx_lo Γ = 60) (hin : (cx_meth Γ).name = yX3_roomIn.name) : ∀ (a0 : Nat) (a1 : Nat) (s0 : AS), OK Γ 0 [(0, .ref a0), (1, .ref a1)] [] (fX3_roomIn a0 a1 s0) s0 := by
  intro a0 a1 s0
  unfold fX3_roomIn
  refine ok_aload_n C 1 dX3_roomIn_0 rfl ?_
  refine ok_getI C frX3_56_5 dX3_roomIn_1 (fun v1 => ?_)
  refine ok_aload_n C 0 dX3_roomIn_4 rfl ?_
  refine ok_getI C frX3_47_7 dX3_roomIn_5 (fun v2 => ?_)
  refine ok_isub C dX3_roomIn_8 ?_
  refine ok_aload_n C 0 dX3_roomIn_9 rfl ?_
  refine ok_getI C frX3_53_7 dX3_roomIn_10 (fun v3 => ?_)
  refine ok_isub C dX3_roomIn_13 ?_
  exact ok_ireturn C dX3_roomIn_14
theorem ctX3_roomIn {l : Launch} (hl : l.stackTraces = false) {D : va_G} {dA : Nat → ClassId} {B0 : Nat} (a0 : Nat) (a1 : Nat) : Ct l D dA B0 yX3_roomIn (.code yX3_roomIn cX3_roomIn 2 (some (.int)) :: ax_ALL) 1 60 [.ref a0, .ref a1] (fX3_roomIn a0 a1) :=
  Ct.of hl (by decide +kernel) (Nat.le_of_ble_eq_true rfl) fun Γ C _ _ _ _ e5 e6 e7 T hin => oX3_roomIn C T e5 ⟨e6, e7⟩ hin a0 a1 _
/-! ChaseLocker$Row.gapIn(LChaseLocker$Plan;)I -/
def fX3_gapIn (a0 : Nat) (a1 : Nat) (s0 : AS) : Option AR :=
  cV s0 a0 7 (fX3_roomIn a0 a1 s0) (qI (fun v1 s2 =>
  cV s2 a0 7 (fX3_hasQuoin a0 s2) (qI (fun v3 s4 =>
  if v3 = 0 then (
    some (.inl (some (.int (v1 - 0))), s4))
  else (
    gI s4 a1 5 2 (fun v5 =>
    gI s4 a0 7 7 (fun v6 =>
    gI s4 a0 7 8 (fun v7 =>
    some (.inl (some (.int (v1 - ((v5 + v6) - v7)))), s4)))))))))
set_option maxHeartbeats 4000000 in
theorem oX3_gapIn {Γ : CX} (C : OKC Γ cX3_gapIn RX3 (some (.int))) (T : ∀ z ∈ (cx_c Γ).exceptionTable.toList, False) (hn : cx_nL Γ = 2) (hR : cx_fr Γ = 2 ∧ cx_lo Γ = 81) (hin : (cx_meth Γ).name = yX3_gapIn.name) : ∀ (a0 : Nat) (a1 : Nat) (s0 : AS), OK Γ 0 [(0, .ref a0), (1, .ref a1)] [] (fX3_gapIn a0 a1 s0) s0 := by
  intro a0 a1 s0
  unfold fX3_gapIn
  refine ok_aload_n C 0 dX3_gapIn_0 rfl ?_
  refine ok_aload_n C 1 dX3_gapIn_1 rfl ?_
  refine ok_callV C T [.ref a1] (F := fX3_roomIn a0 a1) (ctX3_roomIn (C.2.2.2.2.2.2.2.2.1) a0 a1) vlX3_61 viX3_roomIn rfl rfl (by decide) rfl (by rw [hR.1, hR.2]; decide) (Nat.le_of_ble_eq_true rfl) dX3_gapIn_2 (ok_qI fun v1 s2 => ?_)
  refine ok_aload_n C 0 dX3_gapIn_5 rfl ?_
  refine ok_callV C T [] (F := fX3_hasQuoin a0) (ctX3_hasQuoin (C.2.2.2.2.2.2.2.2.1) a0) vlX3_65 viX3_hasQuoin rfl rfl (by decide) rfl (by rw [hR.1, hR.2]; decide) (Nat.le_of_ble_eq_true rfl) dX3_gapIn_6 (ok_qI fun v3 s4 => ?_)
  refine ok_if_eq C 29 dX3_gapIn_9 (by decide) ?_ ?_
  · refine ok_iconst C (v := 0) dX3_gapIn_29 (by decide) ?_
    refine ok_isub C dX3_gapIn_30 ?_
    exact ok_ireturn C dX3_gapIn_31
  · refine ok_aload_n C 1 dX3_gapIn_12 rfl ?_
    refine ok_getI C frX3_69_5 dX3_gapIn_13 (fun v5 => ?_)
    refine ok_aload_n C 0 dX3_gapIn_16 rfl ?_
    refine ok_getI C frX3_22_7 dX3_gapIn_17 (fun v6 => ?_)
    refine ok_iadd C dX3_gapIn_20 ?_
    refine ok_aload_n C 0 dX3_gapIn_21 rfl ?_
    refine ok_getI C frX3_32_7 dX3_gapIn_22 (fun v7 => ?_)
    refine ok_isub C dX3_gapIn_25 ?_
    refine ok_goto C 30 dX3_gapIn_26 (by decide) ?_
    refine ok_isub C dX3_gapIn_30 ?_
    exact ok_ireturn C dX3_gapIn_31
theorem ctX3_gapIn {l : Launch} (hl : l.stackTraces = false) {D : va_G} {dA : Nat → ClassId} {B0 : Nat} (a0 : Nat) (a1 : Nat) : Ct l D dA B0 yX3_gapIn (.code yX3_gapIn cX3_gapIn 2 (some (.int)) :: ax_ALL) 2 81 [.ref a0, .ref a1] (fX3_gapIn a0 a1) :=
  Ct.of hl (by decide +kernel) (Nat.le_of_ble_eq_true rfl) fun Γ C _ _ _ _ e5 e6 e7 T hin => oX3_gapIn C T e5 ⟨e6, e7⟩ hin a0 a1 _
/-! ChaseLocker$Row.isTightIn(LChaseLocker$Plan;)Z -/
def fX3_isTightIn (a0 : Nat) (a1 : Nat) (s0 : AS) : Option AR :=
  cV s0 a0 7 (fX3_gapIn a0 a1 s0) (qI (fun v1 s2 =>
  if v1 = 0 then (
    gI s2 a0 7 9 (fun v3 =>
    if v3 = 0 then (
      rZ 1 s2)
    else (
      rZ 0 s2)))
  else (
    rZ 0 s2)))
set_option maxHeartbeats 4000000 in
theorem oX3_isTightIn {Γ : CX} (C : OKC Γ cX3_isTightIn RX3 (some (.boolean))) (T : ∀ z ∈ (cx_c Γ).exceptionTable.toList, False) (hn : cx_nL Γ = 2) (hR : cx_fr Γ = 3 ∧ cx_lo Γ = 102) (hin : (cx_meth Γ).name = yX3_isTightIn.name) : ∀ (a0 : Nat) (a1 : Nat) (s0 : AS), OK Γ 0 [(0, .ref a0), (1, .ref a1)] [] (fX3_isTightIn a0 a1 s0) s0 := by
  intro a0 a1 s0
  unfold fX3_isTightIn
  refine ok_aload_n C 0 dX3_isTightIn_0 rfl ?_
  refine ok_aload_n C 1 dX3_isTightIn_1 rfl ?_
  refine ok_callV C T [.ref a1] (F := fX3_gapIn a0 a1) (ctX3_gapIn (C.2.2.2.2.2.2.2.2.1) a0 a1) vlX3_72 viX3_gapIn rfl rfl (by decide) rfl (by rw [hR.1, hR.2]; decide) (Nat.le_of_ble_eq_true rfl) dX3_isTightIn_2 (ok_qI fun v1 s2 => ?_)
  refine ok_if_ne C 19 dX3_isTightIn_5 (by decide) ?_ ?_
  · refine ok_iconst C (v := 0) dX3_isTightIn_19 (by decide) ?_
    exact ok_zreturn C dX3_isTightIn_20
  · refine ok_aload_n C 0 dX3_isTightIn_8 rfl ?_
    refine ok_getI C frX3_35_7 dX3_isTightIn_9 (fun v3 => ?_)
    refine ok_if_ne C 19 dX3_isTightIn_12 (by decide) ?_ ?_
    · refine ok_iconst C (v := 0) dX3_isTightIn_19 (by decide) ?_
      exact ok_zreturn C dX3_isTightIn_20
    · refine ok_iconst C (v := 1) dX3_isTightIn_15 (by decide) ?_
      refine ok_goto C 20 dX3_isTightIn_16 (by decide) ?_
      exact ok_zreturn C dX3_isTightIn_20
theorem ctX3_isTightIn {l : Launch} (hl : l.stackTraces = false) {D : va_G} {dA : Nat → ClassId} {B0 : Nat} (a0 : Nat) (a1 : Nat) : Ct l D dA B0 yX3_isTightIn (.code yX3_isTightIn cX3_isTightIn 2 (some (.boolean)) :: ax_ALL) 3 102 [.ref a0, .ref a1] (fX3_isTightIn a0 a1) :=
  Ct.of hl (by decide +kernel) (Nat.le_of_ble_eq_true rfl) fun Γ C _ _ _ _ e5 e6 e7 T hin => oX3_isTightIn C T e5 ⟨e6, e7⟩ hin a0 a1 _
/-! ChaseLocker$Row.loosenessIn(LChaseLocker$Plan;)I -/
def fX3_loosenessIn (a0 : Nat) (a1 : Nat) (s0 : AS) : Option AR :=
  gI s0 a0 7 9 (fun v1 =>
  cV s0 a0 7 (fX3_gapIn a0 a1 s0) (qI (fun v2 s3 =>
  some (.inl (some (.int (v1 + (10 * v2)))), s3))))
set_option maxHeartbeats 4000000 in
theorem oX3_loosenessIn {Γ : CX} (C : OKC Γ cX3_loosenessIn RX3 (some (.int))) (T : ∀ z ∈ (cx_c Γ).exceptionTable.toList, False) (hn : cx_nL Γ = 2) (hR : cx_fr Γ = 3 ∧ cx_lo Γ = 102) (hin : (cx_meth Γ).name = yX3_loosenessIn.name) : ∀ (a0 : Nat) (a1 : Nat) (s0 : AS), OK Γ 0 [(0, .ref a0), (1, .ref a1)] [] (fX3_loosenessIn a0 a1 s0) s0 := by
  intro a0 a1 s0
  unfold fX3_loosenessIn
  refine ok_aload_n C 0 dX3_loosenessIn_0 rfl ?_
  refine ok_getI C frX3_35_7 dX3_loosenessIn_1 (fun v1 => ?_)
  refine ok_bipush C (v := 10) dX3_loosenessIn_4 (by decide) ?_
  refine ok_aload_n C 0 dX3_loosenessIn_6 rfl ?_
  refine ok_aload_n C 1 dX3_loosenessIn_7 rfl ?_
  refine ok_callV C T [.ref a1] (F := fX3_gapIn a0 a1) (ctX3_gapIn (C.2.2.2.2.2.2.2.2.1) a0 a1) vlX3_72 viX3_gapIn rfl rfl (by decide) rfl (by rw [hR.1, hR.2]; decide) (Nat.le_of_ble_eq_true rfl) dX3_loosenessIn_8 (ok_qI fun v2 s3 => ?_)
  refine ok_imul C dX3_loosenessIn_11 ?_
  refine ok_iadd C dX3_loosenessIn_12 ?_
  exact ok_ireturn C dX3_loosenessIn_13
theorem ctX3_loosenessIn {l : Launch} (hl : l.stackTraces = false) {D : va_G} {dA : Nat → ClassId} {B0 : Nat} (a0 : Nat) (a1 : Nat) : Ct l D dA B0 yX3_loosenessIn (.code yX3_loosenessIn cX3_loosenessIn 2 (some (.int)) :: ax_ALL) 3 102 [.ref a0, .ref a1] (fX3_loosenessIn a0 a1) :=
  Ct.of hl (by decide +kernel) (Nat.le_of_ble_eq_true rfl) fun Γ C _ _ _ _ e5 e6 e7 T hin => oX3_loosenessIn C T e5 ⟨e6, e7⟩ hin a0 a1 _
/-! ChaseLocker$Row.isFirmIn(LChaseLocker$Plan;)Z -/
def fX3_isFirmIn (a0 : Nat) (a1 : Nat) (s0 : AS) : Option AR :=
  cV s0 a0 7 (fX3_gapIn a0 a1 s0) (qI (fun v1 s2 =>
  if v1 = 0 then (
    gI s2 a0 7 9 (fun v3 =>
    if (10 : Int32) ≤ v3 then (
      rZ 0 s2)
    else (
      rZ 1 s2)))
  else (
    rZ 0 s2)))
set_option maxHeartbeats 4000000 in
theorem oX3_isFirmIn {Γ : CX} (C : OKC Γ cX3_isFirmIn RX3 (some (.boolean))) (T : ∀ z ∈ (cx_c Γ).exceptionTable.toList, False) (hn : cx_nL Γ = 2) (hR : cx_fr Γ = 3 ∧ cx_lo Γ = 102) (hin : (cx_meth Γ).name = yX3_isFirmIn.name) : ∀ (a0 : Nat) (a1 : Nat) (s0 : AS), OK Γ 0 [(0, .ref a0), (1, .ref a1)] [] (fX3_isFirmIn a0 a1 s0) s0 := by
  intro a0 a1 s0
  unfold fX3_isFirmIn
  refine ok_aload_n C 0 dX3_isFirmIn_0 rfl ?_
  refine ok_aload_n C 1 dX3_isFirmIn_1 rfl ?_
  refine ok_callV C T [.ref a1] (F := fX3_gapIn a0 a1) (ctX3_gapIn (C.2.2.2.2.2.2.2.2.1) a0 a1) vlX3_72 viX3_gapIn rfl rfl (by decide) rfl (by rw [hR.1, hR.2]; decide) (Nat.le_of_ble_eq_true rfl) dX3_isFirmIn_2 (ok_qI fun v1 s2 => ?_)
  refine ok_if_ne C 21 dX3_isFirmIn_5 (by decide) ?_ ?_
  · refine ok_iconst C (v := 0) dX3_isFirmIn_21 (by decide) ?_
    exact ok_zreturn C dX3_isFirmIn_22
  · refine ok_aload_n C 0 dX3_isFirmIn_8 rfl ?_
    refine ok_getI C frX3_35_7 dX3_isFirmIn_9 (fun v3 => ?_)
    refine ok_bipush C (v := 10) dX3_isFirmIn_12 (by decide) ?_
    refine ok_icmp_ge C 21 dX3_isFirmIn_14 (by decide) ?_ ?_
    · refine ok_iconst C (v := 0) dX3_isFirmIn_21 (by decide) ?_
      exact ok_zreturn C dX3_isFirmIn_22
    · refine ok_iconst C (v := 1) dX3_isFirmIn_17 (by decide) ?_
      refine ok_goto C 22 dX3_isFirmIn_18 (by decide) ?_
      exact ok_zreturn C dX3_isFirmIn_22
theorem ctX3_isFirmIn {l : Launch} (hl : l.stackTraces = false) {D : va_G} {dA : Nat → ClassId} {B0 : Nat} (a0 : Nat) (a1 : Nat) : Ct l D dA B0 yX3_isFirmIn (.code yX3_isFirmIn cX3_isFirmIn 2 (some (.boolean)) :: ax_ALL) 3 102 [.ref a0, .ref a1] (fX3_isFirmIn a0 a1) :=
  Ct.of hl (by decide +kernel) (Nat.le_of_ble_eq_true rfl) fun Γ C _ _ _ _ e5 e6 e7 T hin => oX3_isFirmIn C T e5 ⟨e6, e7⟩ hin a0 a1 _
/-! ChaseLocker$Row.growthInImpression(LChaseLocker$Plan;)I -/
def fX3_growthInImpression (a0 : Nat) (a1 : Nat) (s0 : AS) : Option AR :=
  gI s0 a1 5 4 (fun v1 =>
  gI s0 a0 7 1 (fun v2 =>
  some (.inl (some (.int (v1 * v2))), s0)))
set_option maxHeartbeats 4000000 in
theorem oX3_growthInImpression {Γ : CX} (C : OKC Γ cX3_growthInImpression RX3 (some (.int))) (T : ∀ z ∈ (cx_c Γ).exceptionTable.toList, False) (hn : cx_nL Γ = 2) (hR : cx_fr Γ = 1 ∧ cx_lo Γ = 60) (hin : (cx_meth Γ).name = yX3_growthInImpression.name) : ∀ (a0 : Nat) (a1 : Nat) (s0 : AS), OK Γ 0 [(0, .ref a0), (1, .ref a1)] [] (fX3_growthInImpression a0 a1 s0) s0 := by
  intro a0 a1 s0
  unfold fX3_growthInImpression
  refine ok_aload_n C 1 dX3_growthInImpression_0 rfl ?_
  refine ok_getI C frX3_75_5 dX3_growthInImpression_1 (fun v1 => ?_)
  refine ok_aload_n C 0 dX3_growthInImpression_4 rfl ?_
  refine ok_getI C frX3_44_7 dX3_growthInImpression_5 (fun v2 => ?_)
  refine ok_imul C dX3_growthInImpression_8 ?_
  exact ok_ireturn C dX3_growthInImpression_9
theorem ctX3_growthInImpression {l : Launch} (hl : l.stackTraces = false) {D : va_G} {dA : Nat → ClassId} {B0 : Nat} (a0 : Nat) (a1 : Nat) : Ct l D dA B0 yX3_growthInImpression (.code yX3_growthInImpression cX3_growthInImpression 2 (some (.int)) :: ax_ALL) 1 60 [.ref a0, .ref a1] (fX3_growthInImpression a0 a1) :=
  Ct.of hl (by decide +kernel) (Nat.le_of_ble_eq_true rfl) fun Γ C _ _ _ _ e5 e6 e7 T hin => oX3_growthInImpression C T e5 ⟨e6, e7⟩ hin a0 a1 _
/-! ChaseLocker$Row.woodIn(LChaseLocker$Plan;)I -/
def fX3_woodIn_30 (r4 : Nat → Nat → Int32 → Int32 → AS → Option AR) (a0 : Nat) (a1 : Nat) (x2 : Int32) (x3 : Int32) (s0 : AS) : Option AR :=
  lt (x3 + 1) (fun v1 =>
  r4 a0 a1 x2 v1 s0)
def fX3_woodIn_4  : Nat → Nat → Nat → Int32 → Int32 → AS → Option AR
  | 0, _, _, _, _, _ => none
  | n + 1, a0, a1, x2, x3, s0 =>
    gI s0 a1 5 7 (fun v1 =>
    if v1 ≤ x3 then (
      some (.inl (some (.int x2)), s0))
    else (
      gR s0 a1 5 8 (fun q2 =>
      aI s0 q2 101 x3 (fun v3 =>
      if v3 = 0 then (
        gR s0 a0 7 6 (fun q4 =>
        aI s0 q4 100 x3 (fun v5 =>
        lt (x2 + v5) (fun v6 =>
        fX3_woodIn_30 (fX3_woodIn_4 n) a0 a1 v6 x3 s0))))
      else (
        fX3_woodIn_30 (fX3_woodIn_4 n) a0 a1 x2 x3 s0)))))
def fX3_woodIn (a0 : Nat) (a1 : Nat) (s0 : AS) : Option AR :=
  fX3_woodIn_4 FU a0 a1 0 0 s0
set_option maxHeartbeats 4000000 in
theorem oX3_woodIn_30 {Γ : CX} (C : OKC Γ cX3_woodIn RX3 (some (.int))) (T : ∀ z ∈ (cx_c Γ).exceptionTable.toList, False) (hn : cx_nL Γ = 4) (hR : cx_fr Γ = 1 ∧ cx_lo Γ = 60) (hin : (cx_meth Γ).name = yX3_woodIn.name) {r4 : Nat → Nat → Int32 → Int32 → AS → Option AR} (h4 : ∀ (a0 : Nat) (a1 : Nat) (x2 : Int32) (x3 : Int32) (s0 : AS), OK Γ 4 [(0, .ref a0), (1, .ref a1), (2, .int x2), (3, .int x3)] [] (r4 a0 a1 x2 x3 s0) s0) : ∀ (a0 : Nat) (a1 : Nat) (x2 : Int32) (x3 : Int32) (s0 : AS), OK Γ 30 [(0, .ref a0), (1, .ref a1), (2, .int x2), (3, .int x3)] [] (fX3_woodIn_30 r4 a0 a1 x2 x3 s0) s0 := by
  intro a0 a1 x2 x3 s0
  unfold fX3_woodIn_30
  refine ok_iincL C 3 (c := 1) (fun v1 => [(3, .int v1), (0, .ref a0), (1, .ref a1), (2, .int x2)]) dX3_woodIn_30 rfl rfl (by rw [hn]; decide) (fun _ => rfl) (fun v1 => ?_)
  refine ok_goto C 4 dX3_woodIn_33 (by decide) ?_
  refine OK.sub (lv' := [(0, .ref a0), (1, .ref a1), (2, .int x2), (3, .int v1)]) [1, 2, 3, 0] rfl ?_
  exact h4 a0 a1 x2 v1 s0
set_option maxHeartbeats 4000000 in
theorem oX3_woodIn_4 {Γ : CX} (C : OKC Γ cX3_woodIn RX3 (some (.int))) (T : ∀ z ∈ (cx_c Γ).exceptionTable.toList, False) (hn : cx_nL Γ = 4) (hR : cx_fr Γ = 1 ∧ cx_lo Γ = 60) (hin : (cx_meth Γ).name = yX3_woodIn.name) : ∀ (n : Nat) (a0 : Nat) (a1 : Nat) (x2 : Int32) (x3 : Int32) (s0 : AS), OK Γ 4 [(0, .ref a0), (1, .ref a1), (2, .int x2), (3, .int x3)] [] (fX3_woodIn_4 n a0 a1 x2 x3 s0) s0 := by
  intro n
  induction n with
  | zero => intro _ _ _ _ s0; exact OK.none
  | succ n ih =>
    intro a0 a1 x2 x3 s0
    rw [fX3_woodIn_4]
    refine ok_iload_n C 3 dX3_woodIn_4 rfl ?_
    refine ok_aload_n C 1 dX3_woodIn_5 rfl ?_
    refine ok_getI C frX3_84_5 dX3_woodIn_6 (fun v1 => ?_)
    refine ok_icmp_ge C 36 dX3_woodIn_9 (by decide) ?_ ?_
    · refine ok_iload_n C 2 dX3_woodIn_36 rfl ?_
      exact ok_ireturn C dX3_woodIn_37
    · refine ok_aload_n C 1 dX3_woodIn_12 rfl ?_
      refine ok_getR C frX3_87_5 dX3_woodIn_13 (fun q2 => ?_)
      refine ok_iload_n C 3 dX3_woodIn_16 rfl ?_
      refine ok_zald C dX3_woodIn_17 (fun v3 => ?_)
      refine ok_if_ne C 30 dX3_woodIn_18 (by decide) ?_ ?_
      · exact oX3_woodIn_30 C T hn hR hin ih a0 a1 x2 x3 s0
      · refine ok_iload_n C 2 dX3_woodIn_21 rfl ?_
        refine ok_aload_n C 0 dX3_woodIn_22 rfl ?_
        refine ok_getR C frX3_19_7 dX3_woodIn_23 (fun q4 => ?_)
        refine ok_iload_n C 3 dX3_woodIn_26 rfl ?_
        refine ok_iald C dX3_woodIn_27 (fun v5 => ?_)
        refine ok_iadd C dX3_woodIn_28 ?_
        refine ok_lt (fun v6 => ?_)
        refine ok_istore_n C (i := 2) [(2, .int v6), (0, .ref a0), (1, .ref a1), (3, .int x3)] dX3_woodIn_29 rfl (by rw [hn]; decide) rfl ?_
        refine OK.sub (lv' := [(0, .ref a0), (1, .ref a1), (2, .int v6), (3, .int x3)]) [1, 2, 0, 3] rfl ?_
        exact oX3_woodIn_30 C T hn hR hin ih a0 a1 v6 x3 s0
set_option maxHeartbeats 4000000 in
theorem oX3_woodIn {Γ : CX} (C : OKC Γ cX3_woodIn RX3 (some (.int))) (T : ∀ z ∈ (cx_c Γ).exceptionTable.toList, False) (hn : cx_nL Γ = 4) (hR : cx_fr Γ = 1 ∧ cx_lo Γ = 60) (hin : (cx_meth Γ).name = yX3_woodIn.name) : ∀ (a0 : Nat) (a1 : Nat) (s0 : AS), OK Γ 0 [(0, .ref a0), (1, .ref a1)] [] (fX3_woodIn a0 a1 s0) s0 := by
  intro a0 a1 s0
  unfold fX3_woodIn
  refine ok_iconst C (v := 0) dX3_woodIn_0 (by decide) ?_
  refine ok_istore_n C (i := 2) [(2, .int 0), (0, .ref a0), (1, .ref a1)] dX3_woodIn_1 rfl (by rw [hn]; decide) rfl ?_
  refine ok_iconst C (v := 0) dX3_woodIn_2 (by decide) ?_
  refine ok_istore_n C (i := 3) [(3, .int 0), (2, .int 0), (0, .ref a0), (1, .ref a1)] dX3_woodIn_3 rfl (by rw [hn]; decide) rfl ?_
  refine OK.sub (lv' := [(0, .ref a0), (1, .ref a1), (2, .int 0), (3, .int 0)]) [2, 3, 1, 0] rfl ?_
  exact oX3_woodIn_4 C T hn hR hin FU a0 a1 0 0 s0
theorem ctX3_woodIn {l : Launch} (hl : l.stackTraces = false) {D : va_G} {dA : Nat → ClassId} {B0 : Nat} (a0 : Nat) (a1 : Nat) : Ct l D dA B0 yX3_woodIn (.code yX3_woodIn cX3_woodIn 4 (some (.int)) :: ax_ALL) 1 60 [.ref a0, .ref a1] (fX3_woodIn a0 a1) :=
  Ct.of hl (by decide +kernel) (Nat.le_of_ble_eq_true rfl) fun Γ C _ _ _ _ e5 e6 e7 T hin => oX3_woodIn C T e5 ⟨e6, e7⟩ hin a0 a1 _
/-! ChaseLocker$Row.growthInDay(LChaseLocker$Plan;)I -/
def fX3_growthInDay (a0 : Nat) (a1 : Nat) (s0 : AS) : Option AR :=
  gI s0 a1 5 5 (fun v1 =>
  cV s0 a0 7 (fX3_woodIn a0 a1 s0) (qI (fun v2 s3 =>
  some (.inl (some (.int (v1 * v2))), s3))))
set_option maxHeartbeats 4000000 in
theorem oX3_growthInDay {Γ : CX} (C : OKC Γ cX3_growthInDay RX3 (some (.int))) (T : ∀ z ∈ (cx_c Γ).exceptionTable.toList, False) (hn : cx_nL Γ = 2) (hR : cx_fr Γ = 2 ∧ cx_lo Γ = 83) (hin : (cx_meth Γ).name = yX3_growthInDay.name) : ∀ (a0 : Nat) (a1 : Nat) (s0 : AS), OK Γ 0 [(0, .ref a0), (1, .ref a1)] [] (fX3_growthInDay a0 a1 s0) s0 := by
  intro a0 a1 s0
  unfold fX3_growthInDay
  refine ok_aload_n C 1 dX3_growthInDay_0 rfl ?_
  refine ok_getI C frX3_78_5 dX3_growthInDay_1 (fun v1 => ?_)
  refine ok_aload_n C 0 dX3_growthInDay_4 rfl ?_
  refine ok_aload_n C 1 dX3_growthInDay_5 rfl ?_
  refine ok_callV C T [.ref a1] (F := fX3_woodIn a0 a1) (ctX3_woodIn (C.2.2.2.2.2.2.2.2.1) a0 a1) vlX3_81 viX3_woodIn rfl rfl (by decide) rfl (by rw [hR.1, hR.2]; decide) (Nat.le_of_ble_eq_true rfl) dX3_growthInDay_6 (ok_qI fun v2 s3 => ?_)
  refine ok_imul C dX3_growthInDay_9 ?_
  exact ok_ireturn C dX3_growthInDay_10
theorem ctX3_growthInDay {l : Launch} (hl : l.stackTraces = false) {D : va_G} {dA : Nat → ClassId} {B0 : Nat} (a0 : Nat) (a1 : Nat) : Ct l D dA B0 yX3_growthInDay (.code yX3_growthInDay cX3_growthInDay 2 (some (.int)) :: ax_ALL) 2 83 [.ref a0, .ref a1] (fX3_growthInDay a0 a1) :=
  Ct.of hl (by decide +kernel) (Nat.le_of_ble_eq_true rfl) fun Γ C _ _ _ _ e5 e6 e7 T hin => oX3_growthInDay C T e5 ⟨e6, e7⟩ hin a0 a1 _
/-! ChaseLocker$Row.takesBlock(LChaseLocker$Plan;I)Z -/
def fX3_takesBlock (a0 : Nat) (a1 : Nat) (x2 : Int32) (s0 : AS) : Option AR :=
  gI s0 a0 7 1 (fun v1 =>
  if (6 : Int32) ≤ v1 then (
    rZ 0 s0)
  else (
    cV s0 a0 7 (fX3_gapIn a0 a1 s0) (qI (fun v2 s3 =>
    if v2 < x2 then (
      rZ 0 s3)
    else (
      rZ 1 s3)))))
set_option maxHeartbeats 4000000 in
theorem oX3_takesBlock {Γ : CX} (C : OKC Γ cX3_takesBlock RX3 (some (.boolean))) (T : ∀ z ∈ (cx_c Γ).exceptionTable.toList, False) (hn : cx_nL Γ = 3) (hR : cx_fr Γ = 3 ∧ cx_lo Γ = 102) (hin : (cx_meth Γ).name = yX3_takesBlock.name) : ∀ (a0 : Nat) (a1 : Nat) (x2 : Int32) (s0 : AS), OK Γ 0 [(0, .ref a0), (1, .ref a1), (2, .int x2)] [] (fX3_takesBlock a0 a1 x2 s0) s0 := by
  intro a0 a1 x2 s0
  unfold fX3_takesBlock
  refine ok_aload_n C 0 dX3_takesBlock_0 rfl ?_
  refine ok_getI C frX3_44_7 dX3_takesBlock_1 (fun v1 => ?_)
  refine ok_bipush C (v := 6) dX3_takesBlock_4 (by decide) ?_
  refine ok_icmp_ge C 22 dX3_takesBlock_6 (by decide) ?_ ?_
  · refine ok_iconst C (v := 0) dX3_takesBlock_22 (by decide) ?_
    exact ok_zreturn C dX3_takesBlock_23
  · refine ok_iload_n C 2 dX3_takesBlock_9 rfl ?_
    refine ok_aload_n C 0 dX3_takesBlock_10 rfl ?_
    refine ok_aload_n C 1 dX3_takesBlock_11 rfl ?_
    refine ok_callV C T [.ref a1] (F := fX3_gapIn a0 a1) (ctX3_gapIn (C.2.2.2.2.2.2.2.2.1) a0 a1) vlX3_72 viX3_gapIn rfl rfl (by decide) rfl (by rw [hR.1, hR.2]; decide) (Nat.le_of_ble_eq_true rfl) dX3_takesBlock_12 (ok_qI fun v2 s3 => ?_)
    refine ok_icmp_gt C 22 dX3_takesBlock_15 (by decide) ?_ ?_
    · refine ok_iconst C (v := 0) dX3_takesBlock_22 (by decide) ?_
      exact ok_zreturn C dX3_takesBlock_23
    · refine ok_iconst C (v := 1) dX3_takesBlock_18 (by decide) ?_
      refine ok_goto C 23 dX3_takesBlock_19 (by decide) ?_
      exact ok_zreturn C dX3_takesBlock_23
theorem ctX3_takesBlock {l : Launch} (hl : l.stackTraces = false) {D : va_G} {dA : Nat → ClassId} {B0 : Nat} (a0 : Nat) (a1 : Nat) (x2 : Int32) : Ct l D dA B0 yX3_takesBlock (.code yX3_takesBlock cX3_takesBlock 3 (some (.boolean)) :: ax_ALL) 3 102 [.ref a0, .ref a1, .int x2] (fX3_takesBlock a0 a1 x2) :=
  Ct.of hl (by decide +kernel) (Nat.le_of_ble_eq_true rfl) fun Γ C _ _ _ _ e5 e6 e7 T hin => oX3_takesBlock C T e5 ⟨e6, e7⟩ hin a0 a1 x2 _
/-! ChaseLocker$Row.blockAt(I)I -/
def fX3_blockAt (a0 : Nat) (x1 : Int32) (s0 : AS) : Option AR :=
  if x1 < 0 then (
    some (.inl (some (.int ((-1)))), s0))
  else (
    gI s0 a0 7 1 (fun v1 =>
    if v1 ≤ x1 then (
      some (.inl (some (.int ((-1)))), s0))
    else (
      if (6 : Int32) ≤ x1 then (
        some (.inl (some (.int ((-1)))), s0))
      else (
        gR s0 a0 7 0 (fun q2 =>
        aI s0 q2 100 x1 (fun v3 =>
        some (.inl (some (.int v3)), s0)))))))
set_option maxHeartbeats 4000000 in
theorem oX3_blockAt {Γ : CX} (C : OKC Γ cX3_blockAt RX3 (some (.int))) (T : ∀ z ∈ (cx_c Γ).exceptionTable.toList, False) (hn : cx_nL Γ = 2) (hR : cx_fr Γ = 1 ∧ cx_lo Γ = 60) (hin : (cx_meth Γ).name = yX3_blockAt.name) : ∀ (a0 : Nat) (x1 : Int32) (s0 : AS), OK Γ 0 [(0, .ref a0), (1, .int x1)] [] (fX3_blockAt a0 x1 s0) s0 := by
  intro a0 x1 s0
  unfold fX3_blockAt
  refine ok_iload_n C 1 dX3_blockAt_0 rfl ?_
  refine ok_if_lt C 27 dX3_blockAt_1 (by decide) ?_ ?_
  · refine ok_iconst C (v := (-1)) dX3_blockAt_27 (by decide) ?_
    exact ok_ireturn C dX3_blockAt_28
  · refine ok_iload_n C 1 dX3_blockAt_4 rfl ?_
    refine ok_aload_n C 0 dX3_blockAt_5 rfl ?_
    refine ok_getI C frX3_44_7 dX3_blockAt_6 (fun v1 => ?_)
    refine ok_icmp_ge C 27 dX3_blockAt_9 (by decide) ?_ ?_
    · refine ok_iconst C (v := (-1)) dX3_blockAt_27 (by decide) ?_
      exact ok_ireturn C dX3_blockAt_28
    · refine ok_iload_n C 1 dX3_blockAt_12 rfl ?_
      refine ok_bipush C (v := 6) dX3_blockAt_13 (by decide) ?_
      refine ok_icmp_ge C 27 dX3_blockAt_15 (by decide) ?_ ?_
      · refine ok_iconst C (v := (-1)) dX3_blockAt_27 (by decide) ?_
        exact ok_ireturn C dX3_blockAt_28
      · refine ok_aload_n C 0 dX3_blockAt_18 rfl ?_
        refine ok_getR C frX3_11_7 dX3_blockAt_19 (fun q2 => ?_)
        refine ok_iload_n C 1 dX3_blockAt_22 rfl ?_
        refine ok_iald C dX3_blockAt_23 (fun v3 => ?_)
        refine ok_goto C 28 dX3_blockAt_24 (by decide) ?_
        exact ok_ireturn C dX3_blockAt_28
theorem ctX3_blockAt {l : Launch} (hl : l.stackTraces = false) {D : va_G} {dA : Nat → ClassId} {B0 : Nat} (a0 : Nat) (x1 : Int32) : Ct l D dA B0 yX3_blockAt (.code yX3_blockAt cX3_blockAt 2 (some (.int)) :: ax_ALL) 1 60 [.ref a0, .int x1] (fX3_blockAt a0 x1) :=
  Ct.of hl (by decide +kernel) (Nat.le_of_ble_eq_true rfl) fun Γ C _ _ _ _ e5 e6 e7 T hin => oX3_blockAt C T e5 ⟨e6, e7⟩ hin a0 x1 _
/-! ChaseLocker$Row.addBlock(I)V -/
def fX3_addBlock (a0 : Nat) (x1 : Int32) (s0 : AS) : Option AR :=
  gI s0 a0 7 1 (fun v1 =>
  if (6 : Int32) ≤ v1 then (
    some (.inl none, s0))
  else (
    gR s0 a0 7 0 (fun q2 =>
    gI s0 a0 7 1 (fun v3 =>
    uI s0 q2 v3 x1 (fun s4 =>
    gI s4 a0 7 1 (fun v5 =>
    sI s4 a0 7 1 (v5 + 1) (fun s6 =>
    gI s6 a0 7 2 (fun v7 =>
    sI s6 a0 7 2 (v7 + x1) (fun s8 =>
    some (.inl none, s8))))))))))
set_option maxHeartbeats 4000000 in
theorem oX3_addBlock {Γ : CX} (C : OKC Γ cX3_addBlock RX3 none) (T : ∀ z ∈ (cx_c Γ).exceptionTable.toList, False) (hn : cx_nL Γ = 2) (hR : cx_fr Γ = 1 ∧ cx_lo Γ = 60) (hin : (cx_meth Γ).name = yX3_addBlock.name) : ∀ (a0 : Nat) (x1 : Int32) (s0 : AS), OK Γ 0 [(0, .ref a0), (1, .int x1)] [] (fX3_addBlock a0 x1 s0) s0 := by
  intro a0 x1 s0
  unfold fX3_addBlock
  refine ok_aload_n C 0 dX3_addBlock_0 rfl ?_
  refine ok_getI C frX3_44_7 dX3_addBlock_1 (fun v1 => ?_)
  refine ok_bipush C (v := 6) dX3_addBlock_4 (by decide) ?_
  refine ok_icmp_ge C 39 dX3_addBlock_6 (by decide) ?_ ?_
  · exact ok_vreturn C dX3_addBlock_39
  · refine ok_aload_n C 0 dX3_addBlock_9 rfl ?_
    refine ok_getR C frX3_11_7 dX3_addBlock_10 (fun q2 => ?_)
    refine ok_aload_n C 0 dX3_addBlock_13 rfl ?_
    refine ok_getI C frX3_44_7 dX3_addBlock_14 (fun v3 => ?_)
    refine ok_iload_n C 1 dX3_addBlock_17 rfl ?_
    refine ok_iast C dX3_addBlock_18 (fun s4 _ => ?_)
    refine ok_aload_n C 0 dX3_addBlock_19 rfl ?_
    refine ok_dup C dX3_addBlock_20 rfl ?_
    refine ok_getI C frX3_44_7 dX3_addBlock_21 (fun v5 => ?_)
    refine ok_iconst C (v := 1) dX3_addBlock_24 (by decide) ?_
    refine ok_iadd C dX3_addBlock_25 ?_
    refine ok_putI C flX3_44_7 dX3_addBlock_26 (fun s6 _ => ?_)
    refine ok_aload_n C 0 dX3_addBlock_29 rfl ?_
    refine ok_dup C dX3_addBlock_30 rfl ?_
    refine ok_getI C frX3_47_7 dX3_addBlock_31 (fun v7 => ?_)
    refine ok_iload_n C 1 dX3_addBlock_34 rfl ?_
    refine ok_iadd C dX3_addBlock_35 ?_
    refine ok_putI C flX3_47_7 dX3_addBlock_36 (fun s8 _ => ?_)
    exact ok_vreturn C dX3_addBlock_39
theorem ctX3_addBlock {l : Launch} (hl : l.stackTraces = false) {D : va_G} {dA : Nat → ClassId} {B0 : Nat} (a0 : Nat) (x1 : Int32) : Ct l D dA B0 yX3_addBlock (.code yX3_addBlock cX3_addBlock 2 (none) :: ax_ALL) 1 60 [.ref a0, .int x1] (fX3_addBlock a0 x1) :=
  Ct.of hl (by decide +kernel) (Nat.le_of_ble_eq_true rfl) fun Γ C _ _ _ _ e5 e6 e7 T hin => oX3_addBlock C T e5 ⟨e6, e7⟩ hin a0 x1 _
/-! ChaseLocker$Row.removeBlock(I)I -/
def fX3_removeBlock_45  (a0 : Nat) (x2 : Int32) (s0 : AS) : Option AR :=
  gI s0 a0 7 1 (fun v1 =>
  sI s0 a0 7 1 (v1 - 1) (fun s2 =>
  gI s2 a0 7 2 (fun v3 =>
  sI s2 a0 7 2 (v3 - x2) (fun s4 =>
  some (.inl (some (.int x2)), s4)))))
def fX3_removeBlock_17  : Nat → Nat → Int32 → Int32 → AS → Option AR
  | 0, _, _, _, _ => none
  | n + 1, a0, x2, x3, s0 =>
    gI s0 a0 7 1 (fun v1 =>
    if v1 ≤ x3 then (
      fX3_removeBlock_45 a0 x2 s0)
    else (
      gR s0 a0 7 0 (fun q2 =>
      gR s0 a0 7 0 (fun q3 =>
      aI s0 q3 100 x3 (fun v4 =>
      uI s0 q2 (x3 - 1) v4 (fun s5 =>
      lt (x3 + 1) (fun v6 =>
      fX3_removeBlock_17 n a0 x2 v6 s5)))))))
def fX3_removeBlock (a0 : Nat) (x1 : Int32) (s0 : AS) : Option AR :=
  cV s0 a0 7 (fX3_blockAt a0 x1 s0) (qI (fun v1 s2 =>
  if v1 = (-1 : Int32) then (
    some (.inl (some (.int ((-1)))), s2))
  else (
    lt (x1 + 1) (fun v3 =>
    fX3_removeBlock_17 FU a0 v1 v3 s2))))
set_option maxHeartbeats 4000000 in
theorem oX3_removeBlock_45 {Γ : CX} (C : OKC Γ cX3_removeBlock RX3 (some (.int))) (T : ∀ z ∈ (cx_c Γ).exceptionTable.toList, False) (hn : cx_nL Γ = 4) (hR : cx_fr Γ = 2 ∧ cx_lo Γ = 81) (hin : (cx_meth Γ).name = yX3_removeBlock.name) : ∀ (a0 : Nat) (x2 : Int32) (s0 : AS), OK Γ 45 [(0, .ref a0), (2, .int x2)] [] (fX3_removeBlock_45  a0 x2 s0) s0 := by
  intro a0 x2 s0
  unfold fX3_removeBlock_45
  refine ok_aload_n C 0 dX3_removeBlock_45 rfl ?_
  refine ok_dup C dX3_removeBlock_46 rfl ?_
  refine ok_getI C frX3_44_7 dX3_removeBlock_47 (fun v1 => ?_)
  refine ok_iconst C (v := 1) dX3_removeBlock_50 (by decide) ?_
  refine ok_isub C dX3_removeBlock_51 ?_
  refine ok_putI C flX3_44_7 dX3_removeBlock_52 (fun s2 _ => ?_)
  refine ok_aload_n C 0 dX3_removeBlock_55 rfl ?_
  refine ok_dup C dX3_removeBlock_56 rfl ?_
  refine ok_getI C frX3_47_7 dX3_removeBlock_57 (fun v3 => ?_)
  refine ok_iload_n C 1 dX3_removeBlock_60 rfl ?_
  refine ok_isub C dX3_removeBlock_61 ?_
  refine ok_putI C flX3_47_7 dX3_removeBlock_62 (fun s4 _ => ?_)
  refine ok_iload_n C 1 dX3_removeBlock_65 rfl ?_
  exact ok_ireturn C dX3_removeBlock_66
set_option maxHeartbeats 4000000 in
theorem oX3_removeBlock_17 {Γ : CX} (C : OKC Γ cX3_removeBlock RX3 (some (.int))) (T : ∀ z ∈ (cx_c Γ).exceptionTable.toList, False) (hn : cx_nL Γ = 4) (hR : cx_fr Γ = 2 ∧ cx_lo Γ = 81) (hin : (cx_meth Γ).name = yX3_removeBlock.name) : ∀ (n : Nat) (a0 : Nat) (x2 : Int32) (x3 : Int32) (s0 : AS), OK Γ 17 [(0, .ref a0), (2, .int x2), (3, .int x3)] [] (fX3_removeBlock_17 n a0 x2 x3 s0) s0 := by
  intro n
  induction n with
  | zero => intro _ _ _ s0; exact OK.none
  | succ n ih =>
    intro a0 x2 x3 s0
    rw [fX3_removeBlock_17]
    refine ok_iload_n C 2 dX3_removeBlock_17 rfl ?_
    refine ok_aload_n C 0 dX3_removeBlock_18 rfl ?_
    refine ok_getI C frX3_44_7 dX3_removeBlock_19 (fun v1 => ?_)
    refine ok_icmp_ge C 45 dX3_removeBlock_22 (by decide) ?_ ?_
    · refine OK.sub (lv' := [(0, .ref a0), (2, .int x2)]) [0, 1] rfl ?_
      exact oX3_removeBlock_45 C T hn hR hin a0 x2 s0
    · refine ok_aload_n C 0 dX3_removeBlock_25 rfl ?_
      refine ok_getR C frX3_11_7 dX3_removeBlock_26 (fun q2 => ?_)
      refine ok_iload_n C 2 dX3_removeBlock_29 rfl ?_
      refine ok_iconst C (v := 1) dX3_removeBlock_30 (by decide) ?_
      refine ok_isub C dX3_removeBlock_31 ?_
      refine ok_aload_n C 0 dX3_removeBlock_32 rfl ?_
      refine ok_getR C frX3_11_7 dX3_removeBlock_33 (fun q3 => ?_)
      refine ok_iload_n C 2 dX3_removeBlock_36 rfl ?_
      refine ok_iald C dX3_removeBlock_37 (fun v4 => ?_)
      refine ok_iast C dX3_removeBlock_38 (fun s5 _ => ?_)
      refine ok_iincL C 2 (c := 1) (fun v6 => [(3, .int v6), (0, .ref a0), (2, .int x2)]) dX3_removeBlock_39 rfl rfl (by rw [hn]; decide) (fun _ => rfl) (fun v6 => ?_)
      refine ok_goto C 17 dX3_removeBlock_42 (by decide) ?_
      refine OK.sub (lv' := [(0, .ref a0), (2, .int x2), (3, .int v6)]) [1, 2, 0] rfl ?_
      exact ih a0 x2 v6 s5
set_option maxHeartbeats 4000000 in
theorem oX3_removeBlock {Γ : CX} (C : OKC Γ cX3_removeBlock RX3 (some (.int))) (T : ∀ z ∈ (cx_c Γ).exceptionTable.toList, False) (hn : cx_nL Γ = 4) (hR : cx_fr Γ = 2 ∧ cx_lo Γ = 81) (hin : (cx_meth Γ).name = yX3_removeBlock.name) : ∀ (a0 : Nat) (x1 : Int32) (s0 : AS), OK Γ 0 [(0, .ref a0), (1, .int x1)] [] (fX3_removeBlock a0 x1 s0) s0 := by
  intro a0 x1 s0
  unfold fX3_removeBlock
  refine ok_aload_n C 0 dX3_removeBlock_0 rfl ?_
  refine ok_iload_n C 1 dX3_removeBlock_1 rfl ?_
  refine ok_callV C T [.int x1] (F := fX3_blockAt a0 x1) (ctX3_blockAt (C.2.2.2.2.2.2.2.2.1) a0 x1) vlX3_91 viX3_blockAt rfl rfl (by decide) rfl (by rw [hR.1, hR.2]; decide) (Nat.le_of_ble_eq_true rfl) dX3_removeBlock_2 (ok_qI fun v1 s2 => ?_)
  refine ok_istore_n C (i := 2) [(2, .int v1), (0, .ref a0), (1, .int x1)] dX3_removeBlock_5 rfl (by rw [hn]; decide) rfl ?_
  refine ok_iload_n C 0 dX3_removeBlock_6 rfl ?_
  refine ok_iconst C (v := (-1)) dX3_removeBlock_7 (by decide) ?_
  refine ok_icmp_ne C 13 dX3_removeBlock_8 (by decide) ?_ ?_
  · refine ok_iload_n C 2 dX3_removeBlock_13 rfl ?_
    refine ok_iconst C (v := 1) dX3_removeBlock_14 (by decide) ?_
    refine ok_iadd C dX3_removeBlock_15 ?_
    refine ok_lt (fun v3 => ?_)
    refine ok_istore_n C (i := 3) [(3, .int v3), (2, .int v1), (0, .ref a0), (1, .int x1)] dX3_removeBlock_16 rfl (by rw [hn]; decide) rfl ?_
    refine OK.sub (lv' := [(0, .ref a0), (2, .int v1), (3, .int v3)]) [2, 1, 0] rfl ?_
    exact oX3_removeBlock_17 C T hn hR hin FU a0 v1 v3 s2
  · refine ok_iconst C (v := (-1)) dX3_removeBlock_11 (by decide) ?_
    exact ok_ireturn C dX3_removeBlock_12
theorem ctX3_removeBlock {l : Launch} (hl : l.stackTraces = false) {D : va_G} {dA : Nat → ClassId} {B0 : Nat} (a0 : Nat) (x1 : Int32) : Ct l D dA B0 yX3_removeBlock (.code yX3_removeBlock cX3_removeBlock 4 (some (.int)) :: ax_ALL) 2 81 [.ref a0, .int x1] (fX3_removeBlock a0 x1) :=
  Ct.of hl (by decide +kernel) (Nat.le_of_ble_eq_true rfl) fun Γ C _ _ _ _ e5 e6 e7 T hin => oX3_removeBlock C T e5 ⟨e6, e7⟩ hin a0 x1 _
/-! ChaseLocker$Row.pieceAt(I)I -/
def fX3_pieceAt (a0 : Nat) (x1 : Int32) (s0 : AS) : Option AR :=
  if x1 < 0 then (
    some (.inl (some (.int ((-1)))), s0))
  else (
    gI s0 a0 7 4 (fun v1 =>
    if v1 ≤ x1 then (
      some (.inl (some (.int ((-1)))), s0))
    else (
      if x1 < (512 : Int32) then (
        if (16 : Int32) = 0 then none else (
        lt ((x1 - x1 / 16 * 16) * 4) (fun v2 =>
        gR s0 a0 7 3 (fun q3 =>
        if (16 : Int32) = 0 then none else (
        aJ s0 q3 (x1 / 16) (fun l4 =>
        some (.inl (some (.int ((((l4.toUInt64 >>> (v2.toInt64.toUInt64 &&& Int64.toUInt64 63)).toInt64).toInt32) &&& 15))), s0)))))))
      else (
        some (.inl (some (.int ((-1)))), s0)))))
set_option maxHeartbeats 4000000 in
theorem oX3_pieceAt {Γ : CX} (C : OKC Γ cX3_pieceAt RX3 (some (.int))) (T : ∀ z ∈ (cx_c Γ).exceptionTable.toList, False) (hn : cx_nL Γ = 3) (hR : cx_fr Γ = 1 ∧ cx_lo Γ = 60) (hin : (cx_meth Γ).name = yX3_pieceAt.name) : ∀ (a0 : Nat) (x1 : Int32) (s0 : AS), OK Γ 0 [(0, .ref a0), (1, .int x1)] [] (fX3_pieceAt a0 x1 s0) s0 := by
  intro a0 x1 s0
  unfold fX3_pieceAt
  refine ok_iload_n C 1 dX3_pieceAt_0 rfl ?_
  refine ok_if_lt C 19 dX3_pieceAt_1 (by decide) ?_ ?_
  · refine ok_iconst C (v := (-1)) dX3_pieceAt_19 (by decide) ?_
    exact ok_ireturn C dX3_pieceAt_20
  · refine ok_iload_n C 1 dX3_pieceAt_4 rfl ?_
    refine ok_aload_n C 0 dX3_pieceAt_5 rfl ?_
    refine ok_getI C frX3_50_7 dX3_pieceAt_6 (fun v1 => ?_)
    refine ok_icmp_ge C 19 dX3_pieceAt_9 (by decide) ?_ ?_
    · refine ok_iconst C (v := (-1)) dX3_pieceAt_19 (by decide) ?_
      exact ok_ireturn C dX3_pieceAt_20
    · refine ok_iload_n C 1 dX3_pieceAt_12 rfl ?_
      refine ok_sipush C (v := 512) dX3_pieceAt_13 (by decide) ?_
      refine ok_icmp_lt C 21 dX3_pieceAt_16 (by decide) ?_ ?_
      · refine ok_iload_n C 1 dX3_pieceAt_21 rfl ?_
        refine ok_bipush C (v := 16) dX3_pieceAt_22 (by decide) ?_
        refine ok_irem C dX3_pieceAt_24 ?_
        refine ok_iconst C (v := 4) dX3_pieceAt_25 (by decide) ?_
        refine ok_imul C dX3_pieceAt_26 ?_
        refine ok_lt (fun v2 => ?_)
        refine ok_istore_n C (i := 2) [(2, .int v2), (0, .ref a0), (1, .int x1)] dX3_pieceAt_27 rfl (by rw [hn]; decide) rfl ?_
        refine ok_aload_n C 1 dX3_pieceAt_28 rfl ?_
        refine ok_getR C frX3_15_7 dX3_pieceAt_29 (fun q3 => ?_)
        refine ok_iload_n C 2 dX3_pieceAt_32 rfl ?_
        refine ok_bipush C (v := 16) dX3_pieceAt_33 (by decide) ?_
        refine ok_idiv C dX3_pieceAt_35 ?_
        refine ok_lald C dX3_pieceAt_36 (fun l4 => ?_)
        refine ok_iload_n C 0 dX3_pieceAt_37 rfl ?_
        refine ok_lushr C dX3_pieceAt_38 ?_
        refine ok_l2i C dX3_pieceAt_39 ?_
        refine ok_bipush C (v := 15) dX3_pieceAt_40 (by decide) ?_
        refine ok_iand C dX3_pieceAt_42 ?_
        exact ok_ireturn C dX3_pieceAt_43
      · refine ok_iconst C (v := (-1)) dX3_pieceAt_19 (by decide) ?_
        exact ok_ireturn C dX3_pieceAt_20
theorem ctX3_pieceAt {l : Launch} (hl : l.stackTraces = false) {D : va_G} {dA : Nat → ClassId} {B0 : Nat} (a0 : Nat) (x1 : Int32) : Ct l D dA B0 yX3_pieceAt (.code yX3_pieceAt cX3_pieceAt 3 (some (.int)) :: ax_ALL) 1 60 [.ref a0, .int x1] (fX3_pieceAt a0 x1) :=
  Ct.of hl (by decide +kernel) (Nat.le_of_ble_eq_true rfl) fun Γ C _ _ _ _ e5 e6 e7 T hin => oX3_pieceAt C T e5 ⟨e6, e7⟩ hin a0 x1 _
/-! ChaseLocker$Row.setPiece(II)V -/
def fX3_setPiece (a0 : Nat) (x1 : Int32) (x2 : Int32) (s0 : AS) : Option AR :=
  if x1 < 0 then (
    some (.inl none, s0))
  else (
    if (512 : Int32) ≤ x1 then (
      some (.inl none, s0))
    else (
      if (16 : Int32) = 0 then none else (
      lt ((x1 - x1 / 16 * 16) * 4) (fun v1 =>
      gR s0 a0 7 3 (fun q2 =>
      if (16 : Int32) = 0 then none else (
      aJ s0 q2 (x1 / 16) (fun l3 =>
      ltJ (l3 &&& (((15 : Int64) <<< (v1.toInt64 &&& 63)) ^^^ ((-1)))) (fun l4 =>
      gR s0 a0 7 3 (fun q5 =>
      if (16 : Int32) = 0 then none else (
      uJ s0 q5 (x1 / 16) (l4 ||| ((x2.toInt64) <<< (v1.toInt64 &&& 63))) (fun s6 =>
      some (.inl none, s6))))))))))))
set_option maxHeartbeats 4000000 in
theorem oX3_setPiece {Γ : CX} (C : OKC Γ cX3_setPiece RX3 none) (T : ∀ z ∈ (cx_c Γ).exceptionTable.toList, False) (hn : cx_nL Γ = 6) (hR : cx_fr Γ = 1 ∧ cx_lo Γ = 60) (hin : (cx_meth Γ).name = yX3_setPiece.name) : ∀ (a0 : Nat) (x1 : Int32) (x2 : Int32) (s0 : AS), OK Γ 0 [(0, .ref a0), (1, .int x1), (2, .int x2)] [] (fX3_setPiece a0 x1 x2 s0) s0 := by
  intro a0 x1 x2 s0
  unfold fX3_setPiece
  refine ok_iload_n C 1 dX3_setPiece_0 rfl ?_
  refine ok_if_lt C 55 dX3_setPiece_1 (by decide) ?_ ?_
  · exact ok_vreturn C dX3_setPiece_55
  · refine ok_iload_n C 1 dX3_setPiece_4 rfl ?_
    refine ok_sipush C (v := 512) dX3_setPiece_5 (by decide) ?_
    refine ok_icmp_ge C 55 dX3_setPiece_8 (by decide) ?_ ?_
    · exact ok_vreturn C dX3_setPiece_55
    · refine ok_iload_n C 1 dX3_setPiece_11 rfl ?_
      refine ok_bipush C (v := 16) dX3_setPiece_12 (by decide) ?_
      refine ok_irem C dX3_setPiece_14 ?_
      refine ok_iconst C (v := 4) dX3_setPiece_15 (by decide) ?_
      refine ok_imul C dX3_setPiece_16 ?_
      refine ok_lt (fun v1 => ?_)
      refine ok_istore_n C (i := 3) [(3, .int v1), (0, .ref a0), (1, .int x1), (2, .int x2)] dX3_setPiece_17 rfl (by rw [hn]; decide) rfl ?_
      refine ok_aload_n C 1 dX3_setPiece_18 rfl ?_
      refine ok_getR C frX3_15_7 dX3_setPiece_19 (fun q2 => ?_)
      refine ok_iload_n C 2 dX3_setPiece_22 rfl ?_
      refine ok_bipush C (v := 16) dX3_setPiece_23 (by decide) ?_
      refine ok_idiv C dX3_setPiece_25 ?_
      refine ok_lald C dX3_setPiece_26 (fun l3 => ?_)
      refine ok_ldc2 C (v := 15) kw_191 dX3_setPiece_27 ?_
      refine ok_iload_n C 0 dX3_setPiece_30 rfl ?_
      refine ok_lshl C dX3_setPiece_31 ?_
      refine ok_ldc2 C (v := (-1)) kw_192 dX3_setPiece_32 ?_
      refine ok_lxor C dX3_setPiece_35 ?_
      refine ok_land C dX3_setPiece_36 ?_
      refine ok_ltJ (fun l4 => ?_)
      refine ok_lstore C (i := 4) [(4, .long l4), (3, .int v1), (0, .ref a0), (1, .int x1), (2, .int x2)] dX3_setPiece_37 (by rw [hn]; decide) rfl ?_
      refine ok_aload_n C 2 dX3_setPiece_39 rfl ?_
      refine ok_getR C frX3_15_7 dX3_setPiece_40 (fun q5 => ?_)
      refine ok_iload_n C 3 dX3_setPiece_43 rfl ?_
      refine ok_bipush C (v := 16) dX3_setPiece_44 (by decide) ?_
      refine ok_idiv C dX3_setPiece_46 ?_
      refine ok_lload C 0 dX3_setPiece_47 rfl ?_
      refine ok_iload_n C 4 dX3_setPiece_49 rfl ?_
      refine ok_i2l C dX3_setPiece_50 ?_
      refine ok_iload_n C 1 dX3_setPiece_51 rfl ?_
      refine ok_lshl C dX3_setPiece_52 ?_
      refine ok_lor C dX3_setPiece_53 ?_
      refine ok_last C dX3_setPiece_54 (fun s6 _ => ?_)
      exact ok_vreturn C dX3_setPiece_55
theorem ctX3_setPiece {l : Launch} (hl : l.stackTraces = false) {D : va_G} {dA : Nat → ClassId} {B0 : Nat} (a0 : Nat) (x1 : Int32) (x2 : Int32) : Ct l D dA B0 yX3_setPiece (.code yX3_setPiece cX3_setPiece 6 (none) :: ax_ALL) 1 60 [.ref a0, .int x1, .int x2] (fX3_setPiece a0 x1 x2) :=
  Ct.of hl (by decide +kernel) (Nat.le_of_ble_eq_true rfl) fun Γ C _ _ _ _ e5 e6 e7 T hin => oX3_setPiece C T e5 ⟨e6, e7⟩ hin a0 x1 x2 _
/-! ChaseLocker$Row.addPiece(LChaseLocker$Plan;I)V -/
def fX3_addPiece (a0 : Nat) (a1 : Nat) (x2 : Int32) (s0 : AS) : Option AR :=
  if x2 < 0 then (
    some (.inl none, s0))
  else (
    if (10 : Int32) ≤ x2 then (
      some (.inl none, s0))
    else (
      gI s0 a0 7 4 (fun v1 =>
      if (512 : Int32) ≤ v1 then (
        some (.inl none, s0))
      else (
        gI s0 a0 7 4 (fun v2 =>
        cV s0 a0 7 (fX3_setPiece a0 v2 x2 s0) (qV (fun s3 =>
        gI s3 a0 7 4 (fun v4 =>
        sI s3 a0 7 4 (v4 + 1) (fun s5 =>
        gI s5 a0 7 5 (fun v6 =>
        gR s5 a1 5 9 (fun q7 =>
        aI s5 q7 100 x2 (fun v8 =>
        sI s5 a0 7 5 (v6 + v8) (fun s9 =>
        gR s9 a0 7 6 (fun q10 =>
        aI s9 q10 100 x2 (fun v11 =>
        uI s9 q10 x2 (v11 + 1) (fun s12 =>
        some (.inl none, s12)))))))))))))))))
set_option maxHeartbeats 4000000 in
theorem oX3_addPiece {Γ : CX} (C : OKC Γ cX3_addPiece RX3 none) (T : ∀ z ∈ (cx_c Γ).exceptionTable.toList, False) (hn : cx_nL Γ = 3) (hR : cx_fr Γ = 2 ∧ cx_lo Γ = 85) (hin : (cx_meth Γ).name = yX3_addPiece.name) : ∀ (a0 : Nat) (a1 : Nat) (x2 : Int32) (s0 : AS), OK Γ 0 [(0, .ref a0), (1, .ref a1), (2, .int x2)] [] (fX3_addPiece a0 a1 x2 s0) s0 := by
  intro a0 a1 x2 s0
  unfold fX3_addPiece
  refine ok_iload_n C 2 dX3_addPiece_0 rfl ?_
  refine ok_if_lt C 64 dX3_addPiece_1 (by decide) ?_ ?_
  · exact ok_vreturn C dX3_addPiece_64
  · refine ok_iload_n C 2 dX3_addPiece_4 rfl ?_
    refine ok_bipush C (v := 10) dX3_addPiece_5 (by decide) ?_
    refine ok_icmp_ge C 64 dX3_addPiece_7 (by decide) ?_ ?_
    · exact ok_vreturn C dX3_addPiece_64
    · refine ok_aload_n C 0 dX3_addPiece_10 rfl ?_
      refine ok_getI C frX3_50_7 dX3_addPiece_11 (fun v1 => ?_)
      refine ok_sipush C (v := 512) dX3_addPiece_14 (by decide) ?_
      refine ok_icmp_ge C 64 dX3_addPiece_17 (by decide) ?_ ?_
      · exact ok_vreturn C dX3_addPiece_64
      · refine ok_aload_n C 0 dX3_addPiece_20 rfl ?_
        refine ok_aload_n C 0 dX3_addPiece_21 rfl ?_
        refine ok_getI C frX3_50_7 dX3_addPiece_22 (fun v2 => ?_)
        refine ok_iload_n C 2 dX3_addPiece_25 rfl ?_
        refine ok_callV C T [.int v2, .int x2] (F := fX3_setPiece a0 v2 x2) (ctX3_setPiece (C.2.2.2.2.2.2.2.2.1) a0 v2 x2) vlX3_99 viX3_setPiece rfl rfl (by decide) rfl (by rw [hR.1, hR.2]; decide) (Nat.le_of_ble_eq_true rfl) dX3_addPiece_26 (ok_qV fun s3 => ?_)
        refine ok_aload_n C 0 dX3_addPiece_29 rfl ?_
        refine ok_dup C dX3_addPiece_30 rfl ?_
        refine ok_getI C frX3_50_7 dX3_addPiece_31 (fun v4 => ?_)
        refine ok_iconst C (v := 1) dX3_addPiece_34 (by decide) ?_
        refine ok_iadd C dX3_addPiece_35 ?_
        refine ok_putI C flX3_50_7 dX3_addPiece_36 (fun s5 _ => ?_)
        refine ok_aload_n C 0 dX3_addPiece_39 rfl ?_
        refine ok_dup C dX3_addPiece_40 rfl ?_
        refine ok_getI C frX3_53_7 dX3_addPiece_41 (fun v6 => ?_)
        refine ok_aload_n C 1 dX3_addPiece_44 rfl ?_
        refine ok_getR C frX3_103_5 dX3_addPiece_45 (fun q7 => ?_)
        refine ok_iload_n C 2 dX3_addPiece_48 rfl ?_
        refine ok_iald C dX3_addPiece_49 (fun v8 => ?_)
        refine ok_iadd C dX3_addPiece_50 ?_
        refine ok_putI C flX3_53_7 dX3_addPiece_51 (fun s9 _ => ?_)
        refine ok_aload_n C 0 dX3_addPiece_54 rfl ?_
        refine ok_getR C frX3_19_7 dX3_addPiece_55 (fun q10 => ?_)
        refine ok_iload_n C 2 dX3_addPiece_58 rfl ?_
        refine ok_dup2 C dX3_addPiece_59 rfl rfl ?_
        refine ok_iald C dX3_addPiece_60 (fun v11 => ?_)
        refine ok_iconst C (v := 1) dX3_addPiece_61 (by decide) ?_
        refine ok_iadd C dX3_addPiece_62 ?_
        refine ok_iast C dX3_addPiece_63 (fun s12 _ => ?_)
        exact ok_vreturn C dX3_addPiece_64
theorem ctX3_addPiece {l : Launch} (hl : l.stackTraces = false) {D : va_G} {dA : Nat → ClassId} {B0 : Nat} (a0 : Nat) (a1 : Nat) (x2 : Int32) : Ct l D dA B0 yX3_addPiece (.code yX3_addPiece cX3_addPiece 3 (none) :: ax_ALL) 2 85 [.ref a0, .ref a1, .int x2] (fX3_addPiece a0 a1 x2) :=
  Ct.of hl (by decide +kernel) (Nat.le_of_ble_eq_true rfl) fun Γ C _ _ _ _ e5 e6 e7 T hin => oX3_addPiece C T e5 ⟨e6, e7⟩ hin a0 a1 x2 _
/-! ChaseLocker$Row.removePiece(LChaseLocker$Plan;I)I -/
def fX3_removePiece_52  (a0 : Nat) (a1 : Nat) (x3 : Int32) (s0 : AS) : Option AR :=
  gI s0 a0 7 4 (fun v1 =>
  sI s0 a0 7 4 (v1 - 1) (fun s2 =>
  gI s2 a0 7 5 (fun v3 =>
  gR s2 a1 5 9 (fun q4 =>
  aI s2 q4 100 x3 (fun v5 =>
  sI s2 a0 7 5 (v3 - v5) (fun s6 =>
  gR s6 a0 7 6 (fun q7 =>
  aI s6 q7 100 x3 (fun v8 =>
  uI s6 q7 x3 (v8 - 1) (fun s9 =>
  some (.inl (some (.int x3)), s9))))))))))
def fX3_removePiece_23  : Nat → Nat → Nat → Int32 → Int32 → AS → Option AR
  | 0, _, _, _, _, _ => none
  | n + 1, a0, a1, x3, x4, s0 =>
    gI s0 a0 7 4 (fun v1 =>
    if v1 ≤ x4 then (
      fX3_removePiece_52 a0 a1 x3 s0)
    else (
      cV s0 a0 7 (fX3_pieceAt a0 x4 s0) (qI (fun v2 s3 =>
      cV s3 a0 7 (fX3_setPiece a0 (x4 - 1) v2 s3) (qV (fun s4 =>
      lt (x4 + 1) (fun v5 =>
      fX3_removePiece_23 n a0 a1 x3 v5 s4)))))))
def fX3_removePiece (a0 : Nat) (a1 : Nat) (x2 : Int32) (s0 : AS) : Option AR :=
  cV s0 a0 7 (fX3_pieceAt a0 x2 s0) (qI (fun v1 s2 =>
  if v1 < 0 then (
    some (.inl (some (.int ((-1)))), s2))
  else (
    if v1 < (10 : Int32) then (
      lt (x2 + 1) (fun v3 =>
      fX3_removePiece_23 FU a0 a1 v1 v3 s2))
    else (
      some (.inl (some (.int ((-1)))), s2)))))
set_option maxHeartbeats 4000000 in
theorem oX3_removePiece_52 {Γ : CX} (C : OKC Γ cX3_removePiece RX3 (some (.int))) (T : ∀ z ∈ (cx_c Γ).exceptionTable.toList, False) (hn : cx_nL Γ = 5) (hR : cx_fr Γ = 2 ∧ cx_lo Γ = 85) (hin : (cx_meth Γ).name = yX3_removePiece.name) : ∀ (a0 : Nat) (a1 : Nat) (x3 : Int32) (s0 : AS), OK Γ 52 [(0, .ref a0), (1, .ref a1), (3, .int x3)] [] (fX3_removePiece_52  a0 a1 x3 s0) s0 := by
  intro a0 a1 x3 s0
  unfold fX3_removePiece_52
  refine ok_aload_n C 0 dX3_removePiece_52 rfl ?_
  refine ok_dup C dX3_removePiece_53 rfl ?_
  refine ok_getI C frX3_50_7 dX3_removePiece_54 (fun v1 => ?_)
  refine ok_iconst C (v := 1) dX3_removePiece_57 (by decide) ?_
  refine ok_isub C dX3_removePiece_58 ?_
  refine ok_putI C flX3_50_7 dX3_removePiece_59 (fun s2 _ => ?_)
  refine ok_aload_n C 0 dX3_removePiece_62 rfl ?_
  refine ok_dup C dX3_removePiece_63 rfl ?_
  refine ok_getI C frX3_53_7 dX3_removePiece_64 (fun v3 => ?_)
  refine ok_aload_n C 1 dX3_removePiece_67 rfl ?_
  refine ok_getR C frX3_103_5 dX3_removePiece_68 (fun q4 => ?_)
  refine ok_iload_n C 2 dX3_removePiece_71 rfl ?_
  refine ok_iald C dX3_removePiece_72 (fun v5 => ?_)
  refine ok_isub C dX3_removePiece_73 ?_
  refine ok_putI C flX3_53_7 dX3_removePiece_74 (fun s6 _ => ?_)
  refine ok_aload_n C 0 dX3_removePiece_77 rfl ?_
  refine ok_getR C frX3_19_7 dX3_removePiece_78 (fun q7 => ?_)
  refine ok_iload_n C 2 dX3_removePiece_81 rfl ?_
  refine ok_dup2 C dX3_removePiece_82 rfl rfl ?_
  refine ok_iald C dX3_removePiece_83 (fun v8 => ?_)
  refine ok_iconst C (v := 1) dX3_removePiece_84 (by decide) ?_
  refine ok_isub C dX3_removePiece_85 ?_
  refine ok_iast C dX3_removePiece_86 (fun s9 _ => ?_)
  refine ok_iload_n C 2 dX3_removePiece_87 rfl ?_
  exact ok_ireturn C dX3_removePiece_88
set_option maxHeartbeats 4000000 in
theorem oX3_removePiece_23 {Γ : CX} (C : OKC Γ cX3_removePiece RX3 (some (.int))) (T : ∀ z ∈ (cx_c Γ).exceptionTable.toList, False) (hn : cx_nL Γ = 5) (hR : cx_fr Γ = 2 ∧ cx_lo Γ = 85) (hin : (cx_meth Γ).name = yX3_removePiece.name) : ∀ (n : Nat) (a0 : Nat) (a1 : Nat) (x3 : Int32) (x4 : Int32) (s0 : AS), OK Γ 23 [(0, .ref a0), (1, .ref a1), (3, .int x3), (4, .int x4)] [] (fX3_removePiece_23 n a0 a1 x3 x4 s0) s0 := by
  intro n
  induction n with
  | zero => intro _ _ _ _ s0; exact OK.none
  | succ n ih =>
    intro a0 a1 x3 x4 s0
    rw [fX3_removePiece_23]
    refine ok_iload C 3 dX3_removePiece_23 rfl ?_
    refine ok_aload_n C 0 dX3_removePiece_25 rfl ?_
    refine ok_getI C frX3_50_7 dX3_removePiece_26 (fun v1 => ?_)
    refine ok_icmp_ge C 52 dX3_removePiece_29 (by decide) ?_ ?_
    · refine OK.sub (lv' := [(0, .ref a0), (1, .ref a1), (3, .int x3)]) [0, 1, 2] rfl ?_
      exact oX3_removePiece_52 C T hn hR hin a0 a1 x3 s0
    · refine ok_aload_n C 0 dX3_removePiece_32 rfl ?_
      refine ok_iload C 3 dX3_removePiece_33 rfl ?_
      refine ok_iconst C (v := 1) dX3_removePiece_35 (by decide) ?_
      refine ok_isub C dX3_removePiece_36 ?_
      refine ok_aload_n C 0 dX3_removePiece_37 rfl ?_
      refine ok_iload C 3 dX3_removePiece_38 rfl ?_
      refine ok_callV C T [.int x4] (F := fX3_pieceAt a0 x4) (ctX3_pieceAt (C.2.2.2.2.2.2.2.2.1) a0 x4) vlX3_106 viX3_pieceAt rfl rfl (by decide) rfl (by rw [hR.1, hR.2]; decide) (Nat.le_of_ble_eq_true rfl) dX3_removePiece_40 (ok_qI fun v2 s3 => ?_)
      refine ok_callV C T [.int (x4 - 1), .int v2] (F := fX3_setPiece a0 (x4 - 1) v2) (ctX3_setPiece (C.2.2.2.2.2.2.2.2.1) a0 (x4 - 1) v2) vlX3_99 viX3_setPiece rfl rfl (by decide) rfl (by rw [hR.1, hR.2]; decide) (Nat.le_of_ble_eq_true rfl) dX3_removePiece_43 (ok_qV fun s4 => ?_)
      refine ok_iincL C 3 (c := 1) (fun v5 => [(4, .int v5), (0, .ref a0), (1, .ref a1), (3, .int x3)]) dX3_removePiece_46 rfl rfl (by rw [hn]; decide) (fun _ => rfl) (fun v5 => ?_)
      refine ok_goto C 23 dX3_removePiece_49 (by decide) ?_
      refine OK.sub (lv' := [(0, .ref a0), (1, .ref a1), (3, .int x3), (4, .int v5)]) [1, 2, 3, 0] rfl ?_
      exact ih a0 a1 x3 v5 s4
set_option maxHeartbeats 4000000 in
theorem oX3_removePiece {Γ : CX} (C : OKC Γ cX3_removePiece RX3 (some (.int))) (T : ∀ z ∈ (cx_c Γ).exceptionTable.toList, False) (hn : cx_nL Γ = 5) (hR : cx_fr Γ = 2 ∧ cx_lo Γ = 85) (hin : (cx_meth Γ).name = yX3_removePiece.name) : ∀ (a0 : Nat) (a1 : Nat) (x2 : Int32) (s0 : AS), OK Γ 0 [(0, .ref a0), (1, .ref a1), (2, .int x2)] [] (fX3_removePiece a0 a1 x2 s0) s0 := by
  intro a0 a1 x2 s0
  unfold fX3_removePiece
  refine ok_aload_n C 0 dX3_removePiece_0 rfl ?_
  refine ok_iload_n C 2 dX3_removePiece_1 rfl ?_
  refine ok_callV C T [.int x2] (F := fX3_pieceAt a0 x2) (ctX3_pieceAt (C.2.2.2.2.2.2.2.2.1) a0 x2) vlX3_106 viX3_pieceAt rfl rfl (by decide) rfl (by rw [hR.1, hR.2]; decide) (Nat.le_of_ble_eq_true rfl) dX3_removePiece_2 (ok_qI fun v1 s2 => ?_)
  refine ok_istore_n C (i := 3) [(3, .int v1), (0, .ref a0), (1, .ref a1), (2, .int x2)] dX3_removePiece_5 rfl (by rw [hn]; decide) rfl ?_
  refine ok_iload_n C 0 dX3_removePiece_6 rfl ?_
  refine ok_if_lt C 16 dX3_removePiece_7 (by decide) ?_ ?_
  · refine ok_iconst C (v := (-1)) dX3_removePiece_16 (by decide) ?_
    exact ok_ireturn C dX3_removePiece_17
  · refine ok_iload_n C 0 dX3_removePiece_10 rfl ?_
    refine ok_bipush C (v := 10) dX3_removePiece_11 (by decide) ?_
    refine ok_icmp_lt C 18 dX3_removePiece_13 (by decide) ?_ ?_
    · refine ok_iload_n C 3 dX3_removePiece_18 rfl ?_
      refine ok_iconst C (v := 1) dX3_removePiece_19 (by decide) ?_
      refine ok_iadd C dX3_removePiece_20 ?_
      refine ok_lt (fun v3 => ?_)
      refine ok_istore C (i := 4) [(4, .int v3), (3, .int v1), (0, .ref a0), (1, .ref a1), (2, .int x2)] dX3_removePiece_21 (by rw [hn]; decide) rfl ?_
      refine OK.sub (lv' := [(0, .ref a0), (1, .ref a1), (3, .int v1), (4, .int v3)]) [2, 3, 1, 0] rfl ?_
      exact oX3_removePiece_23 C T hn hR hin FU a0 a1 v1 v3 s2
    · refine ok_iconst C (v := (-1)) dX3_removePiece_16 (by decide) ?_
      exact ok_ireturn C dX3_removePiece_17
theorem ctX3_removePiece {l : Launch} (hl : l.stackTraces = false) {D : va_G} {dA : Nat → ClassId} {B0 : Nat} (a0 : Nat) (a1 : Nat) (x2 : Int32) : Ct l D dA B0 yX3_removePiece (.code yX3_removePiece cX3_removePiece 5 (some (.int)) :: ax_ALL) 2 85 [.ref a0, .ref a1, .int x2] (fX3_removePiece a0 a1 x2) :=
  Ct.of hl (by decide +kernel) (Nat.le_of_ble_eq_true rfl) fun Γ C _ _ _ _ e5 e6 e7 T hin => oX3_removePiece C T e5 ⟨e6, e7⟩ hin a0 a1 x2 _
