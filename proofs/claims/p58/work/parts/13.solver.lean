/-! ChaseLocker$Solver.<init>()V -/
def fX4_init (a0 : Nat) (s0 : AS) : Option AR :=
  nM s0 11 501 (fun q1 s2 =>
  sR s2 a0 8 0 q1 (fun s3 =>
  nA s3 100 501 (fun q4 s5 =>
  sR s5 a0 8 1 q4 (fun s6 =>
  nA s6 100 501 (fun q7 s8 =>
  sR s8 a0 8 2 q7 (fun s9 =>
  nA s9 100 10 (fun q10 s11 =>
  sR s11 a0 8 3 q10 (fun s12 =>
  nA s12 100 10 (fun q13 s14 =>
  sR s14 a0 8 4 q13 (fun s15 =>
  some (.inl none, s15)))))))))))
set_option maxHeartbeats 4000000 in
theorem oX4_init {Γ : CX} (C : OKC Γ cX4_init RX4 none) (T : ∀ z ∈ (cx_c Γ).exceptionTable.toList, False) (hn : cx_nL Γ = 1) (hR : cx_fr Γ = 2 ∧ cx_lo Γ = 60) (hin : (cx_meth Γ).name = yX4_init.name) : ∀ (a0 : Nat) (s0 : AS), OK Γ 0 [(0, .ref a0)] [] (fX4_init a0 s0) s0 := by
  intro a0 s0
  unfold fX4_init
  refine ok_aload_n C 0 dX4_init_0 rfl ?_
  refine ok_objInit C kw_306 kw_48 kw_49 (by rw [hR.1]; decide) (by rw [hR.2]; exact Nat.le_of_ble_eq_true rfl) dX4_init_1 ?_
  refine ok_aload_n C 0 dX4_init_4 rfl ?_
  refine ok_bipush C (v := 11) dX4_init_5 (by decide) ?_
  refine ok_sipush C (v := 501) dX4_init_7 (by decide) ?_
  refine ok_newM C kw_307 kw_136 dX4_init_10 (fun q1 s2 => ?_)
  refine ok_putRF C flX4_11_8 (by first | exact Or.inl ⟨_, rfl⟩ | exact Or.inr ⟨_, rfl⟩) hin dX4_init_14 (fun s3 _ => ?_)
  refine ok_aload_n C 0 dX4_init_17 rfl ?_
  refine ok_sipush C (v := 501) dX4_init_18 (by decide) ?_
  refine ok_newI C kw_136 dX4_init_21 (fun q4 s5 => ?_)
  refine ok_putRF C flX4_16_8 (by first | exact Or.inl ⟨_, rfl⟩ | exact Or.inr ⟨_, rfl⟩) hin dX4_init_23 (fun s6 _ => ?_)
  refine ok_aload_n C 0 dX4_init_26 rfl ?_
  refine ok_sipush C (v := 501) dX4_init_27 (by decide) ?_
  refine ok_newI C kw_136 dX4_init_30 (fun q7 s8 => ?_)
  refine ok_putRF C flX4_20_8 (by first | exact Or.inl ⟨_, rfl⟩ | exact Or.inr ⟨_, rfl⟩) hin dX4_init_32 (fun s9 _ => ?_)
  refine ok_aload_n C 0 dX4_init_35 rfl ?_
  refine ok_bipush C (v := 10) dX4_init_36 (by decide) ?_
  refine ok_newI C kw_136 dX4_init_38 (fun q10 s11 => ?_)
  refine ok_putRF C flX4_23_8 (by first | exact Or.inl ⟨_, rfl⟩ | exact Or.inr ⟨_, rfl⟩) hin dX4_init_40 (fun s12 _ => ?_)
  refine ok_aload_n C 0 dX4_init_43 rfl ?_
  refine ok_bipush C (v := 10) dX4_init_44 (by decide) ?_
  refine ok_newI C kw_136 dX4_init_46 (fun q13 s14 => ?_)
  refine ok_putRF C flX4_26_8 (by first | exact Or.inl ⟨_, rfl⟩ | exact Or.inr ⟨_, rfl⟩) hin dX4_init_48 (fun s15 _ => ?_)
  exact ok_vreturn C dX4_init_51
theorem ctX4_init {l : Launch} (hl : l.stackTraces = false) {D : va_G} {dA : Nat → ClassId} {B0 : Nat} (a0 : Nat) : Ct l D dA B0 yX4_init (.code yX4_init cX4_init 1 (none) :: ax_ALL) 2 60 [.ref a0] (fX4_init a0) :=
  Ct.of hl (by decide +kernel) (Nat.le_of_ble_eq_true rfl) fun Γ C _ _ _ _ e5 e6 e7 T hin => oX4_init C T e5 ⟨e6, e7⟩ hin a0 _
/-! ChaseLocker$Solver.stockFrom(LChaseLocker$State;)V -/
def fX4_stockFrom (a0 : Nat) (a1 : Nat) (s0 : AS) : Option AR :=
  gR s0 a1 9 1 (fun q1 =>
  gR s0 a0 8 3 (fun q2 =>
  cpI 100 .int s0 q1 0 q2 0 10 (fun s3 =>
  some (.inl none, s3))))
set_option maxHeartbeats 4000000 in
theorem oX4_stockFrom {Γ : CX} (C : OKC Γ cX4_stockFrom RX4 none) (T : ∀ z ∈ (cx_c Γ).exceptionTable.toList, False) (hn : cx_nL Γ = 2) (hR : cx_fr Γ = 2 ∧ cx_lo Γ = 100) (hin : (cx_meth Γ).name = yX4_stockFrom.name) : ∀ (a0 : Nat) (a1 : Nat) (s0 : AS), OK Γ 0 [(0, .ref a0), (1, .ref a1)] [] (fX4_stockFrom a0 a1 s0) s0 := by
  intro a0 a1 s0
  unfold fX4_stockFrom
  refine ok_aload_n C 1 dX4_stockFrom_0 rfl ?_
  refine ok_getR C frX4_29_9 dX4_stockFrom_1 (fun q1 => ?_)
  refine ok_iconst C (v := 0) dX4_stockFrom_4 (by decide) ?_
  refine ok_aload_n C 0 dX4_stockFrom_5 rfl ?_
  refine ok_getR C frX4_23_8 dX4_stockFrom_6 (fun q2 => ?_)
  refine ok_iconst C (v := 0) dX4_stockFrom_9 (by decide) ?_
  refine ok_bipush C (v := 10) dX4_stockFrom_10 (by decide) ?_
  refine ok_copyI C 100 0 clX4_34 (fun _ => rfl) rfl (by decide) (by decide) (by decide) (by decide) (by rw [hR.1]; decide) (by rw [hR.2]; exact Nat.le_of_ble_eq_true rfl) dX4_stockFrom_12 (fun s3 => ?_)
  exact ok_vreturn C dX4_stockFrom_15
theorem ctX4_stockFrom {l : Launch} (hl : l.stackTraces = false) {D : va_G} {dA : Nat → ClassId} {B0 : Nat} (a0 : Nat) (a1 : Nat) : Ct l D dA B0 yX4_stockFrom (.code yX4_stockFrom cX4_stockFrom 2 (none) :: ax_ALL) 2 100 [.ref a0, .ref a1] (fX4_stockFrom a0 a1) :=
  Ct.of hl (by decide +kernel) (Nat.le_of_ble_eq_true rfl) fun Γ C _ _ _ _ e5 e6 e7 T hin => oX4_stockFrom C T e5 ⟨e6, e7⟩ hin a0 a1 _
/-! ChaseLocker$Solver.addBundle([IIII)V -/
def fX4_addBundle_41 (r10 : Nat → Int32 → Int32 → Int32 → AS → Option AR) (a0 : Nat) (x2 : Int32) (x3 : Int32) (x4 : Int32) (s0 : AS) : Option AR :=
  lt (x4 + (-1)) (fun v1 =>
  r10 a0 x2 x3 v1 s0)
def fX4_addBundle_10  : Nat → Nat → Int32 → Int32 → Int32 → AS → Option AR
  | 0, _, _, _, _, _ => none
  | n + 1, a0, x2, x3, x4, s0 =>
    if x4 < x2 then (
      some (.inl none, s0))
    else (
      aI s0 a0 100 (x4 - x2) (fun v1 =>
      lt (v1 + x3) (fun v2 =>
      aI s0 a0 100 x4 (fun v3 =>
      if v3 ≤ v2 then (
        fX4_addBundle_41 (fX4_addBundle_10 n) a0 x2 x3 x4 s0)
      else (
        uI s0 a0 x4 v2 (fun s4 =>
        fX4_addBundle_41 (fX4_addBundle_10 n) a0 x2 x3 x4 s4))))))
def fX4_addBundle (a0 : Nat) (x1 : Int32) (x2 : Int32) (x3 : Int32) (s0 : AS) : Option AR :=
  aL s0 a0 100 (fun v1 =>
  lt (if (v1 - 1) < x1 then (v1 - 1) else x1) (fun v2 =>
  fX4_addBundle_10 FU a0 x2 x3 v2 s0))
set_option maxHeartbeats 4000000 in
theorem oX4_addBundle_41 {Γ : CX} (C : OKC Γ cX4_addBundle RX4 none) (T : ∀ z ∈ (cx_c Γ).exceptionTable.toList, False) (hn : cx_nL Γ = 6) (hR : cx_fr Γ = 2 ∧ cx_lo Γ = 60) (hin : (cx_meth Γ).name = yX4_addBundle.name) {r10 : Nat → Int32 → Int32 → Int32 → AS → Option AR} (h10 : ∀ (a0 : Nat) (x2 : Int32) (x3 : Int32) (x4 : Int32) (s0 : AS), OK Γ 10 [(0, .ref a0), (2, .int x2), (3, .int x3), (4, .int x4)] [] (r10 a0 x2 x3 x4 s0) s0) : ∀ (a0 : Nat) (x2 : Int32) (x3 : Int32) (x4 : Int32) (s0 : AS), OK Γ 41 [(0, .ref a0), (2, .int x2), (3, .int x3), (4, .int x4)] [] (fX4_addBundle_41 r10 a0 x2 x3 x4 s0) s0 := by
  intro a0 x2 x3 x4 s0
  unfold fX4_addBundle_41
  refine ok_iincL C 3 (c := (-1)) (fun v1 => [(4, .int v1), (0, .ref a0), (2, .int x2), (3, .int x3)]) dX4_addBundle_41 rfl rfl (by rw [hn]; decide) (fun _ => rfl) (fun v1 => ?_)
  refine ok_goto C 10 dX4_addBundle_44 (by decide) ?_
  refine OK.sub (lv' := [(0, .ref a0), (2, .int x2), (3, .int x3), (4, .int v1)]) [1, 2, 3, 0] rfl ?_
  exact h10 a0 x2 x3 v1 s0
set_option maxHeartbeats 4000000 in
theorem oX4_addBundle_10 {Γ : CX} (C : OKC Γ cX4_addBundle RX4 none) (T : ∀ z ∈ (cx_c Γ).exceptionTable.toList, False) (hn : cx_nL Γ = 6) (hR : cx_fr Γ = 2 ∧ cx_lo Γ = 60) (hin : (cx_meth Γ).name = yX4_addBundle.name) : ∀ (n : Nat) (a0 : Nat) (x2 : Int32) (x3 : Int32) (x4 : Int32) (s0 : AS), OK Γ 10 [(0, .ref a0), (2, .int x2), (3, .int x3), (4, .int x4)] [] (fX4_addBundle_10 n a0 x2 x3 x4 s0) s0 := by
  intro n
  induction n with
  | zero => intro _ _ _ _ s0; exact OK.none
  | succ n ih =>
    intro a0 x2 x3 x4 s0
    rw [fX4_addBundle_10]
    refine ok_iload C 3 dX4_addBundle_10 rfl ?_
    refine ok_iload_n C 1 dX4_addBundle_12 rfl ?_
    refine ok_icmp_lt C 47 dX4_addBundle_13 (by decide) ?_ ?_
    · exact ok_vreturn C dX4_addBundle_47
    · refine ok_aload_n C 0 dX4_addBundle_16 rfl ?_
      refine ok_iload C 3 dX4_addBundle_17 rfl ?_
      refine ok_iload_n C 1 dX4_addBundle_19 rfl ?_
      refine ok_isub C dX4_addBundle_20 ?_
      refine ok_iald C dX4_addBundle_21 (fun v1 => ?_)
      refine ok_iload_n C 2 dX4_addBundle_22 rfl ?_
      refine ok_iadd C dX4_addBundle_23 ?_
      refine ok_lt (fun v2 => ?_)
      refine ok_istore C (i := 5) [(5, .int v2), (0, .ref a0), (2, .int x2), (3, .int x3), (4, .int x4)] dX4_addBundle_24 (by rw [hn]; decide) rfl ?_
      refine ok_iload C 0 dX4_addBundle_26 rfl ?_
      refine ok_aload_n C 1 dX4_addBundle_28 rfl ?_
      refine ok_iload C 4 dX4_addBundle_29 rfl ?_
      refine ok_iald C dX4_addBundle_31 (fun v3 => ?_)
      refine ok_icmp_ge C 41 dX4_addBundle_32 (by decide) ?_ ?_
      · refine OK.sub (lv' := [(0, .ref a0), (2, .int x2), (3, .int x3), (4, .int x4)]) [1, 2, 3, 4] rfl ?_
        exact oX4_addBundle_41 C T hn hR hin ih a0 x2 x3 x4 s0
      · refine ok_aload_n C 1 dX4_addBundle_35 rfl ?_
        refine ok_iload C 4 dX4_addBundle_36 rfl ?_
        refine ok_iload C 0 dX4_addBundle_38 rfl ?_
        refine ok_iast C dX4_addBundle_40 (fun s4 _ => ?_)
        refine OK.sub (lv' := [(0, .ref a0), (2, .int x2), (3, .int x3), (4, .int x4)]) [1, 2, 3, 4] rfl ?_
        exact oX4_addBundle_41 C T hn hR hin ih a0 x2 x3 x4 s4
set_option maxHeartbeats 4000000 in
theorem oX4_addBundle {Γ : CX} (C : OKC Γ cX4_addBundle RX4 none) (T : ∀ z ∈ (cx_c Γ).exceptionTable.toList, False) (hn : cx_nL Γ = 6) (hR : cx_fr Γ = 2 ∧ cx_lo Γ = 60) (hin : (cx_meth Γ).name = yX4_addBundle.name) : ∀ (a0 : Nat) (x1 : Int32) (x2 : Int32) (x3 : Int32) (s0 : AS), OK Γ 0 [(0, .ref a0), (1, .int x1), (2, .int x2), (3, .int x3)] [] (fX4_addBundle a0 x1 x2 x3 s0) s0 := by
  intro a0 x1 x2 x3 s0
  unfold fX4_addBundle
  refine ok_iload_n C 1 dX4_addBundle_0 rfl ?_
  refine ok_aload_n C 0 dX4_addBundle_1 rfl ?_
  refine ok_alen C 100 0 (fun _ => rfl) (by decide) dX4_addBundle_2 (fun v1 => ?_)
  refine ok_iconst C (v := 1) dX4_addBundle_3 (by decide) ?_
  refine ok_isub C dX4_addBundle_4 ?_
  refine ok_mmin C mlX4_64 (by rw [hR.1]; decide) (by rw [hR.2]; exact Nat.le_of_ble_eq_true rfl) dX4_addBundle_5 ?_
  refine ok_lt (fun v2 => ?_)
  refine ok_istore C (i := 4) [(4, .int v2), (0, .ref a0), (1, .int x1), (2, .int x2), (3, .int x3)] dX4_addBundle_8 (by rw [hn]; decide) rfl ?_
  refine OK.sub (lv' := [(0, .ref a0), (2, .int x2), (3, .int x3), (4, .int v2)]) [1, 3, 4, 0] rfl ?_
  exact oX4_addBundle_10 C T hn hR hin FU a0 x2 x3 v2 s0
theorem ctX4_addBundle {l : Launch} (hl : l.stackTraces = false) {D : va_G} {dA : Nat → ClassId} {B0 : Nat} (a0 : Nat) (x1 : Int32) (x2 : Int32) (x3 : Int32) : Ct l D dA B0 yX4_addBundle (.code yX4_addBundle cX4_addBundle 6 (none) :: ax_ALL) 2 60 [.ref a0, .int x1, .int x2, .int x3] (fX4_addBundle a0 x1 x2 x3) :=
  Ct.of hl (by decide +kernel) (Nat.le_of_ble_eq_true rfl) fun Γ C _ _ _ _ e5 e6 e7 T hin => oX4_addBundle C T e5 ⟨e6, e7⟩ hin a0 x1 x2 x3 _
/-! ChaseLocker$Solver.addKind([IIII)V -/
def fX4_addKind_18  : Nat → Nat → Int32 → Int32 → Int32 → Int32 → AS → Option AR
  | 0, _, _, _, _, _, _ => none
  | n + 1, a0, x1, x2, x4, x5, s0 =>
    if x4 ≤ 0 then (
      some (.inl none, s0))
    else (
      if (500 : Int32) < x5 then (
        some (.inl none, s0))
      else (
        lt (if x4 < x5 then x4 else x5) (fun v1 =>
        cS s0 (fX4_addBundle a0 x1 (x2 * v1) v1 s0) (qV (fun s2 =>
        lt (x4 - v1) (fun v3 =>
        lt (x5 * 2) (fun v4 =>
        fX4_addKind_18 n a0 x1 x2 v3 v4 s2)))))))
def fX4_addKind (a0 : Nat) (x1 : Int32) (x2 : Int32) (x3 : Int32) (s0 : AS) : Option AR :=
  if (1 : Int32) ≤ x2 then (
    if x2 = 0 then none else (
    lt (if (x1 / x2) < x3 then (x1 / x2) else x3) (fun v1 =>
    fX4_addKind_18 FU a0 x1 x2 v1 1 s0)))
  else (
    some (.inl none, s0))
set_option maxHeartbeats 4000000 in
theorem oX4_addKind_18 {Γ : CX} (C : OKC Γ cX4_addKind RX4 none) (T : ∀ z ∈ (cx_c Γ).exceptionTable.toList, False) (hn : cx_nL Γ = 7) (hR : cx_fr Γ = 3 ∧ cx_lo Γ = 85) (hin : (cx_meth Γ).name = yX4_addKind.name) : ∀ (n : Nat) (a0 : Nat) (x1 : Int32) (x2 : Int32) (x4 : Int32) (x5 : Int32) (s0 : AS), OK Γ 18 [(0, .ref a0), (1, .int x1), (2, .int x2), (4, .int x4), (5, .int x5)] [] (fX4_addKind_18 n a0 x1 x2 x4 x5 s0) s0 := by
  intro n
  induction n with
  | zero => intro _ _ _ _ _ s0; exact OK.none
  | succ n ih =>
    intro a0 x1 x2 x4 x5 s0
    rw [fX4_addKind_18]
    refine ok_iload C 3 dX4_addKind_18 rfl ?_
    refine ok_if_le C 67 dX4_addKind_20 (by decide) ?_ ?_
    · exact ok_vreturn C dX4_addKind_67
    · refine ok_iload C 4 dX4_addKind_23 rfl ?_
      refine ok_sipush C (v := 500) dX4_addKind_25 (by decide) ?_
      refine ok_icmp_gt C 67 dX4_addKind_28 (by decide) ?_ ?_
      · exact ok_vreturn C dX4_addKind_67
      · refine ok_iload C 4 dX4_addKind_31 rfl ?_
        refine ok_iload C 3 dX4_addKind_33 rfl ?_
        refine ok_mmin C mlX4_64 (by rw [hR.1]; decide) (by rw [hR.2]; exact Nat.le_of_ble_eq_true rfl) dX4_addKind_35 ?_
        refine ok_lt (fun v1 => ?_)
        refine ok_istore C (i := 6) [(6, .int v1), (0, .ref a0), (1, .int x1), (2, .int x2), (4, .int x4), (5, .int x5)] dX4_addKind_38 (by rw [hn]; decide) rfl ?_
        refine ok_aload_n C 1 dX4_addKind_40 rfl ?_
        refine ok_iload_n C 2 dX4_addKind_41 rfl ?_
        refine ok_iload_n C 3 dX4_addKind_42 rfl ?_
        refine ok_iload C 0 dX4_addKind_43 rfl ?_
        refine ok_imul C dX4_addKind_45 ?_
        refine ok_iload C 0 dX4_addKind_46 rfl ?_
        refine ok_callS C T [.ref a0, .int x1, .int (x2 * v1), .int v1] (F := fX4_addBundle a0 x1 (x2 * v1) v1) (ctX4_addBundle (C.2.2.2.2.2.2.2.2.1) a0 x1 (x2 * v1) v1) vlX4_70 kw_322 rfl (by rw [hR.1, hR.2]; decide) (Nat.le_of_ble_eq_true rfl) dX4_addKind_48 (ok_qV fun s2 => ?_)
        refine ok_iload C 4 dX4_addKind_51 rfl ?_
        refine ok_iload C 0 dX4_addKind_53 rfl ?_
        refine ok_isub C dX4_addKind_55 ?_
        refine ok_lt (fun v3 => ?_)
        refine ok_istore C (i := 4) [(4, .int v3), (6, .int v1), (0, .ref a0), (1, .int x1), (2, .int x2), (5, .int x5)] dX4_addKind_56 (by rw [hn]; decide) rfl ?_
        refine ok_iload C 5 dX4_addKind_58 rfl ?_
        refine ok_iconst C (v := 2) dX4_addKind_60 (by decide) ?_
        refine ok_imul C dX4_addKind_61 ?_
        refine ok_lt (fun v4 => ?_)
        refine ok_istore C (i := 5) [(5, .int v4), (4, .int v3), (6, .int v1), (0, .ref a0), (1, .int x1), (2, .int x2)] dX4_addKind_62 (by rw [hn]; decide) rfl ?_
        refine ok_goto C 18 dX4_addKind_64 (by decide) ?_
        refine OK.sub (lv' := [(0, .ref a0), (1, .int x1), (2, .int x2), (4, .int v3), (5, .int v4)]) [3, 4, 5, 1, 0] rfl ?_
        exact ih a0 x1 x2 v3 v4 s2
set_option maxHeartbeats 4000000 in
theorem oX4_addKind {Γ : CX} (C : OKC Γ cX4_addKind RX4 none) (T : ∀ z ∈ (cx_c Γ).exceptionTable.toList, False) (hn : cx_nL Γ = 7) (hR : cx_fr Γ = 3 ∧ cx_lo Γ = 85) (hin : (cx_meth Γ).name = yX4_addKind.name) : ∀ (a0 : Nat) (x1 : Int32) (x2 : Int32) (x3 : Int32) (s0 : AS), OK Γ 0 [(0, .ref a0), (1, .int x1), (2, .int x2), (3, .int x3)] [] (fX4_addKind a0 x1 x2 x3 s0) s0 := by
  intro a0 x1 x2 x3 s0
  unfold fX4_addKind
  refine ok_iload_n C 2 dX4_addKind_0 rfl ?_
  refine ok_iconst C (v := 1) dX4_addKind_1 (by decide) ?_
  refine ok_icmp_ge C 6 dX4_addKind_2 (by decide) ?_ ?_
  · refine ok_iload_n C 3 dX4_addKind_6 rfl ?_
    refine ok_iload_n C 1 dX4_addKind_7 rfl ?_
    refine ok_iload_n C 2 dX4_addKind_8 rfl ?_
    refine ok_idiv C dX4_addKind_9 ?_
    refine ok_mmin C mlX4_64 (by rw [hR.1]; decide) (by rw [hR.2]; exact Nat.le_of_ble_eq_true rfl) dX4_addKind_10 ?_
    refine ok_lt (fun v1 => ?_)
    refine ok_istore C (i := 4) [(4, .int v1), (0, .ref a0), (1, .int x1), (2, .int x2), (3, .int x3)] dX4_addKind_13 (by rw [hn]; decide) rfl ?_
    refine ok_iconst C (v := 1) dX4_addKind_15 (by decide) ?_
    refine ok_istore C (i := 5) [(5, .int 1), (4, .int v1), (0, .ref a0), (1, .int x1), (2, .int x2), (3, .int x3)] dX4_addKind_16 (by rw [hn]; decide) rfl ?_
    refine OK.sub (lv' := [(0, .ref a0), (1, .int x1), (2, .int x2), (4, .int v1), (5, .int 1)]) [2, 3, 4, 1, 0] rfl ?_
    exact oX4_addKind_18 C T hn hR hin FU a0 x1 x2 v1 1 s0
  · exact ok_vreturn C dX4_addKind_5
theorem ctX4_addKind {l : Launch} (hl : l.stackTraces = false) {D : va_G} {dA : Nat → ClassId} {B0 : Nat} (a0 : Nat) (x1 : Int32) (x2 : Int32) (x3 : Int32) : Ct l D dA B0 yX4_addKind (.code yX4_addKind cX4_addKind 7 (none) :: ax_ALL) 3 85 [.ref a0, .int x1, .int x2, .int x3] (fX4_addKind a0 x1 x2 x3) :=
  Ct.of hl (by decide +kernel) (Nat.le_of_ble_eq_true rfl) fun Γ C _ _ _ _ e5 e6 e7 T hin => oX4_addKind C T e5 ⟨e6, e7⟩ hin a0 x1 x2 x3 _
/-! ChaseLocker$Solver.studyFrom(LChaseLocker$Plan;I)V -/
def fX4_studyFrom_2  : Nat → Nat → Nat → Int32 → AS → Option AR
  | 0, _, _, _, _ => none
  | n + 1, a0, a1, x3, s0 =>
    if x3 < 0 then (
      some (.inl none, s0))
    else (
      gR s0 a1 5 10 (fun q1 =>
      aI s0 q1 100 x3 (fun v2 =>
      gR s0 a0 8 0 (fun q3 =>
      aR s0 q3 110 (x3 + 1) (fun q4 =>
      gR s0 a0 8 0 (fun q5 =>
      aR s0 q5 110 x3 (fun q6 =>
      cpI 100 .int s0 q4 0 q6 0 501 (fun s7 =>
      gR s7 a0 8 0 (fun q8 =>
      aR s7 q8 110 x3 (fun q9 =>
      gI s7 a1 5 0 (fun v10 =>
      gR s7 a1 5 9 (fun q11 =>
      aI s7 q11 100 v2 (fun v12 =>
      gR s7 a0 8 3 (fun q13 =>
      aI s7 q13 100 v2 (fun v14 =>
      cS s7 (fX4_addKind q9 v10 v12 v14 s7) (qV (fun s15 =>
      lt (x3 + (-1)) (fun v16 =>
      fX4_studyFrom_2 n a0 a1 v16 s15))))))))))))))))))
def fX4_studyFrom (a0 : Nat) (a1 : Nat) (x2 : Int32) (s0 : AS) : Option AR :=
  fX4_studyFrom_2 FU a0 a1 x2 s0
set_option maxHeartbeats 4000000 in
theorem oX4_studyFrom_2 {Γ : CX} (C : OKC Γ cX4_studyFrom RX4 none) (T : ∀ z ∈ (cx_c Γ).exceptionTable.toList, False) (hn : cx_nL Γ = 5) (hR : cx_fr Γ = 4 ∧ cx_lo Γ = 111) (hin : (cx_meth Γ).name = yX4_studyFrom.name) : ∀ (n : Nat) (a0 : Nat) (a1 : Nat) (x3 : Int32) (s0 : AS), OK Γ 2 [(0, .ref a0), (1, .ref a1), (3, .int x3)] [] (fX4_studyFrom_2 n a0 a1 x3 s0) s0 := by
  intro n
  induction n with
  | zero => intro _ _ _ s0; exact OK.none
  | succ n ih =>
    intro a0 a1 x3 s0
    rw [fX4_studyFrom_2]
    refine ok_iload_n C 2 dX4_studyFrom_2 rfl ?_
    refine ok_if_lt C 69 dX4_studyFrom_3 (by decide) ?_ ?_
    · exact ok_vreturn C dX4_studyFrom_69
    · refine ok_aload_n C 1 dX4_studyFrom_6 rfl ?_
      refine ok_getR C frX4_51_5 dX4_studyFrom_7 (fun q1 => ?_)
      refine ok_iload_n C 2 dX4_studyFrom_10 rfl ?_
      refine ok_iald C dX4_studyFrom_11 (fun v2 => ?_)
      refine ok_istore C (i := 4) [(4, .int v2), (0, .ref a0), (1, .ref a1), (3, .int x3)] dX4_studyFrom_12 (by rw [hn]; decide) rfl ?_
      refine ok_aload_n C 1 dX4_studyFrom_14 rfl ?_
      refine ok_getR C frX4_11_8 dX4_studyFrom_15 (fun q3 => ?_)
      refine ok_iload_n C 3 dX4_studyFrom_18 rfl ?_
      refine ok_iconst C (v := 1) dX4_studyFrom_19 (by decide) ?_
      refine ok_iadd C dX4_studyFrom_20 ?_
      refine ok_aaldI C dX4_studyFrom_21 (fun q4 => ?_)
      refine ok_iconst C (v := 0) dX4_studyFrom_22 (by decide) ?_
      refine ok_aload_n C 1 dX4_studyFrom_23 rfl ?_
      refine ok_getR C frX4_11_8 dX4_studyFrom_24 (fun q5 => ?_)
      refine ok_iload_n C 3 dX4_studyFrom_27 rfl ?_
      refine ok_aaldI C dX4_studyFrom_28 (fun q6 => ?_)
      refine ok_iconst C (v := 0) dX4_studyFrom_29 (by decide) ?_
      refine ok_sipush C (v := 501) dX4_studyFrom_30 (by decide) ?_
      refine ok_copyI C 100 0 clX4_34 (fun _ => rfl) rfl (by decide) (by decide) (by decide) (by decide) (by rw [hR.1]; decide) (by rw [hR.2]; exact Nat.le_of_ble_eq_true rfl) dX4_studyFrom_33 (fun s7 => ?_)
      refine ok_aload_n C 1 dX4_studyFrom_36 rfl ?_
      refine ok_getR C frX4_11_8 dX4_studyFrom_37 (fun q8 => ?_)
      refine ok_iload_n C 3 dX4_studyFrom_40 rfl ?_
      refine ok_aaldI C dX4_studyFrom_41 (fun q9 => ?_)
      refine ok_aload_n C 2 dX4_studyFrom_42 rfl ?_
      refine ok_getI C frX4_54_5 dX4_studyFrom_43 (fun v10 => ?_)
      refine ok_aload_n C 2 dX4_studyFrom_46 rfl ?_
      refine ok_getR C frX4_57_5 dX4_studyFrom_47 (fun q11 => ?_)
      refine ok_iload C 0 dX4_studyFrom_50 rfl ?_
      refine ok_iald C dX4_studyFrom_52 (fun v12 => ?_)
      refine ok_aload_n C 1 dX4_studyFrom_53 rfl ?_
      refine ok_getR C frX4_23_8 dX4_studyFrom_54 (fun q13 => ?_)
      refine ok_iload C 0 dX4_studyFrom_57 rfl ?_
      refine ok_iald C dX4_studyFrom_59 (fun v14 => ?_)
      refine ok_callS C T [.ref q9, .int v10, .int v12, .int v14] (F := fX4_addKind q9 v10 v12 v14) (ctX4_addKind (C.2.2.2.2.2.2.2.2.1) q9 v10 v12 v14) vlX4_60 kw_325 rfl (by rw [hR.1, hR.2]; decide) (Nat.le_of_ble_eq_true rfl) dX4_studyFrom_60 (ok_qV fun s15 => ?_)
      refine ok_iincL C 3 (c := (-1)) (fun v16 => [(3, .int v16), (4, .int v2), (0, .ref a0), (1, .ref a1)]) dX4_studyFrom_63 rfl rfl (by rw [hn]; decide) (fun _ => rfl) (fun v16 => ?_)
      refine ok_goto C 2 dX4_studyFrom_66 (by decide) ?_
      refine OK.sub (lv' := [(0, .ref a0), (1, .ref a1), (3, .int v16)]) [2, 3, 0] rfl ?_
      exact ih a0 a1 v16 s15
set_option maxHeartbeats 4000000 in
theorem oX4_studyFrom {Γ : CX} (C : OKC Γ cX4_studyFrom RX4 none) (T : ∀ z ∈ (cx_c Γ).exceptionTable.toList, False) (hn : cx_nL Γ = 5) (hR : cx_fr Γ = 4 ∧ cx_lo Γ = 111) (hin : (cx_meth Γ).name = yX4_studyFrom.name) : ∀ (a0 : Nat) (a1 : Nat) (x2 : Int32) (s0 : AS), OK Γ 0 [(0, .ref a0), (1, .ref a1), (2, .int x2)] [] (fX4_studyFrom a0 a1 x2 s0) s0 := by
  intro a0 a1 x2 s0
  unfold fX4_studyFrom
  refine ok_iload_n C 2 dX4_studyFrom_0 rfl ?_
  refine ok_istore_n C (i := 3) [(3, .int x2), (0, .ref a0), (1, .ref a1), (2, .int x2)] dX4_studyFrom_1 rfl (by rw [hn]; decide) rfl ?_
  refine OK.sub (lv' := [(0, .ref a0), (1, .ref a1), (3, .int x2)]) [1, 2, 0] rfl ?_
  exact oX4_studyFrom_2 C T hn hR hin FU a0 a1 x2 s0
theorem ctX4_studyFrom {l : Launch} (hl : l.stackTraces = false) {D : va_G} {dA : Nat → ClassId} {B0 : Nat} (a0 : Nat) (a1 : Nat) (x2 : Int32) : Ct l D dA B0 yX4_studyFrom (.code yX4_studyFrom cX4_studyFrom 5 (none) :: ax_ALL) 4 111 [.ref a0, .ref a1, .int x2] (fX4_studyFrom a0 a1 x2) :=
  Ct.of hl (by decide +kernel) (Nat.le_of_ble_eq_true rfl) fun Γ C _ _ _ _ e5 e6 e7 T hin => oX4_studyFrom C T e5 ⟨e6, e7⟩ hin a0 a1 x2 _
/-! ChaseLocker$Solver.study(LChaseLocker$Plan;)V -/
def fX4_study_34  (a0 : Nat) (a1 : Nat) (s0 : AS) : Option AR :=
  gI s0 a1 5 7 (fun v1 =>
  cV s0 a0 8 (fX4_studyFrom a0 a1 (v1 - 1) s0) (qV (fun s2 =>
  some (.inl none, s2))))
def fX4_study_16  : Nat → Nat → Nat → Nat → Int32 → AS → Option AR
  | 0, _, _, _, _, _ => none
  | n + 1, a0, a1, a2, x3, s0 =>
    if (500 : Int32) < x3 then (
      fX4_study_34 a0 a1 s0)
    else (
      uI s0 a2 x3 1000000 (fun s1 =>
      lt (x3 + 1) (fun v2 =>
      fX4_study_16 n a0 a1 a2 v2 s1)))
def fX4_study (a0 : Nat) (a1 : Nat) (s0 : AS) : Option AR :=
  gR s0 a0 8 0 (fun q1 =>
  gI s0 a1 5 7 (fun v2 =>
  aR s0 q1 110 v2 (fun q3 =>
  uI s0 q3 0 0 (fun s4 =>
  fX4_study_16 FU a0 a1 q3 1 s4))))
set_option maxHeartbeats 4000000 in
theorem oX4_study_34 {Γ : CX} (C : OKC Γ cX4_study RX4 none) (T : ∀ z ∈ (cx_c Γ).exceptionTable.toList, False) (hn : cx_nL Γ = 4) (hR : cx_fr Γ = 5 ∧ cx_lo Γ = 135) (hin : (cx_meth Γ).name = yX4_study.name) : ∀ (a0 : Nat) (a1 : Nat) (s0 : AS), OK Γ 34 [(0, .ref a0), (1, .ref a1)] [] (fX4_study_34  a0 a1 s0) s0 := by
  intro a0 a1 s0
  unfold fX4_study_34
  refine ok_aload_n C 0 dX4_study_34 rfl ?_
  refine ok_aload_n C 1 dX4_study_35 rfl ?_
  refine ok_aload_n C 1 dX4_study_36 rfl ?_
  refine ok_getI C frX4_40_5 dX4_study_37 (fun v1 => ?_)
  refine ok_iconst C (v := 1) dX4_study_40 (by decide) ?_
  refine ok_isub C dX4_study_41 ?_
  refine ok_callV C T [.ref a1, .int (v1 - 1)] (F := fX4_studyFrom a0 a1 (v1 - 1)) (ctX4_studyFrom (C.2.2.2.2.2.2.2.2.1) a0 a1 (v1 - 1)) vlX4_47 viX4_studyFrom rfl rfl (by decide) rfl (by rw [hR.1, hR.2]; decide) (Nat.le_of_ble_eq_true rfl) dX4_study_42 (ok_qV fun s2 => ?_)
  exact ok_vreturn C dX4_study_45
set_option maxHeartbeats 4000000 in
theorem oX4_study_16 {Γ : CX} (C : OKC Γ cX4_study RX4 none) (T : ∀ z ∈ (cx_c Γ).exceptionTable.toList, False) (hn : cx_nL Γ = 4) (hR : cx_fr Γ = 5 ∧ cx_lo Γ = 135) (hin : (cx_meth Γ).name = yX4_study.name) : ∀ (n : Nat) (a0 : Nat) (a1 : Nat) (a2 : Nat) (x3 : Int32) (s0 : AS), OK Γ 16 [(0, .ref a0), (1, .ref a1), (2, .ref a2), (3, .int x3)] [] (fX4_study_16 n a0 a1 a2 x3 s0) s0 := by
  intro n
  induction n with
  | zero => intro _ _ _ _ s0; exact OK.none
  | succ n ih =>
    intro a0 a1 a2 x3 s0
    rw [fX4_study_16]
    refine ok_iload_n C 3 dX4_study_16 rfl ?_
    refine ok_sipush C (v := 500) dX4_study_17 (by decide) ?_
    refine ok_icmp_gt C 34 dX4_study_20 (by decide) ?_ ?_
    · refine OK.sub (lv' := [(0, .ref a0), (1, .ref a1)]) [0, 1] rfl ?_
      exact oX4_study_34 C T hn hR hin a0 a1 s0
    · refine ok_aload_n C 2 dX4_study_23 rfl ?_
      refine ok_iload_n C 3 dX4_study_24 rfl ?_
      refine ok_ldc C (v := 1000000) kw_330 dX4_study_25 ?_
      refine ok_iast C dX4_study_27 (fun s1 _ => ?_)
      refine ok_iincL C 3 (c := 1) (fun v2 => [(3, .int v2), (0, .ref a0), (1, .ref a1), (2, .ref a2)]) dX4_study_28 rfl rfl (by rw [hn]; decide) (fun _ => rfl) (fun v2 => ?_)
      refine ok_goto C 16 dX4_study_31 (by decide) ?_
      refine OK.sub (lv' := [(0, .ref a0), (1, .ref a1), (2, .ref a2), (3, .int v2)]) [1, 2, 3, 0] rfl ?_
      exact ih a0 a1 a2 v2 s1
set_option maxHeartbeats 4000000 in
theorem oX4_study {Γ : CX} (C : OKC Γ cX4_study RX4 none) (T : ∀ z ∈ (cx_c Γ).exceptionTable.toList, False) (hn : cx_nL Γ = 4) (hR : cx_fr Γ = 5 ∧ cx_lo Γ = 135) (hin : (cx_meth Γ).name = yX4_study.name) : ∀ (a0 : Nat) (a1 : Nat) (s0 : AS), OK Γ 0 [(0, .ref a0), (1, .ref a1)] [] (fX4_study a0 a1 s0) s0 := by
  intro a0 a1 s0
  unfold fX4_study
  refine ok_aload_n C 0 dX4_study_0 rfl ?_
  refine ok_getR C frX4_11_8 dX4_study_1 (fun q1 => ?_)
  refine ok_aload_n C 1 dX4_study_4 rfl ?_
  refine ok_getI C frX4_40_5 dX4_study_5 (fun v2 => ?_)
  refine ok_aaldI C dX4_study_8 (fun q3 => ?_)
  refine ok_astore_n C (i := 2) [(2, .ref q3), (0, .ref a0), (1, .ref a1)] dX4_study_9 rfl (by rw [hn]; decide) rfl ?_
  refine ok_aload_n C 0 dX4_study_10 rfl ?_
  refine ok_iconst C (v := 0) dX4_study_11 (by decide) ?_
  refine ok_iconst C (v := 0) dX4_study_12 (by decide) ?_
  refine ok_iast C dX4_study_13 (fun s4 _ => ?_)
  refine ok_iconst C (v := 1) dX4_study_14 (by decide) ?_
  refine ok_istore_n C (i := 3) [(3, .int 1), (2, .ref q3), (0, .ref a0), (1, .ref a1)] dX4_study_15 rfl (by rw [hn]; decide) rfl ?_
  refine OK.sub (lv' := [(0, .ref a0), (1, .ref a1), (2, .ref q3), (3, .int 1)]) [2, 3, 1, 0] rfl ?_
  exact oX4_study_16 C T hn hR hin FU a0 a1 q3 1 s4
theorem ctX4_study {l : Launch} (hl : l.stackTraces = false) {D : va_G} {dA : Nat → ClassId} {B0 : Nat} (a0 : Nat) (a1 : Nat) : Ct l D dA B0 yX4_study (.code yX4_study cX4_study 4 (none) :: ax_ALL) 5 135 [.ref a0, .ref a1] (fX4_study a0 a1) :=
  Ct.of hl (by decide +kernel) (Nat.le_of_ble_eq_true rfl) fun Γ C _ _ _ _ e5 e6 e7 T hin => oX4_study C T e5 ⟨e6, e7⟩ hin a0 a1 _
/-! ChaseLocker$Solver.canMake(I)Z -/
def fX4_canMake (a0 : Nat) (x1 : Int32) (s0 : AS) : Option AR :=
  if x1 < 0 then (
    rZ 0 s0)
  else (
    if (500 : Int32) < x1 then (
      rZ 0 s0)
    else (
      gR s0 a0 8 0 (fun q1 =>
      aR s0 q1 110 0 (fun q2 =>
      aI s0 q2 100 x1 (fun v3 =>
      if (1000000 : Int32) ≤ v3 then (
        rZ 0 s0)
      else (
        rZ 1 s0))))))
set_option maxHeartbeats 4000000 in
theorem oX4_canMake {Γ : CX} (C : OKC Γ cX4_canMake RX4 (some (.boolean))) (T : ∀ z ∈ (cx_c Γ).exceptionTable.toList, False) (hn : cx_nL Γ = 2) (hR : cx_fr Γ = 1 ∧ cx_lo Γ = 60) (hin : (cx_meth Γ).name = yX4_canMake.name) : ∀ (a0 : Nat) (x1 : Int32) (s0 : AS), OK Γ 0 [(0, .ref a0), (1, .int x1)] [] (fX4_canMake a0 x1 s0) s0 := by
  intro a0 x1 s0
  unfold fX4_canMake
  refine ok_iload_n C 1 dX4_canMake_0 rfl ?_
  refine ok_if_lt C 28 dX4_canMake_1 (by decide) ?_ ?_
  · refine ok_iconst C (v := 0) dX4_canMake_28 (by decide) ?_
    exact ok_zreturn C dX4_canMake_29
  · refine ok_iload_n C 1 dX4_canMake_4 rfl ?_
    refine ok_sipush C (v := 500) dX4_canMake_5 (by decide) ?_
    refine ok_icmp_gt C 28 dX4_canMake_8 (by decide) ?_ ?_
    · refine ok_iconst C (v := 0) dX4_canMake_28 (by decide) ?_
      exact ok_zreturn C dX4_canMake_29
    · refine ok_aload_n C 0 dX4_canMake_11 rfl ?_
      refine ok_getR C frX4_11_8 dX4_canMake_12 (fun q1 => ?_)
      refine ok_iconst C (v := 0) dX4_canMake_15 (by decide) ?_
      refine ok_aaldI C dX4_canMake_16 (fun q2 => ?_)
      refine ok_iload_n C 1 dX4_canMake_17 rfl ?_
      refine ok_iald C dX4_canMake_18 (fun v3 => ?_)
      refine ok_ldc C (v := 1000000) kw_330 dX4_canMake_19 ?_
      refine ok_icmp_ge C 28 dX4_canMake_21 (by decide) ?_ ?_
      · refine ok_iconst C (v := 0) dX4_canMake_28 (by decide) ?_
        exact ok_zreturn C dX4_canMake_29
      · refine ok_iconst C (v := 1) dX4_canMake_24 (by decide) ?_
        refine ok_goto C 29 dX4_canMake_25 (by decide) ?_
        exact ok_zreturn C dX4_canMake_29
theorem ctX4_canMake {l : Launch} (hl : l.stackTraces = false) {D : va_G} {dA : Nat → ClassId} {B0 : Nat} (a0 : Nat) (x1 : Int32) : Ct l D dA B0 yX4_canMake (.code yX4_canMake cX4_canMake 2 (some (.boolean)) :: ax_ALL) 1 60 [.ref a0, .int x1] (fX4_canMake a0 x1) :=
  Ct.of hl (by decide +kernel) (Nat.le_of_ble_eq_true rfl) fun Γ C _ _ _ _ e5 e6 e7 T hin => oX4_canMake C T e5 ⟨e6, e7⟩ hin a0 x1 _
/-! ChaseLocker$Solver.chooseIfFewer(II)V -/
def fX4_chooseIfFewer (a0 : Nat) (x1 : Int32) (x2 : Int32) (s0 : AS) : Option AR :=
  cV s0 a0 8 (fX4_canMake a0 x1 s0) (qI (fun v1 s2 =>
  if v1 = 0 then (
    some (.inl none, s2))
  else (
    gR s2 a0 8 0 (fun q3 =>
    aR s2 q3 110 0 (fun q4 =>
    aI s2 q4 100 x1 (fun v5 =>
    gI s2 a0 8 5 (fun v6 =>
    if v6 ≤ v5 then (
      some (.inl none, s2))
    else (
      gR s2 a0 8 0 (fun q7 =>
      aR s2 q7 110 0 (fun q8 =>
      aI s2 q8 100 x1 (fun v9 =>
      sI s2 a0 8 5 v9 (fun s10 =>
      sI s10 a0 8 6 x1 (fun s11 =>
      sI s11 a0 8 7 x2 (fun s12 =>
      some (.inl none, s12)))))))))))))))
set_option maxHeartbeats 4000000 in
theorem oX4_chooseIfFewer {Γ : CX} (C : OKC Γ cX4_chooseIfFewer RX4 none) (T : ∀ z ∈ (cx_c Γ).exceptionTable.toList, False) (hn : cx_nL Γ = 3) (hR : cx_fr Γ = 2 ∧ cx_lo Γ = 81) (hin : (cx_meth Γ).name = yX4_chooseIfFewer.name) : ∀ (a0 : Nat) (x1 : Int32) (x2 : Int32) (s0 : AS), OK Γ 0 [(0, .ref a0), (1, .int x1), (2, .int x2)] [] (fX4_chooseIfFewer a0 x1 x2 s0) s0 := by
  intro a0 x1 x2 s0
  unfold fX4_chooseIfFewer
  refine ok_aload_n C 0 dX4_chooseIfFewer_0 rfl ?_
  refine ok_iload_n C 1 dX4_chooseIfFewer_1 rfl ?_
  refine ok_callV C T [.int x1] (F := fX4_canMake a0 x1) (ctX4_canMake (C.2.2.2.2.2.2.2.2.1) a0 x1) vlX4_90 viX4_canMake rfl rfl (by decide) rfl (by rw [hR.1, hR.2]; decide) (Nat.le_of_ble_eq_true rfl) dX4_chooseIfFewer_2 (ok_qI fun v1 s2 => ?_)
  refine ok_if_eq C 45 dX4_chooseIfFewer_5 (by decide) ?_ ?_
  · exact ok_vreturn C dX4_chooseIfFewer_45
  · refine ok_aload_n C 0 dX4_chooseIfFewer_8 rfl ?_
    refine ok_getR C frX4_11_8 dX4_chooseIfFewer_9 (fun q3 => ?_)
    refine ok_iconst C (v := 0) dX4_chooseIfFewer_12 (by decide) ?_
    refine ok_aaldI C dX4_chooseIfFewer_13 (fun q4 => ?_)
    refine ok_iload_n C 1 dX4_chooseIfFewer_14 rfl ?_
    refine ok_iald C dX4_chooseIfFewer_15 (fun v5 => ?_)
    refine ok_aload_n C 0 dX4_chooseIfFewer_16 rfl ?_
    refine ok_getI C frX4_73_8 dX4_chooseIfFewer_17 (fun v6 => ?_)
    refine ok_icmp_ge C 45 dX4_chooseIfFewer_20 (by decide) ?_ ?_
    · exact ok_vreturn C dX4_chooseIfFewer_45
    · refine ok_aload_n C 0 dX4_chooseIfFewer_23 rfl ?_
      refine ok_aload_n C 0 dX4_chooseIfFewer_24 rfl ?_
      refine ok_getR C frX4_11_8 dX4_chooseIfFewer_25 (fun q7 => ?_)
      refine ok_iconst C (v := 0) dX4_chooseIfFewer_28 (by decide) ?_
      refine ok_aaldI C dX4_chooseIfFewer_29 (fun q8 => ?_)
      refine ok_iload_n C 1 dX4_chooseIfFewer_30 rfl ?_
      refine ok_iald C dX4_chooseIfFewer_31 (fun v9 => ?_)
      refine ok_putI C flX4_73_8 dX4_chooseIfFewer_32 (fun s10 _ => ?_)
      refine ok_aload_n C 0 dX4_chooseIfFewer_35 rfl ?_
      refine ok_iload_n C 1 dX4_chooseIfFewer_36 rfl ?_
      refine ok_putI C flX4_94_8 dX4_chooseIfFewer_37 (fun s11 _ => ?_)
      refine ok_aload_n C 0 dX4_chooseIfFewer_40 rfl ?_
      refine ok_iload_n C 2 dX4_chooseIfFewer_41 rfl ?_
      refine ok_putI C flX4_97_8 dX4_chooseIfFewer_42 (fun s12 _ => ?_)
      exact ok_vreturn C dX4_chooseIfFewer_45
theorem ctX4_chooseIfFewer {l : Launch} (hl : l.stackTraces = false) {D : va_G} {dA : Nat → ClassId} {B0 : Nat} (a0 : Nat) (x1 : Int32) (x2 : Int32) : Ct l D dA B0 yX4_chooseIfFewer (.code yX4_chooseIfFewer cX4_chooseIfFewer 3 (none) :: ax_ALL) 2 81 [.ref a0, .int x1, .int x2] (fX4_chooseIfFewer a0 x1 x2) :=
  Ct.of hl (by decide +kernel) (Nat.le_of_ble_eq_true rfl) fun Γ C _ _ _ _ e5 e6 e7 T hin => oX4_chooseIfFewer C T e5 ⟨e6, e7⟩ hin a0 x1 x2 _
/-! ChaseLocker$Solver.mostAt(IIII)I -/
def fX4_mostAt_28  : Nat → Nat → Int32 → Int32 → Int32 → Int32 → AS → Option AR
  | 0, _, _, _, _, _, _ => none
  | n + 1, a0, x1, x2, x3, x5, s0 =>
    if x5 ≤ 0 then (
      some (.inl (some (.int 0)), s0))
    else (
      gR s0 a0 8 0 (fun q1 =>
      aR s0 q1 110 (x1 + 1) (fun q2 =>
      aI s0 q2 100 (x2 - (x5 * x3)) (fun v3 =>
      gR s0 a0 8 0 (fun q4 =>
      aR s0 q4 110 x1 (fun q5 =>
      aI s0 q5 100 x2 (fun v6 =>
      if (v3 + x5) = v6 then (
        some (.inl (some (.int x5)), s0))
      else (
        lt (x5 + (-1)) (fun v7 =>
        fX4_mostAt_28 n a0 x1 x2 x3 v7 s0)))))))))
def fX4_mostAt (a0 : Nat) (x1 : Int32) (x2 : Int32) (x3 : Int32) (x4 : Int32) (s0 : AS) : Option AR :=
  if x3 < (1 : Int32) then (
    some (.inl (some (.int 0)), s0))
  else (
    if x2 < 0 then (
      some (.inl (some (.int 0)), s0))
    else (
      if x2 ≤ (500 : Int32) then (
        if x3 = 0 then none else (
        lt (if (x2 / x3) < x4 then (x2 / x3) else x4) (fun v1 =>
        fX4_mostAt_28 FU a0 x1 x2 x3 v1 s0)))
      else (
        some (.inl (some (.int 0)), s0))))
set_option maxHeartbeats 4000000 in
theorem oX4_mostAt_28 {Γ : CX} (C : OKC Γ cX4_mostAt RX4 (some (.int))) (T : ∀ z ∈ (cx_c Γ).exceptionTable.toList, False) (hn : cx_nL Γ = 6) (hR : cx_fr Γ = 2 ∧ cx_lo Γ = 60) (hin : (cx_meth Γ).name = yX4_mostAt.name) : ∀ (n : Nat) (a0 : Nat) (x1 : Int32) (x2 : Int32) (x3 : Int32) (x5 : Int32) (s0 : AS), OK Γ 28 [(0, .ref a0), (1, .int x1), (2, .int x2), (3, .int x3), (5, .int x5)] [] (fX4_mostAt_28 n a0 x1 x2 x3 x5 s0) s0 := by
  intro n
  induction n with
  | zero => intro _ _ _ _ _ s0; exact OK.none
  | succ n ih =>
    intro a0 x1 x2 x3 x5 s0
    rw [fX4_mostAt_28]
    refine ok_iload C 4 dX4_mostAt_28 rfl ?_
    refine ok_if_le C 71 dX4_mostAt_30 (by decide) ?_ ?_
    · refine ok_iconst C (v := 0) dX4_mostAt_71 (by decide) ?_
      exact ok_ireturn C dX4_mostAt_72
    · refine ok_aload_n C 0 dX4_mostAt_33 rfl ?_
      refine ok_getR C frX4_11_8 dX4_mostAt_34 (fun q1 => ?_)
      refine ok_iload_n C 1 dX4_mostAt_37 rfl ?_
      refine ok_iconst C (v := 1) dX4_mostAt_38 (by decide) ?_
      refine ok_iadd C dX4_mostAt_39 ?_
      refine ok_aaldI C dX4_mostAt_40 (fun q2 => ?_)
      refine ok_iload_n C 2 dX4_mostAt_41 rfl ?_
      refine ok_iload C 4 dX4_mostAt_42 rfl ?_
      refine ok_iload_n C 3 dX4_mostAt_44 rfl ?_
      refine ok_imul C dX4_mostAt_45 ?_
      refine ok_isub C dX4_mostAt_46 ?_
      refine ok_iald C dX4_mostAt_47 (fun v3 => ?_)
      refine ok_iload C 4 dX4_mostAt_48 rfl ?_
      refine ok_iadd C dX4_mostAt_50 ?_
      refine ok_aload_n C 0 dX4_mostAt_51 rfl ?_
      refine ok_getR C frX4_11_8 dX4_mostAt_52 (fun q4 => ?_)
      refine ok_iload_n C 1 dX4_mostAt_55 rfl ?_
      refine ok_aaldI C dX4_mostAt_56 (fun q5 => ?_)
      refine ok_iload_n C 2 dX4_mostAt_57 rfl ?_
      refine ok_iald C dX4_mostAt_58 (fun v6 => ?_)
      refine ok_icmp_ne C 65 dX4_mostAt_59 (by decide) ?_ ?_
      · refine ok_iincL C 4 (c := (-1)) (fun v7 => [(5, .int v7), (0, .ref a0), (1, .int x1), (2, .int x2), (3, .int x3)]) dX4_mostAt_65 rfl rfl (by rw [hn]; decide) (fun _ => rfl) (fun v7 => ?_)
        refine ok_goto C 28 dX4_mostAt_68 (by decide) ?_
        refine OK.sub (lv' := [(0, .ref a0), (1, .int x1), (2, .int x2), (3, .int x3), (5, .int v7)]) [1, 2, 3, 4, 0] rfl ?_
        exact ih a0 x1 x2 x3 v7 s0
      · refine ok_iload C 4 dX4_mostAt_62 rfl ?_
        exact ok_ireturn C dX4_mostAt_64
set_option maxHeartbeats 4000000 in
theorem oX4_mostAt {Γ : CX} (C : OKC Γ cX4_mostAt RX4 (some (.int))) (T : ∀ z ∈ (cx_c Γ).exceptionTable.toList, False) (hn : cx_nL Γ = 6) (hR : cx_fr Γ = 2 ∧ cx_lo Γ = 60) (hin : (cx_meth Γ).name = yX4_mostAt.name) : ∀ (a0 : Nat) (x1 : Int32) (x2 : Int32) (x3 : Int32) (x4 : Int32) (s0 : AS), OK Γ 0 [(0, .ref a0), (1, .int x1), (2, .int x2), (3, .int x3), (4, .int x4)] [] (fX4_mostAt a0 x1 x2 x3 x4 s0) s0 := by
  intro a0 x1 x2 x3 x4 s0
  unfold fX4_mostAt
  refine ok_iload_n C 3 dX4_mostAt_0 rfl ?_
  refine ok_iconst C (v := 1) dX4_mostAt_1 (by decide) ?_
  refine ok_icmp_lt C 16 dX4_mostAt_2 (by decide) ?_ ?_
  · refine ok_iconst C (v := 0) dX4_mostAt_16 (by decide) ?_
    exact ok_ireturn C dX4_mostAt_17
  · refine ok_iload_n C 2 dX4_mostAt_5 rfl ?_
    refine ok_if_lt C 16 dX4_mostAt_6 (by decide) ?_ ?_
    · refine ok_iconst C (v := 0) dX4_mostAt_16 (by decide) ?_
      exact ok_ireturn C dX4_mostAt_17
    · refine ok_iload_n C 2 dX4_mostAt_9 rfl ?_
      refine ok_sipush C (v := 500) dX4_mostAt_10 (by decide) ?_
      refine ok_icmp_le C 18 dX4_mostAt_13 (by decide) ?_ ?_
      · refine ok_iload C 4 dX4_mostAt_18 rfl ?_
        refine ok_iload_n C 2 dX4_mostAt_20 rfl ?_
        refine ok_iload_n C 3 dX4_mostAt_21 rfl ?_
        refine ok_idiv C dX4_mostAt_22 ?_
        refine ok_mmin C mlX4_64 (by rw [hR.1]; decide) (by rw [hR.2]; exact Nat.le_of_ble_eq_true rfl) dX4_mostAt_23 ?_
        refine ok_lt (fun v1 => ?_)
        refine ok_istore C (i := 5) [(5, .int v1), (0, .ref a0), (1, .int x1), (2, .int x2), (3, .int x3), (4, .int x4)] dX4_mostAt_26 (by rw [hn]; decide) rfl ?_
        refine OK.sub (lv' := [(0, .ref a0), (1, .int x1), (2, .int x2), (3, .int x3), (5, .int v1)]) [1, 2, 3, 4, 0] rfl ?_
        exact oX4_mostAt_28 C T hn hR hin FU a0 x1 x2 x3 v1 s0
      · refine ok_iconst C (v := 0) dX4_mostAt_16 (by decide) ?_
        exact ok_ireturn C dX4_mostAt_17
theorem ctX4_mostAt {l : Launch} (hl : l.stackTraces = false) {D : va_G} {dA : Nat → ClassId} {B0 : Nat} (a0 : Nat) (x1 : Int32) (x2 : Int32) (x3 : Int32) (x4 : Int32) : Ct l D dA B0 yX4_mostAt (.code yX4_mostAt cX4_mostAt 6 (some (.int)) :: ax_ALL) 2 60 [.ref a0, .int x1, .int x2, .int x3, .int x4] (fX4_mostAt a0 x1 x2 x3 x4) :=
  Ct.of hl (by decide +kernel) (Nat.le_of_ble_eq_true rfl) fun Γ C _ _ _ _ e5 e6 e7 T hin => oX4_mostAt C T e5 ⟨e6, e7⟩ hin a0 x1 x2 x3 x4 _
/-! ChaseLocker$Solver.takeLongestFirst(LChaseLocker$Plan;)V -/
def fX4_takeLongestFirst_7  : Nat → Nat → Nat → Int32 → Int32 → AS → Option AR
  | 0, _, _, _, _, _ => none
  | n + 1, a0, a1, x2, x3, s0 =>
    gI s0 a1 5 7 (fun v1 =>
    if v1 ≤ x3 then (
      some (.inl none, s0))
    else (
      gR s0 a1 5 10 (fun q2 =>
      aI s0 q2 100 x3 (fun v3 =>
      gR s0 a0 8 4 (fun q4 =>
      gR s0 a1 5 9 (fun q5 =>
      aI s0 q5 100 v3 (fun v6 =>
      gR s0 a0 8 3 (fun q7 =>
      aI s0 q7 100 v3 (fun v8 =>
      cV s0 a0 8 (fX4_mostAt a0 x3 x2 v6 v8 s0) (qI (fun v9 s10 =>
      uI s10 q4 v3 v9 (fun s11 =>
      gR s11 a0 8 4 (fun q12 =>
      aI s11 q12 100 v3 (fun v13 =>
      gR s11 a1 5 9 (fun q14 =>
      aI s11 q14 100 v3 (fun v15 =>
      lt (x2 - (v13 * v15)) (fun v16 =>
      lt (x3 + 1) (fun v17 =>
      fX4_takeLongestFirst_7 n a0 a1 v16 v17 s11))))))))))))))))))
def fX4_takeLongestFirst (a0 : Nat) (a1 : Nat) (s0 : AS) : Option AR :=
  gI s0 a0 8 6 (fun v1 =>
  fX4_takeLongestFirst_7 FU a0 a1 v1 0 s0)
set_option maxHeartbeats 4000000 in
theorem oX4_takeLongestFirst_7 {Γ : CX} (C : OKC Γ cX4_takeLongestFirst RX4 none) (T : ∀ z ∈ (cx_c Γ).exceptionTable.toList, False) (hn : cx_nL Γ = 5) (hR : cx_fr Γ = 3 ∧ cx_lo Γ = 85) (hin : (cx_meth Γ).name = yX4_takeLongestFirst.name) : ∀ (n : Nat) (a0 : Nat) (a1 : Nat) (x2 : Int32) (x3 : Int32) (s0 : AS), OK Γ 7 [(0, .ref a0), (1, .ref a1), (2, .int x2), (3, .int x3)] [] (fX4_takeLongestFirst_7 n a0 a1 x2 x3 s0) s0 := by
  intro n
  induction n with
  | zero => intro _ _ _ _ s0; exact OK.none
  | succ n ih =>
    intro a0 a1 x2 x3 s0
    rw [fX4_takeLongestFirst_7]
    refine ok_iload_n C 3 dX4_takeLongestFirst_7 rfl ?_
    refine ok_aload_n C 1 dX4_takeLongestFirst_8 rfl ?_
    refine ok_getI C frX4_40_5 dX4_takeLongestFirst_9 (fun v1 => ?_)
    refine ok_icmp_ge C 74 dX4_takeLongestFirst_12 (by decide) ?_ ?_
    · exact ok_vreturn C dX4_takeLongestFirst_74
    · refine ok_aload_n C 1 dX4_takeLongestFirst_15 rfl ?_
      refine ok_getR C frX4_51_5 dX4_takeLongestFirst_16 (fun q2 => ?_)
      refine ok_iload_n C 3 dX4_takeLongestFirst_19 rfl ?_
      refine ok_iald C dX4_takeLongestFirst_20 (fun v3 => ?_)
      refine ok_istore C (i := 4) [(4, .int v3), (0, .ref a0), (1, .ref a1), (2, .int x2), (3, .int x3)] dX4_takeLongestFirst_21 (by rw [hn]; decide) rfl ?_
      refine ok_aload_n C 1 dX4_takeLongestFirst_23 rfl ?_
      refine ok_getR C frX4_26_8 dX4_takeLongestFirst_24 (fun q4 => ?_)
      refine ok_iload C 0 dX4_takeLongestFirst_27 rfl ?_
      refine ok_aload_n C 1 dX4_takeLongestFirst_29 rfl ?_
      refine ok_iload_n C 4 dX4_takeLongestFirst_30 rfl ?_
      refine ok_iload_n C 3 dX4_takeLongestFirst_31 rfl ?_
      refine ok_aload_n C 2 dX4_takeLongestFirst_32 rfl ?_
      refine ok_getR C frX4_57_5 dX4_takeLongestFirst_33 (fun q5 => ?_)
      refine ok_iload C 0 dX4_takeLongestFirst_36 rfl ?_
      refine ok_iald C dX4_takeLongestFirst_38 (fun v6 => ?_)
      refine ok_aload_n C 1 dX4_takeLongestFirst_39 rfl ?_
      refine ok_getR C frX4_23_8 dX4_takeLongestFirst_40 (fun q7 => ?_)
      refine ok_iload C 0 dX4_takeLongestFirst_43 rfl ?_
      refine ok_iald C dX4_takeLongestFirst_45 (fun v8 => ?_)
      refine ok_callV C T [.int x3, .int x2, .int v6, .int v8] (F := fX4_mostAt a0 x3 x2 v6 v8) (ctX4_mostAt (C.2.2.2.2.2.2.2.2.1) a0 x3 x2 v6 v8) vlX4_100 viX4_mostAt rfl rfl (by decide) rfl (by rw [hR.1, hR.2]; decide) (Nat.le_of_ble_eq_true rfl) dX4_takeLongestFirst_46 (ok_qI fun v9 s10 => ?_)
      refine ok_iast C dX4_takeLongestFirst_49 (fun s11 _ => ?_)
      refine ok_iload_n C 3 dX4_takeLongestFirst_50 rfl ?_
      refine ok_aload_n C 1 dX4_takeLongestFirst_51 rfl ?_
      refine ok_getR C frX4_26_8 dX4_takeLongestFirst_52 (fun q12 => ?_)
      refine ok_iload C 0 dX4_takeLongestFirst_55 rfl ?_
      refine ok_iald C dX4_takeLongestFirst_57 (fun v13 => ?_)
      refine ok_aload_n C 2 dX4_takeLongestFirst_58 rfl ?_
      refine ok_getR C frX4_57_5 dX4_takeLongestFirst_59 (fun q14 => ?_)
      refine ok_iload C 0 dX4_takeLongestFirst_62 rfl ?_
      refine ok_iald C dX4_takeLongestFirst_64 (fun v15 => ?_)
      refine ok_imul C dX4_takeLongestFirst_65 ?_
      refine ok_isub C dX4_takeLongestFirst_66 ?_
      refine ok_lt (fun v16 => ?_)
      refine ok_istore_n C (i := 2) [(2, .int v16), (4, .int v3), (0, .ref a0), (1, .ref a1), (3, .int x3)] dX4_takeLongestFirst_67 rfl (by rw [hn]; decide) rfl ?_
      refine ok_iincL C 4 (c := 1) (fun v17 => [(3, .int v17), (2, .int v16), (4, .int v3), (0, .ref a0), (1, .ref a1)]) dX4_takeLongestFirst_68 rfl rfl (by rw [hn]; decide) (fun _ => rfl) (fun v17 => ?_)
      refine ok_goto C 7 dX4_takeLongestFirst_71 (by decide) ?_
      refine OK.sub (lv' := [(0, .ref a0), (1, .ref a1), (2, .int v16), (3, .int v17)]) [3, 4, 1, 0] rfl ?_
      exact ih a0 a1 v16 v17 s11
set_option maxHeartbeats 4000000 in
theorem oX4_takeLongestFirst {Γ : CX} (C : OKC Γ cX4_takeLongestFirst RX4 none) (T : ∀ z ∈ (cx_c Γ).exceptionTable.toList, False) (hn : cx_nL Γ = 5) (hR : cx_fr Γ = 3 ∧ cx_lo Γ = 85) (hin : (cx_meth Γ).name = yX4_takeLongestFirst.name) : ∀ (a0 : Nat) (a1 : Nat) (s0 : AS), OK Γ 0 [(0, .ref a0), (1, .ref a1)] [] (fX4_takeLongestFirst a0 a1 s0) s0 := by
  intro a0 a1 s0
  unfold fX4_takeLongestFirst
  refine ok_aload_n C 0 dX4_takeLongestFirst_0 rfl ?_
  refine ok_getI C frX4_94_8 dX4_takeLongestFirst_1 (fun v1 => ?_)
  refine ok_istore_n C (i := 2) [(2, .int v1), (0, .ref a0), (1, .ref a1)] dX4_takeLongestFirst_4 rfl (by rw [hn]; decide) rfl ?_
  refine ok_iconst C (v := 0) dX4_takeLongestFirst_5 (by decide) ?_
  refine ok_istore_n C (i := 3) [(3, .int 0), (2, .int v1), (0, .ref a0), (1, .ref a1)] dX4_takeLongestFirst_6 rfl (by rw [hn]; decide) rfl ?_
  refine OK.sub (lv' := [(0, .ref a0), (1, .ref a1), (2, .int v1), (3, .int 0)]) [2, 3, 1, 0] rfl ?_
  exact oX4_takeLongestFirst_7 C T hn hR hin FU a0 a1 v1 0 s0
theorem ctX4_takeLongestFirst {l : Launch} (hl : l.stackTraces = false) {D : va_G} {dA : Nat → ClassId} {B0 : Nat} (a0 : Nat) (a1 : Nat) : Ct l D dA B0 yX4_takeLongestFirst (.code yX4_takeLongestFirst cX4_takeLongestFirst 5 (none) :: ax_ALL) 3 85 [.ref a0, .ref a1] (fX4_takeLongestFirst a0 a1) :=
  Ct.of hl (by decide +kernel) (Nat.le_of_ble_eq_true rfl) fun Γ C _ _ _ _ e5 e6 e7 T hin => oX4_takeLongestFirst C T e5 ⟨e6, e7⟩ hin a0 a1 _
/-! ChaseLocker$Solver.choose(LChaseLocker$Plan;IZ)Z -/
def fX4_choose_52  (a0 : Nat) (a1 : Nat) (s0 : AS) : Option AR :=
  gI s0 a0 8 5 (fun v1 =>
  if v1 = (1000000 : Int32) then (
    rZ 0 s0)
  else (
    cV s0 a0 8 (fX4_takeLongestFirst a0 a1 s0) (qV (fun s2 =>
    rZ 1 s2))))
def fX4_choose_43  (a0 : Nat) (a1 : Nat) (s0 : AS) : Option AR :=
  fX4_choose_52 a0 a1 s0
def fX4_choose_13  : Nat → Nat → Nat → Int32 → Int32 → AS → Option AR
  | 0, _, _, _, _, _ => none
  | n + 1, a0, a1, x2, x4, s0 =>
    gI s0 a1 5 3 (fun v1 =>
    if v1 < x4 then (
      fX4_choose_43 a0 a1 s0)
    else (
      gI s0 a1 5 2 (fun v2 =>
      cV s0 a0 8 (fX4_chooseIfFewer a0 ((x2 - v2) - x4) x4 s0) (qV (fun s3 =>
      lt (x4 + 1) (fun v4 =>
      fX4_choose_13 n a0 a1 x2 v4 s3))))))
def fX4_choose (a0 : Nat) (a1 : Nat) (x2 : Int32) (x3 : Int32) (s0 : AS) : Option AR :=
  sI s0 a0 8 5 1000000 (fun s1 =>
  if x3 = 0 then (
    cV s1 a0 8 (fX4_chooseIfFewer a0 x2 ((-1)) s1) (qV (fun s2 =>
    fX4_choose_52 a0 a1 s2)))
  else (
    fX4_choose_13 FU a0 a1 x2 0 s1))
set_option maxHeartbeats 4000000 in
theorem oX4_choose_52 {Γ : CX} (C : OKC Γ cX4_choose RX4 (some (.boolean))) (T : ∀ z ∈ (cx_c Γ).exceptionTable.toList, False) (hn : cx_nL Γ = 5) (hR : cx_fr Γ = 4 ∧ cx_lo Γ = 109) (hin : (cx_meth Γ).name = yX4_choose.name) : ∀ (a0 : Nat) (a1 : Nat) (s0 : AS), OK Γ 52 [(0, .ref a0), (1, .ref a1)] [] (fX4_choose_52  a0 a1 s0) s0 := by
  intro a0 a1 s0
  unfold fX4_choose_52
  refine ok_aload_n C 0 dX4_choose_52 rfl ?_
  refine ok_getI C frX4_73_8 dX4_choose_53 (fun v1 => ?_)
  refine ok_ldc C (v := 1000000) kw_330 dX4_choose_56 ?_
  refine ok_icmp_ne C 63 dX4_choose_58 (by decide) ?_ ?_
  · refine ok_aload_n C 0 dX4_choose_63 rfl ?_
    refine ok_aload_n C 1 dX4_choose_64 rfl ?_
    refine ok_callV C T [.ref a1] (F := fX4_takeLongestFirst a0 a1) (ctX4_takeLongestFirst (C.2.2.2.2.2.2.2.2.1) a0 a1) vlX4_86 viX4_takeLongestFirst rfl rfl (by decide) rfl (by rw [hR.1, hR.2]; decide) (Nat.le_of_ble_eq_true rfl) dX4_choose_65 (ok_qV fun s2 => ?_)
    refine ok_iconst C (v := 1) dX4_choose_68 (by decide) ?_
    exact ok_zreturn C dX4_choose_69
  · refine ok_iconst C (v := 0) dX4_choose_61 (by decide) ?_
    exact ok_zreturn C dX4_choose_62
set_option maxHeartbeats 4000000 in
theorem oX4_choose_43 {Γ : CX} (C : OKC Γ cX4_choose RX4 (some (.boolean))) (T : ∀ z ∈ (cx_c Γ).exceptionTable.toList, False) (hn : cx_nL Γ = 5) (hR : cx_fr Γ = 4 ∧ cx_lo Γ = 109) (hin : (cx_meth Γ).name = yX4_choose.name) : ∀ (a0 : Nat) (a1 : Nat) (s0 : AS), OK Γ 43 [(0, .ref a0), (1, .ref a1)] [] (fX4_choose_43  a0 a1 s0) s0 := by
  intro a0 a1 s0
  unfold fX4_choose_43
  refine ok_goto C 52 dX4_choose_43 (by decide) ?_
  exact oX4_choose_52 C T hn hR hin a0 a1 s0
set_option maxHeartbeats 4000000 in
theorem oX4_choose_13 {Γ : CX} (C : OKC Γ cX4_choose RX4 (some (.boolean))) (T : ∀ z ∈ (cx_c Γ).exceptionTable.toList, False) (hn : cx_nL Γ = 5) (hR : cx_fr Γ = 4 ∧ cx_lo Γ = 109) (hin : (cx_meth Γ).name = yX4_choose.name) : ∀ (n : Nat) (a0 : Nat) (a1 : Nat) (x2 : Int32) (x4 : Int32) (s0 : AS), OK Γ 13 [(0, .ref a0), (1, .ref a1), (2, .int x2), (4, .int x4)] [] (fX4_choose_13 n a0 a1 x2 x4 s0) s0 := by
  intro n
  induction n with
  | zero => intro _ _ _ _ s0; exact OK.none
  | succ n ih =>
    intro a0 a1 x2 x4 s0
    rw [fX4_choose_13]
    refine ok_iload C 3 dX4_choose_13 rfl ?_
    refine ok_aload_n C 1 dX4_choose_15 rfl ?_
    refine ok_getI C frX4_76_5 dX4_choose_16 (fun v1 => ?_)
    refine ok_icmp_gt C 43 dX4_choose_19 (by decide) ?_ ?_
    · refine OK.sub (lv' := [(0, .ref a0), (1, .ref a1)]) [0, 1] rfl ?_
      exact oX4_choose_43 C T hn hR hin a0 a1 s0
    · refine ok_aload_n C 0 dX4_choose_22 rfl ?_
      refine ok_iload_n C 2 dX4_choose_23 rfl ?_
      refine ok_aload_n C 1 dX4_choose_24 rfl ?_
      refine ok_getI C frX4_79_5 dX4_choose_25 (fun v2 => ?_)
      refine ok_isub C dX4_choose_28 ?_
      refine ok_iload C 3 dX4_choose_29 rfl ?_
      refine ok_isub C dX4_choose_31 ?_
      refine ok_iload C 3 dX4_choose_32 rfl ?_
      refine ok_callV C T [.int ((x2 - v2) - x4), .int x4] (F := fX4_chooseIfFewer a0 ((x2 - v2) - x4) x4) (ctX4_chooseIfFewer (C.2.2.2.2.2.2.2.2.1) a0 ((x2 - v2) - x4) x4) vlX4_82 viX4_chooseIfFewer rfl rfl (by decide) rfl (by rw [hR.1, hR.2]; decide) (Nat.le_of_ble_eq_true rfl) dX4_choose_34 (ok_qV fun s3 => ?_)
      refine ok_iincL C 3 (c := 1) (fun v4 => [(4, .int v4), (0, .ref a0), (1, .ref a1), (2, .int x2)]) dX4_choose_37 rfl rfl (by rw [hn]; decide) (fun _ => rfl) (fun v4 => ?_)
      refine ok_goto C 13 dX4_choose_40 (by decide) ?_
      refine OK.sub (lv' := [(0, .ref a0), (1, .ref a1), (2, .int x2), (4, .int v4)]) [1, 2, 3, 0] rfl ?_
      exact ih a0 a1 x2 v4 s3
set_option maxHeartbeats 4000000 in
theorem oX4_choose {Γ : CX} (C : OKC Γ cX4_choose RX4 (some (.boolean))) (T : ∀ z ∈ (cx_c Γ).exceptionTable.toList, False) (hn : cx_nL Γ = 5) (hR : cx_fr Γ = 4 ∧ cx_lo Γ = 109) (hin : (cx_meth Γ).name = yX4_choose.name) : ∀ (a0 : Nat) (a1 : Nat) (x2 : Int32) (x3 : Int32) (s0 : AS), OK Γ 0 [(0, .ref a0), (1, .ref a1), (2, .int x2), (3, .int x3)] [] (fX4_choose a0 a1 x2 x3 s0) s0 := by
  intro a0 a1 x2 x3 s0
  unfold fX4_choose
  refine ok_aload_n C 0 dX4_choose_0 rfl ?_
  refine ok_ldc C (v := 1000000) kw_330 dX4_choose_1 ?_
  refine ok_putI C flX4_73_8 dX4_choose_3 (fun s1 _ => ?_)
  refine ok_iload_n C 3 dX4_choose_6 rfl ?_
  refine ok_if_eq C 46 dX4_choose_7 (by decide) ?_ ?_
  · refine ok_aload_n C 0 dX4_choose_46 rfl ?_
    refine ok_iload_n C 2 dX4_choose_47 rfl ?_
    refine ok_iconst C (v := (-1)) dX4_choose_48 (by decide) ?_
    refine ok_callV C T [.int x2, .int ((-1))] (F := fX4_chooseIfFewer a0 x2 ((-1))) (ctX4_chooseIfFewer (C.2.2.2.2.2.2.2.2.1) a0 x2 ((-1))) vlX4_82 viX4_chooseIfFewer rfl rfl (by decide) rfl (by rw [hR.1, hR.2]; decide) (Nat.le_of_ble_eq_true rfl) dX4_choose_49 (ok_qV fun s2 => ?_)
    refine OK.sub (lv' := [(0, .ref a0), (1, .ref a1)]) [0, 1] rfl ?_
    exact oX4_choose_52 C T hn hR hin a0 a1 s2
  · refine ok_iconst C (v := 0) dX4_choose_10 (by decide) ?_
    refine ok_istore C (i := 4) [(4, .int 0), (0, .ref a0), (1, .ref a1), (2, .int x2), (3, .int x3)] dX4_choose_11 (by rw [hn]; decide) rfl ?_
    refine OK.sub (lv' := [(0, .ref a0), (1, .ref a1), (2, .int x2), (4, .int 0)]) [1, 2, 3, 0] rfl ?_
    exact oX4_choose_13 C T hn hR hin FU a0 a1 x2 0 s1
theorem ctX4_choose {l : Launch} (hl : l.stackTraces = false) {D : va_G} {dA : Nat → ClassId} {B0 : Nat} (a0 : Nat) (a1 : Nat) (x2 : Int32) (x3 : Int32) : Ct l D dA B0 yX4_choose (.code yX4_choose cX4_choose 5 (some (.boolean)) :: ax_ALL) 4 109 [.ref a0, .ref a1, .int x2, .int x3] (fX4_choose a0 a1 x2 x3) :=
  Ct.of hl (by decide +kernel) (Nat.le_of_ble_eq_true rfl) fun Γ C _ _ _ _ e5 e6 e7 T hin => oX4_choose C T e5 ⟨e6, e7⟩ hin a0 a1 x2 x3 _
/-! ChaseLocker$Solver.woodTaken(LChaseLocker$Plan;)I -/
def fX4_woodTaken_30 (r4 : Nat → Nat → Int32 → Int32 → AS → Option AR) (a0 : Nat) (a1 : Nat) (x2 : Int32) (x3 : Int32) (s0 : AS) : Option AR :=
  lt (x3 + 1) (fun v1 =>
  r4 a0 a1 x2 v1 s0)
def fX4_woodTaken_4  : Nat → Nat → Nat → Int32 → Int32 → AS → Option AR
  | 0, _, _, _, _, _ => none
  | n + 1, a0, a1, x2, x3, s0 =>
    gI s0 a1 5 7 (fun v1 =>
    if v1 ≤ x3 then (
      some (.inl (some (.int x2)), s0))
    else (
      gR s0 a1 5 8 (fun q2 =>
      aI s0 q2 101 x3 (fun v3 =>
      if v3 = 0 then (
        gR s0 a0 8 4 (fun q4 =>
        aI s0 q4 100 x3 (fun v5 =>
        lt (x2 + v5) (fun v6 =>
        fX4_woodTaken_30 (fX4_woodTaken_4 n) a0 a1 v6 x3 s0))))
      else (
        fX4_woodTaken_30 (fX4_woodTaken_4 n) a0 a1 x2 x3 s0)))))
def fX4_woodTaken (a0 : Nat) (a1 : Nat) (s0 : AS) : Option AR :=
  fX4_woodTaken_4 FU a0 a1 0 0 s0
set_option maxHeartbeats 4000000 in
theorem oX4_woodTaken_30 {Γ : CX} (C : OKC Γ cX4_woodTaken RX4 (some (.int))) (T : ∀ z ∈ (cx_c Γ).exceptionTable.toList, False) (hn : cx_nL Γ = 4) (hR : cx_fr Γ = 1 ∧ cx_lo Γ = 60) (hin : (cx_meth Γ).name = yX4_woodTaken.name) {r4 : Nat → Nat → Int32 → Int32 → AS → Option AR} (h4 : ∀ (a0 : Nat) (a1 : Nat) (x2 : Int32) (x3 : Int32) (s0 : AS), OK Γ 4 [(0, .ref a0), (1, .ref a1), (2, .int x2), (3, .int x3)] [] (r4 a0 a1 x2 x3 s0) s0) : ∀ (a0 : Nat) (a1 : Nat) (x2 : Int32) (x3 : Int32) (s0 : AS), OK Γ 30 [(0, .ref a0), (1, .ref a1), (2, .int x2), (3, .int x3)] [] (fX4_woodTaken_30 r4 a0 a1 x2 x3 s0) s0 := by
  intro a0 a1 x2 x3 s0
  unfold fX4_woodTaken_30
  refine ok_iincL C 3 (c := 1) (fun v1 => [(3, .int v1), (0, .ref a0), (1, .ref a1), (2, .int x2)]) dX4_woodTaken_30 rfl rfl (by rw [hn]; decide) (fun _ => rfl) (fun v1 => ?_)
  refine ok_goto C 4 dX4_woodTaken_33 (by decide) ?_
  refine OK.sub (lv' := [(0, .ref a0), (1, .ref a1), (2, .int x2), (3, .int v1)]) [1, 2, 3, 0] rfl ?_
  exact h4 a0 a1 x2 v1 s0
set_option maxHeartbeats 4000000 in
theorem oX4_woodTaken_4 {Γ : CX} (C : OKC Γ cX4_woodTaken RX4 (some (.int))) (T : ∀ z ∈ (cx_c Γ).exceptionTable.toList, False) (hn : cx_nL Γ = 4) (hR : cx_fr Γ = 1 ∧ cx_lo Γ = 60) (hin : (cx_meth Γ).name = yX4_woodTaken.name) : ∀ (n : Nat) (a0 : Nat) (a1 : Nat) (x2 : Int32) (x3 : Int32) (s0 : AS), OK Γ 4 [(0, .ref a0), (1, .ref a1), (2, .int x2), (3, .int x3)] [] (fX4_woodTaken_4 n a0 a1 x2 x3 s0) s0 := by
  intro n
  induction n with
  | zero => intro _ _ _ _ s0; exact OK.none
  | succ n ih =>
    intro a0 a1 x2 x3 s0
    rw [fX4_woodTaken_4]
    refine ok_iload_n C 3 dX4_woodTaken_4 rfl ?_
    refine ok_aload_n C 1 dX4_woodTaken_5 rfl ?_
    refine ok_getI C frX4_40_5 dX4_woodTaken_6 (fun v1 => ?_)
    refine ok_icmp_ge C 36 dX4_woodTaken_9 (by decide) ?_ ?_
    · refine ok_iload_n C 2 dX4_woodTaken_36 rfl ?_
      exact ok_ireturn C dX4_woodTaken_37
    · refine ok_aload_n C 1 dX4_woodTaken_12 rfl ?_
      refine ok_getR C frX4_104_5 dX4_woodTaken_13 (fun q2 => ?_)
      refine ok_iload_n C 3 dX4_woodTaken_16 rfl ?_
      refine ok_zald C dX4_woodTaken_17 (fun v3 => ?_)
      refine ok_if_ne C 30 dX4_woodTaken_18 (by decide) ?_ ?_
      · exact oX4_woodTaken_30 C T hn hR hin ih a0 a1 x2 x3 s0
      · refine ok_iload_n C 2 dX4_woodTaken_21 rfl ?_
        refine ok_aload_n C 0 dX4_woodTaken_22 rfl ?_
        refine ok_getR C frX4_26_8 dX4_woodTaken_23 (fun q4 => ?_)
        refine ok_iload_n C 3 dX4_woodTaken_26 rfl ?_
        refine ok_iald C dX4_woodTaken_27 (fun v5 => ?_)
        refine ok_iadd C dX4_woodTaken_28 ?_
        refine ok_lt (fun v6 => ?_)
        refine ok_istore_n C (i := 2) [(2, .int v6), (0, .ref a0), (1, .ref a1), (3, .int x3)] dX4_woodTaken_29 rfl (by rw [hn]; decide) rfl ?_
        refine OK.sub (lv' := [(0, .ref a0), (1, .ref a1), (2, .int v6), (3, .int x3)]) [1, 2, 0, 3] rfl ?_
        exact oX4_woodTaken_30 C T hn hR hin ih a0 a1 v6 x3 s0
set_option maxHeartbeats 4000000 in
theorem oX4_woodTaken {Γ : CX} (C : OKC Γ cX4_woodTaken RX4 (some (.int))) (T : ∀ z ∈ (cx_c Γ).exceptionTable.toList, False) (hn : cx_nL Γ = 4) (hR : cx_fr Γ = 1 ∧ cx_lo Γ = 60) (hin : (cx_meth Γ).name = yX4_woodTaken.name) : ∀ (a0 : Nat) (a1 : Nat) (s0 : AS), OK Γ 0 [(0, .ref a0), (1, .ref a1)] [] (fX4_woodTaken a0 a1 s0) s0 := by
  intro a0 a1 s0
  unfold fX4_woodTaken
  refine ok_iconst C (v := 0) dX4_woodTaken_0 (by decide) ?_
  refine ok_istore_n C (i := 2) [(2, .int 0), (0, .ref a0), (1, .ref a1)] dX4_woodTaken_1 rfl (by rw [hn]; decide) rfl ?_
  refine ok_iconst C (v := 0) dX4_woodTaken_2 (by decide) ?_
  refine ok_istore_n C (i := 3) [(3, .int 0), (2, .int 0), (0, .ref a0), (1, .ref a1)] dX4_woodTaken_3 rfl (by rw [hn]; decide) rfl ?_
  refine OK.sub (lv' := [(0, .ref a0), (1, .ref a1), (2, .int 0), (3, .int 0)]) [2, 3, 1, 0] rfl ?_
  exact oX4_woodTaken_4 C T hn hR hin FU a0 a1 0 0 s0
theorem ctX4_woodTaken {l : Launch} (hl : l.stackTraces = false) {D : va_G} {dA : Nat → ClassId} {B0 : Nat} (a0 : Nat) (a1 : Nat) : Ct l D dA B0 yX4_woodTaken (.code yX4_woodTaken cX4_woodTaken 4 (some (.int)) :: ax_ALL) 1 60 [.ref a0, .ref a1] (fX4_woodTaken a0 a1) :=
  Ct.of hl (by decide +kernel) (Nat.le_of_ble_eq_true rfl) fun Γ C _ _ _ _ e5 e6 e7 T hin => oX4_woodTaken C T e5 ⟨e6, e7⟩ hin a0 a1 _
