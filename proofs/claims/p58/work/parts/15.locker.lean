/-! ChaseLocker.<init>()V -/
def fX6_init_109  : Nat → Nat → Int32 → AS → Option AR
  | 0, _, _, _ => none
  | n + 1, a0, x1, s0 =>
    if (2 : Int32) ≤ x1 then (
      some (.inl none, s0))
    else (
      gR s0 a0 10 5 (fun q1 =>
      nO s0 9 8 (fun q2 s3 =>
      cS s3 (fX5_init q2 s3) (qV (fun s4 =>
      uR s4 q1 112 9 x1 q2 (fun s5 =>
      lt (x1 + 1) (fun v6 =>
      fX6_init_109 n a0 v6 s5)))))))
def fX6_init (a0 : Nat) (s0 : AS) : Option AR :=
  nO s0 6 9 (fun q1 s2 =>
  cS s2 (fX2_init q1 s2) (qV (fun s3 =>
  sR s3 a0 10 0 q1 (fun s4 =>
  nO s4 8 8 (fun q5 s6 =>
  cS s6 (fX4_init q5 s6) (qV (fun s7 =>
  sR s7 a0 10 1 q5 (fun s8 =>
  nO s8 4 3 (fun q9 s10 =>
  cS s10 (fX0_init q9 s10) (qV (fun s11 =>
  sR s11 a0 10 2 q9 (fun s12 =>
  nO s12 9 8 (fun q13 s14 =>
  cS s14 (fX5_init q13 s14) (qV (fun s15 =>
  sR s15 a0 10 3 q13 (fun s16 =>
  nO s16 9 8 (fun q17 s18 =>
  cS s18 (fX5_init q17 s18) (qV (fun s19 =>
  sR s19 a0 10 4 q17 (fun s20 =>
  nA s20 112 2 (fun q21 s22 =>
  sR s22 a0 10 5 q21 (fun s23 =>
  nA s23 101 2 (fun q24 s25 =>
  sR s25 a0 10 6 q24 (fun s26 =>
  nO s26 1 4 (fun q27 s28 =>
  cS s28 (fJ4_init_da8c8 q27 s28) (qV (fun s29 =>
  sR s29 a0 10 7 q27 (fun s30 =>
  nO s30 5 11 (fun q31 s32 =>
  cS s32 (fX1_init q31 s32) (qV (fun s33 =>
  sR s33 a0 10 8 q31 (fun s34 =>
  nO s34 5 11 (fun q35 s36 =>
  cS s36 (fX1_init q35 s36) (qV (fun s37 =>
  sR s37 a0 10 9 q35 (fun s38 =>
  fX6_init_109 FU a0 0 s38))))))))))))))))))))))))))))))))))))
set_option maxHeartbeats 4000000 in
theorem oX6_init_109 {Γ : CX} (C : OKC Γ cX6_init RX6 none) (T : ∀ z ∈ (cx_c Γ).exceptionTable.toList, False) (hn : cx_nL Γ = 2) (hR : cx_fr Γ = 5 ∧ cx_lo Γ = 122) (hin : (cx_meth Γ).name = yX6_init.name) : ∀ (n : Nat) (a0 : Nat) (x1 : Int32) (s0 : AS), OK Γ 109 [(0, .ref a0), (1, .int x1)] [] (fX6_init_109 n a0 x1 s0) s0 := by
  intro n
  induction n with
  | zero => intro _ _ s0; exact OK.none
  | succ n ih =>
    intro a0 x1 s0
    rw [fX6_init_109]
    refine ok_iload_n C 1 dX6_init_109 rfl ?_
    refine ok_iconst C (v := 2) dX6_init_110 (by decide) ?_
    refine ok_icmp_ge C 133 dX6_init_111 (by decide) ?_ ?_
    · exact ok_vreturn C dX6_init_133
    · refine ok_aload_n C 0 dX6_init_114 rfl ?_
      refine ok_getR C frX6_40_10 dX6_init_115 (fun q1 => ?_)
      refine ok_iload_n C 1 dX6_init_118 rfl ?_
      refine ok_new C (C0 := RX5) ax_DF9 ⟨_, rfl⟩ kw_475 dX6_init_119 (fun q2 s3 => ?_)
      refine ok_dup C dX6_init_122 rfl ?_
      refine ok_callI C T [] (F := fX5_init q2) (ctX5_init (C.2.2.2.2.2.2.2.2.1) q2) vlX6_32 kw_212 rfl rfl (by rw [hR.1, hR.2]; decide) (Nat.le_of_ble_eq_true rfl) dX6_init_123 (ok_qV fun s4 => ?_)
      refine ok_aast C 112 8 9 (fun _ => rfl) (by decide) rfl (by decide) dX6_init_126 (fun s5 => ?_)
      refine ok_iincL C 1 (c := 1) (fun v6 => [(1, .int v6), (0, .ref a0)]) dX6_init_127 rfl rfl (by rw [hn]; decide) (fun _ => rfl) (fun v6 => ?_)
      refine ok_goto C 109 dX6_init_130 (by decide) ?_
      refine OK.sub (lv' := [(0, .ref a0), (1, .int v6)]) [1, 0] rfl ?_
      exact ih a0 v6 s5
set_option maxHeartbeats 4000000 in
theorem oX6_init {Γ : CX} (C : OKC Γ cX6_init RX6 none) (T : ∀ z ∈ (cx_c Γ).exceptionTable.toList, False) (hn : cx_nL Γ = 2) (hR : cx_fr Γ = 5 ∧ cx_lo Γ = 122) (hin : (cx_meth Γ).name = yX6_init.name) : ∀ (a0 : Nat) (s0 : AS), OK Γ 0 [(0, .ref a0)] [] (fX6_init a0 s0) s0 := by
  intro a0 s0
  unfold fX6_init
  refine ok_aload_n C 0 dX6_init_0 rfl ?_
  refine ok_objInit C kw_461 kw_48 kw_49 (by rw [hR.1]; decide) (by rw [hR.2]; exact Nat.le_of_ble_eq_true rfl) dX6_init_1 ?_
  refine ok_aload_n C 0 dX6_init_4 rfl ?_
  refine ok_new C (C0 := RX2) ax_DF6 ⟨_, rfl⟩ kw_462 dX6_init_5 (fun q1 s2 => ?_)
  refine ok_dup C dX6_init_8 rfl ?_
  refine ok_callIN C T [] (F := fX2_init q1) (ctX2_init (C.2.2.2.2.2.2.2.2.1) q1) nlX6_9 kw_464 rfl rfl (by rw [hR.1, hR.2]; decide) (Nat.le_of_ble_eq_true rfl) dX6_init_9 (ok_qV fun s3 => ?_)
  refine ok_putRF C flX6_10_10 (by first | exact Or.inl ⟨_, rfl⟩ | exact Or.inr ⟨_, rfl⟩) hin dX6_init_12 (fun s4 _ => ?_)
  refine ok_aload_n C 0 dX6_init_15 rfl ?_
  refine ok_new C (C0 := RX4) ax_DF8 ⟨_, rfl⟩ kw_466 dX6_init_16 (fun q5 s6 => ?_)
  refine ok_dup C dX6_init_19 rfl ?_
  refine ok_callIN C T [] (F := fX4_init q5) (ctX4_init (C.2.2.2.2.2.2.2.2.1) q5) nlX6_18 kw_468 rfl rfl (by rw [hR.1, hR.2]; decide) (Nat.le_of_ble_eq_true rfl) dX6_init_20 (ok_qV fun s7 => ?_)
  refine ok_putRF C flX6_19_10 (by first | exact Or.inl ⟨_, rfl⟩ | exact Or.inr ⟨_, rfl⟩) hin dX6_init_23 (fun s8 _ => ?_)
  refine ok_aload_n C 0 dX6_init_26 rfl ?_
  refine ok_new C (C0 := RX0) ax_DF4 ⟨_, rfl⟩ kw_470 dX6_init_27 (fun q9 s10 => ?_)
  refine ok_dup C dX6_init_30 rfl ?_
  refine ok_callI C T [] (F := fX0_init q9) (ctX0_init (C.2.2.2.2.2.2.2.2.1) q9) vlX6_25 kw_472 rfl rfl (by rw [hR.1, hR.2]; decide) (Nat.le_of_ble_eq_true rfl) dX6_init_31 (ok_qV fun s11 => ?_)
  refine ok_putRF C flX6_26_10 (by first | exact Or.inl ⟨_, rfl⟩ | exact Or.inr ⟨_, rfl⟩) hin dX6_init_34 (fun s12 _ => ?_)
  refine ok_aload_n C 0 dX6_init_37 rfl ?_
  refine ok_new C (C0 := RX5) ax_DF9 ⟨_, rfl⟩ kw_475 dX6_init_38 (fun q13 s14 => ?_)
  refine ok_dup C dX6_init_41 rfl ?_
  refine ok_callI C T [] (F := fX5_init q13) (ctX5_init (C.2.2.2.2.2.2.2.2.1) q13) vlX6_32 kw_212 rfl rfl (by rw [hR.1, hR.2]; decide) (Nat.le_of_ble_eq_true rfl) dX6_init_42 (ok_qV fun s15 => ?_)
  refine ok_putRF C flX6_33_10 (by first | exact Or.inl ⟨_, rfl⟩ | exact Or.inr ⟨_, rfl⟩) hin dX6_init_45 (fun s16 _ => ?_)
  refine ok_aload_n C 0 dX6_init_48 rfl ?_
  refine ok_new C (C0 := RX5) ax_DF9 ⟨_, rfl⟩ kw_475 dX6_init_49 (fun q17 s18 => ?_)
  refine ok_dup C dX6_init_52 rfl ?_
  refine ok_callI C T [] (F := fX5_init q17) (ctX5_init (C.2.2.2.2.2.2.2.2.1) q17) vlX6_32 kw_212 rfl rfl (by rw [hR.1, hR.2]; decide) (Nat.le_of_ble_eq_true rfl) dX6_init_53 (ok_qV fun s19 => ?_)
  refine ok_putRF C flX6_37_10 (by first | exact Or.inl ⟨_, rfl⟩ | exact Or.inr ⟨_, rfl⟩) hin dX6_init_56 (fun s20 _ => ?_)
  refine ok_aload_n C 0 dX6_init_59 rfl ?_
  refine ok_iconst C (v := 2) dX6_init_60 (by decide) ?_
  refine ok_newq C 112 8 kw_475 (ax_over112 C) (fun _ => rfl) (by decide) dX6_init_61 (fun q21 s22 => ?_)
  refine ok_putRF C flX6_40_10 (by first | exact Or.inl ⟨_, rfl⟩ | exact Or.inr ⟨_, rfl⟩) hin dX6_init_64 (fun s23 _ => ?_)
  refine ok_aload_n C 0 dX6_init_67 rfl ?_
  refine ok_iconst C (v := 2) dX6_init_68 (by decide) ?_
  refine ok_newZ C kw_134 dX6_init_69 (fun q24 s25 => ?_)
  refine ok_putRF C flX6_44_10 (by first | exact Or.inl ⟨_, rfl⟩ | exact Or.inr ⟨_, rfl⟩) hin dX6_init_71 (fun s26 _ => ?_)
  refine ok_aload_n C 0 dX6_init_74 rfl ?_
  refine ok_new C (C0 := RJ4) ax_DF1 ⟨_, rfl⟩ kw_481 dX6_init_75 (fun q27 s28 => ?_)
  refine ok_dup C dX6_init_78 rfl ?_
  refine ok_callI C T [] (F := fJ4_init_da8c8 q27) (ctJ4_init_da8c8 (C.2.2.2.2.2.2.2.2.1) q27) vlX6_50 kw_483 rfl rfl (by rw [hR.1, hR.2]; decide) (Nat.le_of_ble_eq_true rfl) dX6_init_79 (ok_qV fun s29 => ?_)
  refine ok_putRF C flX6_51_10 (by first | exact Or.inl ⟨_, rfl⟩ | exact Or.inr ⟨_, rfl⟩) hin dX6_init_82 (fun s30 _ => ?_)
  refine ok_aload_n C 0 dX6_init_85 rfl ?_
  refine ok_new C (C0 := RX1) ax_DF5 ⟨_, rfl⟩ kw_486 dX6_init_86 (fun q31 s32 => ?_)
  refine ok_dup C dX6_init_89 rfl ?_
  refine ok_callIN C T [] (F := fX1_init q31) (ctX1_init (C.2.2.2.2.2.2.2.2.1) q31) nlX6_57 kw_488 rfl rfl (by rw [hR.1, hR.2]; decide) (Nat.le_of_ble_eq_true rfl) dX6_init_90 (ok_qV fun s33 => ?_)
  refine ok_putR C flX6_58_10 (by first | exact Or.inl ⟨_, rfl⟩ | exact Or.inr ⟨_, rfl⟩) dX6_init_93 (fun s34 _ => ?_)
  refine ok_aload_n C 0 dX6_init_96 rfl ?_
  refine ok_new C (C0 := RX1) ax_DF5 ⟨_, rfl⟩ kw_486 dX6_init_97 (fun q35 s36 => ?_)
  refine ok_dup C dX6_init_100 rfl ?_
  refine ok_callIN C T [] (F := fX1_init q35) (ctX1_init (C.2.2.2.2.2.2.2.2.1) q35) nlX6_57 kw_488 rfl rfl (by rw [hR.1, hR.2]; decide) (Nat.le_of_ble_eq_true rfl) dX6_init_101 (ok_qV fun s37 => ?_)
  refine ok_putR C flX6_62_10 (by first | exact Or.inl ⟨_, rfl⟩ | exact Or.inr ⟨_, rfl⟩) dX6_init_104 (fun s38 _ => ?_)
  refine ok_iconst C (v := 0) dX6_init_107 (by decide) ?_
  refine ok_istore_n C (i := 1) [(1, .int 0), (0, .ref a0)] dX6_init_108 rfl (by rw [hn]; decide) rfl ?_
  refine OK.sub (lv' := [(0, .ref a0), (1, .int 0)]) [1, 0] rfl ?_
  exact oX6_init_109 C T hn hR hin FU a0 0 s38
theorem ctX6_init {l : Launch} (hl : l.stackTraces = false) {D : va_G} {dA : Nat → ClassId} {B0 : Nat} (a0 : Nat) : Ct l D dA B0 yX6_init (.code yX6_init cX6_init 2 (none) :: ax_ALL) 5 122 [.ref a0] (fX6_init a0) :=
  Ct.of hl (by decide +kernel) (Nat.le_of_ble_eq_true rfl) fun Γ C _ _ _ _ e5 e6 e7 T hin => oX6_init C T e5 ⟨e6, e7⟩ hin a0 _
/-! ChaseLocker.append(IIIII)I -/
def fX6_append (a0 : Nat) (x1 : Int32) (x2 : Int32) (x3 : Int32) (x4 : Int32) (x5 : Int32) (s0 : AS) : Option AR :=
  gR s0 a0 10 0 (fun q1 =>
  cV s0 q1 6 (fX2_addBytes q1 x1 x2 x3 x4 x5 s0) (qI (fun v2 s3 =>
  if v2 = 0 then (
    some (.inl (some (.int ((-1)))), s3))
  else (
    gR s3 a0 10 0 (fun q4 =>
    gI s3 q4 6 2 (fun v5 =>
    some (.inl (some (.int v5)), s3)))))))
set_option maxHeartbeats 4000000 in
theorem oX6_append {Γ : CX} (C : OKC Γ cX6_append RX6 (some (.int))) (T : ∀ z ∈ (cx_c Γ).exceptionTable.toList, False) (hn : cx_nL Γ = 6) (hR : cx_fr Γ = 3 ∧ cx_lo Γ = 107) (hin : (cx_meth Γ).name = yX6_append.name) : ∀ (a0 : Nat) (x1 : Int32) (x2 : Int32) (x3 : Int32) (x4 : Int32) (x5 : Int32) (s0 : AS), OK Γ 0 [(0, .ref a0), (1, .int x1), (2, .int x2), (3, .int x3), (4, .int x4), (5, .int x5)] [] (fX6_append a0 x1 x2 x3 x4 x5 s0) s0 := by
  intro a0 x1 x2 x3 x4 x5 s0
  unfold fX6_append
  refine ok_aload_n C 0 dX6_append_0 rfl ?_
  refine ok_getR C frX6_10_10 dX6_append_1 (fun q1 => ?_)
  refine ok_iload_n C 1 dX6_append_4 rfl ?_
  refine ok_iload_n C 2 dX6_append_5 rfl ?_
  refine ok_iload_n C 3 dX6_append_6 rfl ?_
  refine ok_iload C 4 dX6_append_7 rfl ?_
  refine ok_iload C 5 dX6_append_9 rfl ?_
  refine ok_callV C T [.int x1, .int x2, .int x3, .int x4, .int x5] (F := fX2_addBytes q1 x1 x2 x3 x4 x5) (ctX2_addBytes (C.2.2.2.2.2.2.2.2.1) q1 x1 x2 x3 x4 x5) vlX6_65 viX2_addBytes rfl rfl (by decide) rfl (by rw [hR.1, hR.2]; decide) (Nat.le_of_ble_eq_true rfl) dX6_append_11 (ok_qI fun v2 s3 => ?_)
  refine ok_if_eq C 27 dX6_append_14 (by decide) ?_ ?_
  · refine ok_iconst C (v := (-1)) dX6_append_27 (by decide) ?_
    exact ok_ireturn C dX6_append_28
  · refine ok_aload_n C 0 dX6_append_17 rfl ?_
    refine ok_getR C frX6_10_10 dX6_append_18 (fun q4 => ?_)
    refine ok_getI C frX6_69_6 dX6_append_21 (fun v5 => ?_)
    refine ok_goto C 28 dX6_append_24 (by decide) ?_
    exact ok_ireturn C dX6_append_28
theorem ctX6_append {l : Launch} (hl : l.stackTraces = false) {D : va_G} {dA : Nat → ClassId} {B0 : Nat} (a0 : Nat) (x1 : Int32) (x2 : Int32) (x3 : Int32) (x4 : Int32) (x5 : Int32) : Ct l D dA B0 yX6_append (.code yX6_append cX6_append 6 (some (.int)) :: ax_ALL) 3 107 [.ref a0, .int x1, .int x2, .int x3, .int x4, .int x5] (fX6_append a0 x1 x2 x3 x4 x5) :=
  Ct.of hl (by decide +kernel) (Nat.le_of_ble_eq_true rfl) fun Γ C _ _ _ _ e5 e6 e7 T hin => oX6_append C T e5 ⟨e6, e7⟩ hin a0 x1 x2 x3 x4 x5 _
/-! ChaseLocker.takeOverText()V -/
def fX6_takeOverText_56  (a0 : Nat) (s0 : AS) : Option AR :=
  sZ s0 a0 10 10 1 (fun s1 =>
  some (.inl none, s1))
def fX6_takeOverText_38  : Nat → Nat → Int32 → AS → Option AR
  | 0, _, _, _ => none
  | n + 1, a0, x2, s0 =>
    if (2 : Int32) ≤ x2 then (
      fX6_takeOverText_56 a0 s0)
    else (
      gR s0 a0 10 6 (fun q1 =>
      uN 101 .boolean s0 q1 x2 0 (fun s2 =>
      lt (x2 + 1) (fun v3 =>
      fX6_takeOverText_38 n a0 v3 s2))))
def fX6_takeOverText (a0 : Nat) (s0 : AS) : Option AR :=
  gR s0 a0 10 8 (fun q1 =>
  gR s0 a0 10 9 (fun q2 =>
  sR s0 a0 10 8 q2 (fun s3 =>
  sR s3 a0 10 9 q1 (fun s4 =>
  gR s4 a0 10 3 (fun q5 =>
  gR s4 a0 10 4 (fun q6 =>
  cV s4 q5 9 (fX5_copyFrom q5 q6 s4) (qV (fun s7 =>
  gR s7 a0 10 2 (fun q8 =>
  cV s7 q8 4 (fX0_clear q8 s7) (qV (fun s9 =>
  fX6_takeOverText_38 FU a0 0 s9)))))))))))
set_option maxHeartbeats 4000000 in
theorem oX6_takeOverText_56 {Γ : CX} (C : OKC Γ cX6_takeOverText RX6 none) (T : ∀ z ∈ (cx_c Γ).exceptionTable.toList, False) (hn : cx_nL Γ = 3) (hR : cx_fr Γ = 4 ∧ cx_lo Γ = 143) (hin : (cx_meth Γ).name = yX6_takeOverText.name) : ∀ (a0 : Nat) (s0 : AS), OK Γ 56 [(0, .ref a0)] [] (fX6_takeOverText_56  a0 s0) s0 := by
  intro a0 s0
  unfold fX6_takeOverText_56
  refine ok_aload_n C 0 dX6_takeOverText_56 rfl ?_
  refine ok_iconst C (v := 1) dX6_takeOverText_57 (by decide) ?_
  refine ok_putZ C flX6_102_10 dX6_takeOverText_58 (fun s1 _ => ?_)
  exact ok_vreturn C dX6_takeOverText_61
set_option maxHeartbeats 4000000 in
theorem oX6_takeOverText_38 {Γ : CX} (C : OKC Γ cX6_takeOverText RX6 none) (T : ∀ z ∈ (cx_c Γ).exceptionTable.toList, False) (hn : cx_nL Γ = 3) (hR : cx_fr Γ = 4 ∧ cx_lo Γ = 143) (hin : (cx_meth Γ).name = yX6_takeOverText.name) : ∀ (n : Nat) (a0 : Nat) (x2 : Int32) (s0 : AS), OK Γ 38 [(0, .ref a0), (2, .int x2)] [] (fX6_takeOverText_38 n a0 x2 s0) s0 := by
  intro n
  induction n with
  | zero => intro _ _ s0; exact OK.none
  | succ n ih =>
    intro a0 x2 s0
    rw [fX6_takeOverText_38]
    refine ok_iload_n C 1 dX6_takeOverText_38 rfl ?_
    refine ok_iconst C (v := 2) dX6_takeOverText_39 (by decide) ?_
    refine ok_icmp_ge C 56 dX6_takeOverText_40 (by decide) ?_ ?_
    · refine OK.sub (lv' := [(0, .ref a0)]) [0] rfl ?_
      exact oX6_takeOverText_56 C T hn hR hin a0 s0
    · refine ok_aload_n C 0 dX6_takeOverText_43 rfl ?_
      refine ok_getR C frX6_44_10 dX6_takeOverText_44 (fun q1 => ?_)
      refine ok_iload_n C 1 dX6_takeOverText_47 rfl ?_
      refine ok_iconst C (v := 0) dX6_takeOverText_48 (by decide) ?_
      refine ok_zast C dX6_takeOverText_49 (fun s2 _ => ?_)
      refine ok_iincL C 1 (c := 1) (fun v3 => [(2, .int v3), (0, .ref a0)]) dX6_takeOverText_50 rfl rfl (by rw [hn]; decide) (fun _ => rfl) (fun v3 => ?_)
      refine ok_goto C 38 dX6_takeOverText_53 (by decide) ?_
      refine OK.sub (lv' := [(0, .ref a0), (2, .int v3)]) [1, 0] rfl ?_
      exact ih a0 v3 s2
set_option maxHeartbeats 4000000 in
theorem oX6_takeOverText {Γ : CX} (C : OKC Γ cX6_takeOverText RX6 none) (T : ∀ z ∈ (cx_c Γ).exceptionTable.toList, False) (hn : cx_nL Γ = 3) (hR : cx_fr Γ = 4 ∧ cx_lo Γ = 143) (hin : (cx_meth Γ).name = yX6_takeOverText.name) : ∀ (a0 : Nat) (s0 : AS), OK Γ 0 [(0, .ref a0)] [] (fX6_takeOverText a0 s0) s0 := by
  intro a0 s0
  unfold fX6_takeOverText
  refine ok_aload_n C 0 dX6_takeOverText_0 rfl ?_
  refine ok_getR C frX6_58_10 dX6_takeOverText_1 (fun q1 => ?_)
  refine ok_astore_n C (i := 1) [(1, .ref q1), (0, .ref a0)] dX6_takeOverText_4 rfl (by rw [hn]; decide) rfl ?_
  refine ok_aload_n C 1 dX6_takeOverText_5 rfl ?_
  refine ok_aload_n C 1 dX6_takeOverText_6 rfl ?_
  refine ok_getR C frX6_62_10 dX6_takeOverText_7 (fun q2 => ?_)
  refine ok_putR C flX6_58_10 (by first | exact Or.inl ⟨_, rfl⟩ | exact Or.inr ⟨_, rfl⟩) dX6_takeOverText_10 (fun s3 _ => ?_)
  refine ok_aload_n C 1 dX6_takeOverText_13 rfl ?_
  refine ok_aload_n C 0 dX6_takeOverText_14 rfl ?_
  refine ok_putR C flX6_62_10 (by first | exact Or.inl ⟨_, rfl⟩ | exact Or.inr ⟨_, rfl⟩) dX6_takeOverText_15 (fun s4 _ => ?_)
  refine ok_aload_n C 1 dX6_takeOverText_18 rfl ?_
  refine ok_getR C frX6_33_10 dX6_takeOverText_19 (fun q5 => ?_)
  refine ok_aload_n C 1 dX6_takeOverText_22 rfl ?_
  refine ok_getR C frX6_37_10 dX6_takeOverText_23 (fun q6 => ?_)
  refine ok_callV C T [.ref q6] (F := fX5_copyFrom q5 q6) (ctX5_copyFrom (C.2.2.2.2.2.2.2.2.1) q5 q6) vlX6_95 viX5_copyFrom rfl rfl (by decide) rfl (by rw [hR.1, hR.2]; decide) (Nat.le_of_ble_eq_true rfl) dX6_takeOverText_26 (ok_qV fun s7 => ?_)
  refine ok_aload_n C 1 dX6_takeOverText_29 rfl ?_
  refine ok_getR C frX6_26_10 dX6_takeOverText_30 (fun q8 => ?_)
  refine ok_callV C T [] (F := fX0_clear q8) (ctX0_clear (C.2.2.2.2.2.2.2.2.1) q8) vlX6_99 viX0_clear rfl rfl (by decide) rfl (by rw [hR.1, hR.2]; decide) (Nat.le_of_ble_eq_true rfl) dX6_takeOverText_33 (ok_qV fun s9 => ?_)
  refine ok_iconst C (v := 0) dX6_takeOverText_36 (by decide) ?_
  refine ok_istore_n C (i := 2) [(2, .int 0), (1, .ref q1), (0, .ref a0)] dX6_takeOverText_37 rfl (by rw [hn]; decide) rfl ?_
  refine OK.sub (lv' := [(0, .ref a0), (2, .int 0)]) [2, 0] rfl ?_
  exact oX6_takeOverText_38 C T hn hR hin FU a0 0 s9
theorem ctX6_takeOverText {l : Launch} (hl : l.stackTraces = false) {D : va_G} {dA : Nat → ClassId} {B0 : Nat} (a0 : Nat) : Ct l D dA B0 yX6_takeOverText (.code yX6_takeOverText cX6_takeOverText 3 (none) :: ax_ALL) 4 143 [.ref a0] (fX6_takeOverText a0) :=
  Ct.of hl (by decide +kernel) (Nat.le_of_ble_eq_true rfl) fun Γ C _ _ _ _ e5 e6 e7 T hin => oX6_takeOverText C T e5 ⟨e6, e7⟩ hin a0 _
/-! ChaseLocker.load(I)I -/
def fX6_load (a0 : Nat) (x1 : Int32) (s0 : AS) : Option AR :=
  if x1 < 0 then (
    tE "java/lang/IndexOutOfBoundsException" s0)
  else (
    gR s0 a0 10 0 (fun q1 =>
    gI s0 q1 6 2 (fun v2 =>
    if x1 ≤ v2 then (
      gR s0 a0 10 0 (fun q3 =>
      gR s0 a0 10 9 (fun q4 =>
      gR s0 a0 10 4 (fun q5 =>
      cV s0 q3 6 (fX2_readText q3 x1 q4 q5 s0) (qI (fun v6 s7 =>
      if v6 = 0 then (
        tE "java/lang/IllegalArgumentException" s7)
      else (
        cV s7 a0 10 (fX6_takeOverText a0 s7) (qV (fun s8 =>
        gR s8 a0 10 8 (fun q9 =>
        gI s8 q9 5 7 (fun v10 =>
        some (.inl (some (.int v10)), s8))))))))))))
    else (
      tE "java/lang/IndexOutOfBoundsException" s0))))
set_option maxHeartbeats 4000000 in
theorem oX6_load {Γ : CX} (C : OKC Γ cX6_load RX6 (some (.int))) (T : ∀ z ∈ (cx_c Γ).exceptionTable.toList, False) (hn : cx_nL Γ = 2) (hR : cx_fr Γ = 9 ∧ cx_lo Γ = 234) (hin : (cx_meth Γ).name = yX6_load.name) : ∀ (a0 : Nat) (x1 : Int32) (s0 : AS), OK Γ 0 [(0, .ref a0), (1, .int x1)] [] (fX6_load a0 x1 s0) s0 := by
  intro a0 x1 s0
  unfold fX6_load
  refine ok_iload_n C 1 dX6_load_0 rfl ?_
  refine ok_if_lt C 15 dX6_load_1 (by decide) ?_ ?_
  · exact ok_throwS C T tlX6_73_77 (i := 0) rfl dX6_load_15 dX6_load_18 dX6_load_19 dX6_load_21 dX6_load_24 (by rw [hR.1]; decide) (by rw [hR.2]; exact Nat.le_of_ble_eq_true rfl)
  · refine ok_iload_n C 1 dX6_load_4 rfl ?_
    refine ok_aload_n C 0 dX6_load_5 rfl ?_
    refine ok_getR C frX6_10_10 dX6_load_6 (fun q1 => ?_)
    refine ok_getI C frX6_69_6 dX6_load_9 (fun v2 => ?_)
    refine ok_icmp_le C 25 dX6_load_12 (by decide) ?_ ?_
    · refine ok_aload_n C 0 dX6_load_25 rfl ?_
      refine ok_getR C frX6_10_10 dX6_load_26 (fun q3 => ?_)
      refine ok_iload_n C 1 dX6_load_29 rfl ?_
      refine ok_aload_n C 0 dX6_load_30 rfl ?_
      refine ok_getR C frX6_62_10 dX6_load_31 (fun q4 => ?_)
      refine ok_aload_n C 0 dX6_load_34 rfl ?_
      refine ok_getR C frX6_37_10 dX6_load_35 (fun q5 => ?_)
      refine ok_callV C T [.int x1, .ref q4, .ref q5] (F := fX2_readText q3 x1 q4 q5) (ctX2_readText (C.2.2.2.2.2.2.2.2.1) q3 x1 q4 q5) vlX6_80 viX2_readText rfl rfl (by decide) rfl (by rw [hR.1, hR.2]; decide) (Nat.le_of_ble_eq_true rfl) dX6_load_38 (ok_qI fun v6 s7 => ?_)
      refine ok_if_ne C 54 dX6_load_41 (by decide) ?_ ?_
      · refine ok_aload_n C 0 dX6_load_54 rfl ?_
        refine ok_callV C T [] (F := fX6_takeOverText a0) (ctX6_takeOverText (C.2.2.2.2.2.2.2.2.1) a0) vlX6_89 viX6_takeOverText rfl rfl (by decide) rfl (by rw [hR.1, hR.2]; decide) (Nat.le_of_ble_eq_true rfl) dX6_load_55 (ok_qV fun s8 => ?_)
        refine ok_aload_n C 0 dX6_load_58 rfl ?_
        refine ok_getR C frX6_58_10 dX6_load_59 (fun q9 => ?_)
        refine ok_getI C frX6_92_5 dX6_load_62 (fun v10 => ?_)
        exact ok_ireturn C dX6_load_65
      · exact ok_throwS C T tlX6_84_88 (i := 1) rfl dX6_load_44 dX6_load_47 dX6_load_48 dX6_load_50 dX6_load_53 (by rw [hR.1]; decide) (by rw [hR.2]; exact Nat.le_of_ble_eq_true rfl)
    · exact ok_throwS C T tlX6_73_77 (i := 0) rfl dX6_load_15 dX6_load_18 dX6_load_19 dX6_load_21 dX6_load_24 (by rw [hR.1]; decide) (by rw [hR.2]; exact Nat.le_of_ble_eq_true rfl)
theorem ctX6_load {l : Launch} (hl : l.stackTraces = false) {D : va_G} {dA : Nat → ClassId} {B0 : Nat} (a0 : Nat) (x1 : Int32) : Ct l D dA B0 yX6_load (.code yX6_load cX6_load 2 (some (.int)) :: ax_ALL) 9 234 [.ref a0, .int x1] (fX6_load a0 x1) :=
  Ct.of hl (by decide +kernel) (Nat.le_of_ble_eq_true rfl) fun Γ C _ _ _ _ e5 e6 e7 T hin => oX6_load C T e5 ⟨e6, e7⟩ hin a0 x1 _
/-! ChaseLocker.parseError()I -/
def fX6_parseError (a0 : Nat) (s0 : AS) : Option AR :=
  gR s0 a0 10 0 (fun q1 =>
  gI s0 q1 6 3 (fun v2 =>
  some (.inl (some (.int v2)), s0)))
set_option maxHeartbeats 4000000 in
theorem oX6_parseError {Γ : CX} (C : OKC Γ cX6_parseError RX6 (some (.int))) (T : ∀ z ∈ (cx_c Γ).exceptionTable.toList, False) (hn : cx_nL Γ = 1) (hR : cx_fr Γ = 1 ∧ cx_lo Γ = 60) (hin : (cx_meth Γ).name = yX6_parseError.name) : ∀ (a0 : Nat) (s0 : AS), OK Γ 0 [(0, .ref a0)] [] (fX6_parseError a0 s0) s0 := by
  intro a0 s0
  unfold fX6_parseError
  refine ok_aload_n C 0 dX6_parseError_0 rfl ?_
  refine ok_getR C frX6_10_10 dX6_parseError_1 (fun q1 => ?_)
  refine ok_getI C frX6_106_6 dX6_parseError_4 (fun v2 => ?_)
  exact ok_ireturn C dX6_parseError_7
theorem ctX6_parseError {l : Launch} (hl : l.stackTraces = false) {D : va_G} {dA : Nat → ClassId} {B0 : Nat} (a0 : Nat) : Ct l D dA B0 yX6_parseError (.code yX6_parseError cX6_parseError 1 (some (.int)) :: ax_ALL) 1 60 [.ref a0] (fX6_parseError a0) :=
  Ct.of hl (by decide +kernel) (Nat.le_of_ble_eq_true rfl) fun Γ C _ _ _ _ e5 e6 e7 T hin => oX6_parseError C T e5 ⟨e6, e7⟩ hin a0 _
/-! ChaseLocker.errorPosition()I -/
def fX6_errorPosition (a0 : Nat) (s0 : AS) : Option AR :=
  gR s0 a0 10 0 (fun q1 =>
  gI s0 q1 6 4 (fun v2 =>
  some (.inl (some (.int v2)), s0)))
set_option maxHeartbeats 4000000 in
theorem oX6_errorPosition {Γ : CX} (C : OKC Γ cX6_errorPosition RX6 (some (.int))) (T : ∀ z ∈ (cx_c Γ).exceptionTable.toList, False) (hn : cx_nL Γ = 1) (hR : cx_fr Γ = 1 ∧ cx_lo Γ = 60) (hin : (cx_meth Γ).name = yX6_errorPosition.name) : ∀ (a0 : Nat) (s0 : AS), OK Γ 0 [(0, .ref a0)] [] (fX6_errorPosition a0 s0) s0 := by
  intro a0 s0
  unfold fX6_errorPosition
  refine ok_aload_n C 0 dX6_errorPosition_0 rfl ?_
  refine ok_getR C frX6_10_10 dX6_errorPosition_1 (fun q1 => ?_)
  refine ok_getI C frX6_109_6 dX6_errorPosition_4 (fun v2 => ?_)
  exact ok_ireturn C dX6_errorPosition_7
theorem ctX6_errorPosition {l : Launch} (hl : l.stackTraces = false) {D : va_G} {dA : Nat → ClassId} {B0 : Nat} (a0 : Nat) : Ct l D dA B0 yX6_errorPosition (.code yX6_errorPosition cX6_errorPosition 1 (some (.int)) :: ax_ALL) 1 60 [.ref a0] (fX6_errorPosition a0) :=
  Ct.of hl (by decide +kernel) (Nat.le_of_ble_eq_true rfl) fun Γ C _ _ _ _ e5 e6 e7 T hin => oX6_errorPosition C T e5 ⟨e6, e7⟩ hin a0 _
/-! ChaseLocker.needChase()V -/
def fX6_needChase (a0 : Nat) (s0 : AS) : Option AR :=
  gI s0 a0 10 10 (fun v1 =>
  if v1 = 0 then (
    tE "java/lang/IllegalStateException" s0)
  else (
    some (.inl none, s0)))
set_option maxHeartbeats 4000000 in
theorem oX6_needChase {Γ : CX} (C : OKC Γ cX6_needChase RX6 none) (T : ∀ z ∈ (cx_c Γ).exceptionTable.toList, False) (hn : cx_nL Γ = 1) (hR : cx_fr Γ = 6 ∧ cx_lo Γ = 90) (hin : (cx_meth Γ).name = yX6_needChase.name) : ∀ (a0 : Nat) (s0 : AS), OK Γ 0 [(0, .ref a0)] [] (fX6_needChase a0 s0) s0 := by
  intro a0 s0
  unfold fX6_needChase
  refine ok_aload_n C 0 dX6_needChase_0 rfl ?_
  refine ok_getI C frX6_102_10 dX6_needChase_1 (fun v1 => ?_)
  refine ok_if_ne C 18 dX6_needChase_4 (by decide) ?_ ?_
  · exact ok_vreturn C dX6_needChase_18
  · exact ok_throwSW C T tlX6_428_432 (i := 20) rfl dX6_needChase_7 dX6_needChase_10 dX6_needChase_11 dX6_needChase_14 dX6_needChase_17 (by rw [hR.1]; decide) (by rw [hR.2]; exact Nat.le_of_ble_eq_true rfl)
theorem ctX6_needChase {l : Launch} (hl : l.stackTraces = false) {D : va_G} {dA : Nat → ClassId} {B0 : Nat} (a0 : Nat) : Ct l D dA B0 yX6_needChase (.code yX6_needChase cX6_needChase 1 (none) :: ax_ALL) 6 90 [.ref a0] (fX6_needChase a0) :=
  Ct.of hl (by decide +kernel) (Nat.le_of_ble_eq_true rfl) fun Γ C _ _ _ _ e5 e6 e7 T hin => oX6_needChase C T e5 ⟨e6, e7⟩ hin a0 _
/-! ChaseLocker.count(I)I -/
def fX6_count (a0 : Nat) (x1 : Int32) (s0 : AS) : Option AR :=
  cV s0 a0 10 (fX6_needChase a0 s0) (qV (fun s1 =>
  if x1 = 0 then (
    gR s1 a0 10 8 (fun q2 =>
    gI s1 q2 5 1 (fun v3 =>
    some (.inl (some (.int v3)), s1))))
  else (
  if x1 = 1 then (
    gR s1 a0 10 8 (fun q4 =>
    gI s1 q4 5 7 (fun v5 =>
    some (.inl (some (.int v5)), s1))))
  else (
  if x1 = 2 then (
    gR s1 a0 10 3 (fun q6 =>
    gI s1 q6 9 2 (fun v7 =>
    some (.inl (some (.int v7)), s1))))
  else (
  if x1 = 3 then (
    gR s1 a0 10 3 (fun q8 =>
    cV s1 q8 9 (fX5_blocksInRows q8 s1) (qI (fun v9 s10 =>
    some (.inl (some (.int v9)), s10)))))
  else (
  if x1 = 4 then (
    gR s1 a0 10 3 (fun q11 =>
    cV s1 q11 9 (fX5_piecesInRows q11 s1) (qI (fun v12 s13 =>
    some (.inl (some (.int v12)), s13)))))
  else (
  if x1 = 5 then (
    gR s1 a0 10 3 (fun q14 =>
    gR s1 a0 10 8 (fun q15 =>
    cV s1 q14 9 (fX5_tightRows q14 q15 s1) (qI (fun v16 s17 =>
    some (.inl (some (.int v16)), s17))))))
  else (
  if x1 = 6 then (
    gR s1 a0 10 3 (fun q18 =>
    gI s1 q18 9 3 (fun v19 =>
    some (.inl (some (.int v19)), s1))))
  else (
  if x1 = 7 then (
    gR s1 a0 10 3 (fun q20 =>
    gI s1 q20 9 4 (fun v21 =>
    some (.inl (some (.int v21)), s1))))
  else (
  if x1 = 8 then (
    gR s1 a0 10 3 (fun q22 =>
    gI s1 q22 9 5 (fun v23 =>
    some (.inl (some (.int v23)), s1))))
  else (
  if x1 = 9 then (
    gR s1 a0 10 3 (fun q24 =>
    gI s1 q24 9 6 (fun v25 =>
    some (.inl (some (.int v25)), s1))))
  else (
  if x1 = 10 then (
    gR s1 a0 10 3 (fun q26 =>
    gI s1 q26 9 7 (fun v27 =>
    some (.inl (some (.int v27)), s1))))
  else (
  if x1 = 11 then (
    gR s1 a0 10 3 (fun q28 =>
    cV s1 q28 9 (fX5_piecesLeft q28 s1) (qI (fun v29 s30 =>
    some (.inl (some (.int v29)), s30)))))
  else (
  tE "java/lang/IllegalArgumentException" s1))))))))))))))
set_option maxHeartbeats 4000000 in
theorem oX6_count {Γ : CX} (C : OKC Γ cX6_count RX6 (some (.int))) (T : ∀ z ∈ (cx_c Γ).exceptionTable.toList, False) (hn : cx_nL Γ = 2) (hR : cx_fr Γ = 7 ∧ cx_lo Γ = 146) (hin : (cx_meth Γ).name = yX6_count.name) : ∀ (a0 : Nat) (x1 : Int32) (s0 : AS), OK Γ 0 [(0, .ref a0), (1, .int x1)] [] (fX6_count a0 x1 s0) s0 := by
  intro a0 x1 s0
  unfold fX6_count
  refine ok_aload_n C 0 dX6_count_0 rfl ?_
  refine ok_callV C T [] (F := fX6_needChase a0) (ctX6_needChase (C.2.2.2.2.2.2.2.2.1) a0) vlX6_112 viX6_needChase rfl rfl (by decide) rfl (by rw [hR.1, hR.2]; decide) (Nat.le_of_ble_eq_true rfl) dX6_count_1 (ok_qV fun s1 => ?_)
  refine ok_iload_n C 1 dX6_count_4 rfl ?_
  refine ok_tsw C 0 68 dX6_count_5 ⟨by decide, by decide⟩ rfl (by decide) ?_ (fun hc0 => ?_)
  · refine ok_aload_n C 0 dX6_count_68 rfl ?_
    refine ok_getR C frX6_58_10 dX6_count_69 (fun q2 => ?_)
    refine ok_getI C frX6_115_5 dX6_count_72 (fun v3 => ?_)
    exact ok_ireturn C dX6_count_75
  refine ok_tsw C 1 76 dX6_count_5 ⟨by decide, by decide⟩ rfl (by decide) ?_ (fun hc1 => ?_)
  · refine ok_aload_n C 0 dX6_count_76 rfl ?_
    refine ok_getR C frX6_58_10 dX6_count_77 (fun q4 => ?_)
    refine ok_getI C frX6_92_5 dX6_count_80 (fun v5 => ?_)
    exact ok_ireturn C dX6_count_83
  refine ok_tsw C 2 84 dX6_count_5 ⟨by decide, by decide⟩ rfl (by decide) ?_ (fun hc2 => ?_)
  · refine ok_aload_n C 0 dX6_count_84 rfl ?_
    refine ok_getR C frX6_33_10 dX6_count_85 (fun q6 => ?_)
    refine ok_getI C frX6_118_9 dX6_count_88 (fun v7 => ?_)
    exact ok_ireturn C dX6_count_91
  refine ok_tsw C 3 92 dX6_count_5 ⟨by decide, by decide⟩ rfl (by decide) ?_ (fun hc3 => ?_)
  · refine ok_aload_n C 0 dX6_count_92 rfl ?_
    refine ok_getR C frX6_33_10 dX6_count_93 (fun q8 => ?_)
    refine ok_callV C T [] (F := fX5_blocksInRows q8) (ctX5_blocksInRows (C.2.2.2.2.2.2.2.2.1) q8) vlX6_121 viX5_blocksInRows rfl rfl (by decide) rfl (by rw [hR.1, hR.2]; decide) (Nat.le_of_ble_eq_true rfl) dX6_count_96 (ok_qI fun v9 s10 => ?_)
    exact ok_ireturn C dX6_count_99
  refine ok_tsw C 4 100 dX6_count_5 ⟨by decide, by decide⟩ rfl (by decide) ?_ (fun hc4 => ?_)
  · refine ok_aload_n C 0 dX6_count_100 rfl ?_
    refine ok_getR C frX6_33_10 dX6_count_101 (fun q11 => ?_)
    refine ok_callV C T [] (F := fX5_piecesInRows q11) (ctX5_piecesInRows (C.2.2.2.2.2.2.2.2.1) q11) vlX6_125 viX5_piecesInRows rfl rfl (by decide) rfl (by rw [hR.1, hR.2]; decide) (Nat.le_of_ble_eq_true rfl) dX6_count_104 (ok_qI fun v12 s13 => ?_)
    exact ok_ireturn C dX6_count_107
  refine ok_tsw C 5 108 dX6_count_5 ⟨by decide, by decide⟩ rfl (by decide) ?_ (fun hc5 => ?_)
  · refine ok_aload_n C 0 dX6_count_108 rfl ?_
    refine ok_getR C frX6_33_10 dX6_count_109 (fun q14 => ?_)
    refine ok_aload_n C 0 dX6_count_112 rfl ?_
    refine ok_getR C frX6_58_10 dX6_count_113 (fun q15 => ?_)
    refine ok_callV C T [.ref q15] (F := fX5_tightRows q14 q15) (ctX5_tightRows (C.2.2.2.2.2.2.2.2.1) q14 q15) vlX6_128 viX5_tightRows rfl rfl (by decide) rfl (by rw [hR.1, hR.2]; decide) (Nat.le_of_ble_eq_true rfl) dX6_count_116 (ok_qI fun v16 s17 => ?_)
    exact ok_ireturn C dX6_count_119
  refine ok_tsw C 6 120 dX6_count_5 ⟨by decide, by decide⟩ rfl (by decide) ?_ (fun hc6 => ?_)
  · refine ok_aload_n C 0 dX6_count_120 rfl ?_
    refine ok_getR C frX6_33_10 dX6_count_121 (fun q18 => ?_)
    refine ok_getI C frX6_132_9 dX6_count_124 (fun v19 => ?_)
    exact ok_ireturn C dX6_count_127
  refine ok_tsw C 7 128 dX6_count_5 ⟨by decide, by decide⟩ rfl (by decide) ?_ (fun hc7 => ?_)
  · refine ok_aload_n C 0 dX6_count_128 rfl ?_
    refine ok_getR C frX6_33_10 dX6_count_129 (fun q20 => ?_)
    refine ok_getI C frX6_135_9 dX6_count_132 (fun v21 => ?_)
    exact ok_ireturn C dX6_count_135
  refine ok_tsw C 8 136 dX6_count_5 ⟨by decide, by decide⟩ rfl (by decide) ?_ (fun hc8 => ?_)
  · refine ok_aload_n C 0 dX6_count_136 rfl ?_
    refine ok_getR C frX6_33_10 dX6_count_137 (fun q22 => ?_)
    refine ok_getI C frX6_138_9 dX6_count_140 (fun v23 => ?_)
    exact ok_ireturn C dX6_count_143
  refine ok_tsw C 9 144 dX6_count_5 ⟨by decide, by decide⟩ rfl (by decide) ?_ (fun hc9 => ?_)
  · refine ok_aload_n C 0 dX6_count_144 rfl ?_
    refine ok_getR C frX6_33_10 dX6_count_145 (fun q24 => ?_)
    refine ok_getI C frX6_141_9 dX6_count_148 (fun v25 => ?_)
    exact ok_ireturn C dX6_count_151
  refine ok_tsw C 10 152 dX6_count_5 ⟨by decide, by decide⟩ rfl (by decide) ?_ (fun hc10 => ?_)
  · refine ok_aload_n C 0 dX6_count_152 rfl ?_
    refine ok_getR C frX6_33_10 dX6_count_153 (fun q26 => ?_)
    refine ok_getI C frX6_144_9 dX6_count_156 (fun v27 => ?_)
    exact ok_ireturn C dX6_count_159
  refine ok_tsw C 11 160 dX6_count_5 ⟨by decide, by decide⟩ rfl (by decide) ?_ (fun hc11 => ?_)
  · refine ok_aload_n C 0 dX6_count_160 rfl ?_
    refine ok_getR C frX6_33_10 dX6_count_161 (fun q28 => ?_)
    refine ok_callV C T [] (F := fX5_piecesLeft q28) (ctX5_piecesLeft (C.2.2.2.2.2.2.2.2.1) q28) vlX6_147 viX5_piecesLeft rfl rfl (by decide) rfl (by rw [hR.1, hR.2]; decide) (Nat.le_of_ble_eq_true rfl) dX6_count_164 (ok_qI fun v29 s30 => ?_)
    exact ok_ireturn C dX6_count_167
  refine ok_tdf C 168 dX6_count_5 (by have nhc0 := ax_ne hc0; have nhc1 := ax_ne hc1; have nhc2 := ax_ne hc2; have nhc3 := ax_ne hc3; have nhc4 := ax_ne hc4; have nhc5 := ax_ne hc5; have nhc6 := ax_ne hc6; have nhc7 := ax_ne hc7; have nhc8 := ax_ne hc8; have nhc9 := ax_ne hc9; have nhc10 := ax_ne hc10; have nhc11 := ax_ne hc11; rw [show ((0 : Int32)).toInt = 0 from rfl] at nhc0; rw [show ((1 : Int32)).toInt = 1 from rfl] at nhc1; rw [show ((2 : Int32)).toInt = 2 from rfl] at nhc2; rw [show ((3 : Int32)).toInt = 3 from rfl] at nhc3; rw [show ((4 : Int32)).toInt = 4 from rfl] at nhc4; rw [show ((5 : Int32)).toInt = 5 from rfl] at nhc5; rw [show ((6 : Int32)).toInt = 6 from rfl] at nhc6; rw [show ((7 : Int32)).toInt = 7 from rfl] at nhc7; rw [show ((8 : Int32)).toInt = 8 from rfl] at nhc8; rw [show ((9 : Int32)).toInt = 9 from rfl] at nhc9; rw [show ((10 : Int32)).toInt = 10 from rfl] at nhc10; rw [show ((11 : Int32)).toInt = 11 from rfl] at nhc11; omega) (by decide) ?_
  exact ok_throwS C T tlX6_84_88 (i := 2) rfl dX6_count_168 dX6_count_171 dX6_count_172 dX6_count_174 dX6_count_177 (by rw [hR.1]; decide) (by rw [hR.2]; exact Nat.le_of_ble_eq_true rfl)
theorem ctX6_count {l : Launch} (hl : l.stackTraces = false) {D : va_G} {dA : Nat → ClassId} {B0 : Nat} (a0 : Nat) (x1 : Int32) : Ct l D dA B0 yX6_count (.code yX6_count cX6_count 2 (some (.int)) :: ax_ALL) 7 146 [.ref a0, .int x1] (fX6_count a0 x1) :=
  Ct.of hl (by decide +kernel) (Nat.le_of_ble_eq_true rfl) fun Γ C _ _ _ _ e5 e6 e7 T hin => oX6_count C T e5 ⟨e6, e7⟩ hin a0 x1 _
/-! ChaseLocker.setting(I)I -/
def fX6_setting (a0 : Nat) (x1 : Int32) (s0 : AS) : Option AR :=
  cV s0 a0 10 (fX6_needChase a0 s0) (qV (fun s1 =>
  if x1 = 0 then (
    gR s1 a0 10 8 (fun q2 =>
    gI s1 q2 5 0 (fun v3 =>
    some (.inl (some (.int v3)), s1))))
  else (
  if x1 = 1 then (
    gR s1 a0 10 8 (fun q4 =>
    gI s1 q4 5 2 (fun v5 =>
    some (.inl (some (.int v5)), s1))))
  else (
  if x1 = 2 then (
    gR s1 a0 10 8 (fun q6 =>
    gI s1 q6 5 3 (fun v7 =>
    some (.inl (some (.int v7)), s1))))
  else (
  if x1 = 3 then (
    gR s1 a0 10 8 (fun q8 =>
    gI s1 q8 5 4 (fun v9 =>
    some (.inl (some (.int v9)), s1))))
  else (
  if x1 = 4 then (
    gR s1 a0 10 8 (fun q10 =>
    gI s1 q10 5 5 (fun v11 =>
    some (.inl (some (.int v11)), s1))))
  else (
  if x1 = 5 then (
    gR s1 a0 10 8 (fun q12 =>
    gI s1 q12 5 6 (fun v13 =>
    some (.inl (some (.int v13)), s1))))
  else (
  tE "java/lang/IllegalArgumentException" s1))))))))
set_option maxHeartbeats 4000000 in
theorem oX6_setting {Γ : CX} (C : OKC Γ cX6_setting RX6 (some (.int))) (T : ∀ z ∈ (cx_c Γ).exceptionTable.toList, False) (hn : cx_nL Γ = 2) (hR : cx_fr Γ = 7 ∧ cx_lo Γ = 110) (hin : (cx_meth Γ).name = yX6_setting.name) : ∀ (a0 : Nat) (x1 : Int32) (s0 : AS), OK Γ 0 [(0, .ref a0), (1, .int x1)] [] (fX6_setting a0 x1 s0) s0 := by
  intro a0 x1 s0
  unfold fX6_setting
  refine ok_aload_n C 0 dX6_setting_0 rfl ?_
  refine ok_callV C T [] (F := fX6_needChase a0) (ctX6_needChase (C.2.2.2.2.2.2.2.2.1) a0) vlX6_112 viX6_needChase rfl rfl (by decide) rfl (by rw [hR.1, hR.2]; decide) (Nat.le_of_ble_eq_true rfl) dX6_setting_1 (ok_qV fun s1 => ?_)
  refine ok_iload_n C 1 dX6_setting_4 rfl ?_
  refine ok_tsw C 0 44 dX6_setting_5 ⟨by decide, by decide⟩ rfl (by decide) ?_ (fun hc0 => ?_)
  · refine ok_aload_n C 0 dX6_setting_44 rfl ?_
    refine ok_getR C frX6_58_10 dX6_setting_45 (fun q2 => ?_)
    refine ok_getI C frX6_152_5 dX6_setting_48 (fun v3 => ?_)
    exact ok_ireturn C dX6_setting_51
  refine ok_tsw C 1 52 dX6_setting_5 ⟨by decide, by decide⟩ rfl (by decide) ?_ (fun hc1 => ?_)
  · refine ok_aload_n C 0 dX6_setting_52 rfl ?_
    refine ok_getR C frX6_58_10 dX6_setting_53 (fun q4 => ?_)
    refine ok_getI C frX6_155_5 dX6_setting_56 (fun v5 => ?_)
    exact ok_ireturn C dX6_setting_59
  refine ok_tsw C 2 60 dX6_setting_5 ⟨by decide, by decide⟩ rfl (by decide) ?_ (fun hc2 => ?_)
  · refine ok_aload_n C 0 dX6_setting_60 rfl ?_
    refine ok_getR C frX6_58_10 dX6_setting_61 (fun q6 => ?_)
    refine ok_getI C frX6_158_5 dX6_setting_64 (fun v7 => ?_)
    exact ok_ireturn C dX6_setting_67
  refine ok_tsw C 3 68 dX6_setting_5 ⟨by decide, by decide⟩ rfl (by decide) ?_ (fun hc3 => ?_)
  · refine ok_aload_n C 0 dX6_setting_68 rfl ?_
    refine ok_getR C frX6_58_10 dX6_setting_69 (fun q8 => ?_)
    refine ok_getI C frX6_161_5 dX6_setting_72 (fun v9 => ?_)
    exact ok_ireturn C dX6_setting_75
  refine ok_tsw C 4 76 dX6_setting_5 ⟨by decide, by decide⟩ rfl (by decide) ?_ (fun hc4 => ?_)
  · refine ok_aload_n C 0 dX6_setting_76 rfl ?_
    refine ok_getR C frX6_58_10 dX6_setting_77 (fun q10 => ?_)
    refine ok_getI C frX6_164_5 dX6_setting_80 (fun v11 => ?_)
    exact ok_ireturn C dX6_setting_83
  refine ok_tsw C 5 84 dX6_setting_5 ⟨by decide, by decide⟩ rfl (by decide) ?_ (fun hc5 => ?_)
  · refine ok_aload_n C 0 dX6_setting_84 rfl ?_
    refine ok_getR C frX6_58_10 dX6_setting_85 (fun q12 => ?_)
    refine ok_getI C frX6_167_5 dX6_setting_88 (fun v13 => ?_)
    exact ok_ireturn C dX6_setting_91
  refine ok_tdf C 92 dX6_setting_5 (by have nhc0 := ax_ne hc0; have nhc1 := ax_ne hc1; have nhc2 := ax_ne hc2; have nhc3 := ax_ne hc3; have nhc4 := ax_ne hc4; have nhc5 := ax_ne hc5; rw [show ((0 : Int32)).toInt = 0 from rfl] at nhc0; rw [show ((1 : Int32)).toInt = 1 from rfl] at nhc1; rw [show ((2 : Int32)).toInt = 2 from rfl] at nhc2; rw [show ((3 : Int32)).toInt = 3 from rfl] at nhc3; rw [show ((4 : Int32)).toInt = 4 from rfl] at nhc4; rw [show ((5 : Int32)).toInt = 5 from rfl] at nhc5; omega) (by decide) ?_
  exact ok_throwS C T tlX6_84_88 (i := 3) rfl dX6_setting_92 dX6_setting_95 dX6_setting_96 dX6_setting_98 dX6_setting_101 (by rw [hR.1]; decide) (by rw [hR.2]; exact Nat.le_of_ble_eq_true rfl)
theorem ctX6_setting {l : Launch} (hl : l.stackTraces = false) {D : va_G} {dA : Nat → ClassId} {B0 : Nat} (a0 : Nat) (x1 : Int32) : Ct l D dA B0 yX6_setting (.code yX6_setting cX6_setting 2 (some (.int)) :: ax_ALL) 7 110 [.ref a0, .int x1] (fX6_setting a0 x1) :=
  Ct.of hl (by decide +kernel) (Nat.le_of_ble_eq_true rfl) fun Γ C _ _ _ _ e5 e6 e7 T hin => oX6_setting C T e5 ⟨e6, e7⟩ hin a0 x1 _
/-! ChaseLocker.needRow(I)LChaseLocker$Row; -/
def fX6_needRow (a0 : Nat) (x1 : Int32) (s0 : AS) : Option AR :=
  cV s0 a0 10 (fX6_needChase a0 s0) (qV (fun s1 =>
  if x1 < 0 then (
    tE "java/lang/IndexOutOfBoundsException" s1)
  else (
    gR s1 a0 10 8 (fun q2 =>
    gI s1 q2 5 1 (fun v3 =>
    if v3 ≤ x1 then (
      tE "java/lang/IndexOutOfBoundsException" s1)
    else (
      if x1 < (8 : Int32) then (
        gR s1 a0 10 3 (fun q4 =>
        gR s1 q4 9 0 (fun q5 =>
        aR s1 q5 111 x1 (fun q6 =>
        some (.inl (some (.ref q6)), s1)))))
      else (
        tE "java/lang/IndexOutOfBoundsException" s1)))))))
set_option maxHeartbeats 4000000 in
theorem oX6_needRow {Γ : CX} (C : OKC Γ cX6_needRow RX6 (some (.object "ChaseLocker$Row"))) (T : ∀ z ∈ (cx_c Γ).exceptionTable.toList, False) (hn : cx_nL Γ = 2) (hR : cx_fr Γ = 7 ∧ cx_lo Γ = 110) (hin : (cx_meth Γ).name = yX6_needRow.name) : ∀ (a0 : Nat) (x1 : Int32) (s0 : AS), OK Γ 0 [(0, .ref a0), (1, .int x1)] [] (fX6_needRow a0 x1 s0) s0 := by
  intro a0 x1 s0
  unfold fX6_needRow
  refine ok_aload_n C 0 dX6_needRow_0 rfl ?_
  refine ok_callV C T [] (F := fX6_needChase a0) (ctX6_needChase (C.2.2.2.2.2.2.2.2.1) a0) vlX6_112 viX6_needChase rfl rfl (by decide) rfl (by rw [hR.1, hR.2]; decide) (Nat.le_of_ble_eq_true rfl) dX6_needRow_1 (ok_qV fun s1 => ?_)
  refine ok_iload_n C 1 dX6_needRow_4 rfl ?_
  refine ok_if_lt C 25 dX6_needRow_5 (by decide) ?_ ?_
  · exact ok_throwSW C T tlX6_73_77 (i := 21) rfl dX6_needRow_25 dX6_needRow_28 dX6_needRow_29 dX6_needRow_32 dX6_needRow_35 (by rw [hR.1]; decide) (by rw [hR.2]; exact Nat.le_of_ble_eq_true rfl)
  · refine ok_iload_n C 1 dX6_needRow_8 rfl ?_
    refine ok_aload_n C 0 dX6_needRow_9 rfl ?_
    refine ok_getR C frX6_58_10 dX6_needRow_10 (fun q2 => ?_)
    refine ok_getI C frX6_115_5 dX6_needRow_13 (fun v3 => ?_)
    refine ok_icmp_ge C 25 dX6_needRow_16 (by decide) ?_ ?_
    · exact ok_throwSW C T tlX6_73_77 (i := 21) rfl dX6_needRow_25 dX6_needRow_28 dX6_needRow_29 dX6_needRow_32 dX6_needRow_35 (by rw [hR.1]; decide) (by rw [hR.2]; exact Nat.le_of_ble_eq_true rfl)
    · refine ok_iload_n C 1 dX6_needRow_19 rfl ?_
      refine ok_bipush C (v := 8) dX6_needRow_20 (by decide) ?_
      refine ok_icmp_lt C 36 dX6_needRow_22 (by decide) ?_ ?_
      · refine ok_aload_n C 0 dX6_needRow_36 rfl ?_
        refine ok_getR C frX6_33_10 dX6_needRow_37 (fun q4 => ?_)
        refine ok_getR C frX6_246_9 dX6_needRow_40 (fun q5 => ?_)
        refine ok_iload_n C 1 dX6_needRow_43 rfl ?_
        refine ok_aald C 111 7 (fun _ => rfl) (by decide) dX6_needRow_44 (fun q6 => ?_)
        exact ok_areturn C (by first | exact Or.inl ⟨_, rfl⟩ | exact Or.inr ⟨_, rfl⟩) dX6_needRow_45
      · exact ok_throwSW C T tlX6_73_77 (i := 21) rfl dX6_needRow_25 dX6_needRow_28 dX6_needRow_29 dX6_needRow_32 dX6_needRow_35 (by rw [hR.1]; decide) (by rw [hR.2]; exact Nat.le_of_ble_eq_true rfl)
theorem ctX6_needRow {l : Launch} (hl : l.stackTraces = false) {D : va_G} {dA : Nat → ClassId} {B0 : Nat} (a0 : Nat) (x1 : Int32) : Ct l D dA B0 yX6_needRow (.code yX6_needRow cX6_needRow 2 (some (.object "ChaseLocker$Row")) :: ax_ALL) 7 110 [.ref a0, .int x1] (fX6_needRow a0 x1) :=
  Ct.of hl (by decide +kernel) (Nat.le_of_ble_eq_true rfl) fun Γ C _ _ _ _ e5 e6 e7 T hin => oX6_needRow C T e5 ⟨e6, e7⟩ hin a0 x1 _
/-! ChaseLocker.row(II)I -/
def fX6_row (a0 : Nat) (x1 : Int32) (x2 : Int32) (s0 : AS) : Option AR :=
  cV s0 a0 10 (fX6_needRow a0 x1 s0) (qR (fun q1 s2 =>
  if x2 = 0 then (
    gI s2 q1 7 1 (fun v3 =>
    some (.inl (some (.int v3)), s2)))
  else (
  if x2 = 1 then (
    gI s2 q1 7 4 (fun v4 =>
    some (.inl (some (.int v4)), s2)))
  else (
  if x2 = 2 then (
    gR s2 a0 10 8 (fun q5 =>
    gI s2 q5 5 0 (fun v6 =>
    gR s2 a0 10 8 (fun q7 =>
    cV s2 q1 7 (fX3_gapIn q1 q7 s2) (qI (fun v8 s9 =>
    some (.inl (some (.int (v6 - v8))), s9)))))))
  else (
  if x2 = 3 then (
    gR s2 a0 10 8 (fun q10 =>
    cV s2 q1 7 (fX3_gapIn q1 q10 s2) (qI (fun v11 s12 =>
    some (.inl (some (.int v11)), s12)))))
  else (
  if x2 = 4 then (
    gI s2 q1 7 7 (fun v13 =>
    some (.inl (some (.int v13)), s2)))
  else (
  if x2 = 5 then (
    gI s2 q1 7 9 (fun v14 =>
    some (.inl (some (.int v14)), s2)))
  else (
  if x2 = 6 then (
    gR s2 a0 10 8 (fun q15 =>
    cV s2 q1 7 (fX3_woodIn q1 q15 s2) (qI (fun v16 s17 =>
    some (.inl (some (.int v16)), s17)))))
  else (
  if x2 = 7 then (
    gI s2 q1 7 2 (fun v18 =>
    some (.inl (some (.int v18)), s2)))
  else (
  if x2 = 8 then (
    cV s2 q1 7 (fX3_hasQuoin q1 s2) (qI (fun v19 s20 =>
    if v19 = 0 then (
      some (.inl (some (.int ((-1)))), s20))
    else (
      gI s20 q1 7 8 (fun v21 =>
      some (.inl (some (.int v21)), s20))))))
  else (
  tE "java/lang/IllegalArgumentException" s2)))))))))))
set_option maxHeartbeats 4000000 in
theorem oX6_row {Γ : CX} (C : OKC Γ cX6_row RX6 (some (.int))) (T : ∀ z ∈ (cx_c Γ).exceptionTable.toList, False) (hn : cx_nL Γ = 4) (hR : cx_fr Γ = 8 ∧ cx_lo Γ = 131) (hin : (cx_meth Γ).name = yX6_row.name) : ∀ (a0 : Nat) (x1 : Int32) (x2 : Int32) (s0 : AS), OK Γ 0 [(0, .ref a0), (1, .int x1), (2, .int x2)] [] (fX6_row a0 x1 x2 s0) s0 := by
  intro a0 x1 x2 s0
  unfold fX6_row
  refine ok_aload_n C 0 dX6_row_0 rfl ?_
  refine ok_iload_n C 1 dX6_row_1 rfl ?_
  refine ok_callV C T [.int x1] (F := fX6_needRow a0 x1) (ctX6_needRow (C.2.2.2.2.2.2.2.2.1) a0 x1) vlX6_172 viX6_needRow rfl rfl (by decide) rfl (by rw [hR.1, hR.2]; decide) (Nat.le_of_ble_eq_true rfl) dX6_row_2 (ok_qR fun q1 s2 => ?_)
  refine ok_astore_n C (i := 3) [(3, .ref q1), (0, .ref a0), (1, .int x1), (2, .int x2)] dX6_row_5 rfl (by rw [hn]; decide) rfl ?_
  refine ok_iload_n C 3 dX6_row_6 rfl ?_
  refine ok_tsw C 0 56 dX6_row_7 ⟨by decide, by decide⟩ rfl (by decide) ?_ (fun hc0 => ?_)
  · refine ok_aload_n C 0 dX6_row_56 rfl ?_
    refine ok_getI C frX6_176_7 dX6_row_57 (fun v3 => ?_)
    exact ok_ireturn C dX6_row_60
  refine ok_tsw C 1 61 dX6_row_7 ⟨by decide, by decide⟩ rfl (by decide) ?_ (fun hc1 => ?_)
  · refine ok_aload_n C 0 dX6_row_61 rfl ?_
    refine ok_getI C frX6_181_7 dX6_row_62 (fun v4 => ?_)
    exact ok_ireturn C dX6_row_65
  refine ok_tsw C 2 66 dX6_row_7 ⟨by decide, by decide⟩ rfl (by decide) ?_ (fun hc2 => ?_)
  · refine ok_aload_n C 1 dX6_row_66 rfl ?_
    refine ok_getR C frX6_58_10 dX6_row_67 (fun q5 => ?_)
    refine ok_getI C frX6_152_5 dX6_row_70 (fun v6 => ?_)
    refine ok_aload_n C 0 dX6_row_73 rfl ?_
    refine ok_aload_n C 1 dX6_row_74 rfl ?_
    refine ok_getR C frX6_58_10 dX6_row_75 (fun q7 => ?_)
    refine ok_callV C T [.ref q7] (F := fX3_gapIn q1 q7) (ctX3_gapIn (C.2.2.2.2.2.2.2.2.1) q1 q7) vlX6_184 viX3_gapIn rfl rfl (by decide) rfl (by rw [hR.1, hR.2]; decide) (Nat.le_of_ble_eq_true rfl) dX6_row_78 (ok_qI fun v8 s9 => ?_)
    refine ok_isub C dX6_row_81 ?_
    exact ok_ireturn C dX6_row_82
  refine ok_tsw C 3 83 dX6_row_7 ⟨by decide, by decide⟩ rfl (by decide) ?_ (fun hc3 => ?_)
  · refine ok_aload_n C 0 dX6_row_83 rfl ?_
    refine ok_aload_n C 1 dX6_row_84 rfl ?_
    refine ok_getR C frX6_58_10 dX6_row_85 (fun q10 => ?_)
    refine ok_callV C T [.ref q10] (F := fX3_gapIn q1 q10) (ctX3_gapIn (C.2.2.2.2.2.2.2.2.1) q1 q10) vlX6_184 viX3_gapIn rfl rfl (by decide) rfl (by rw [hR.1, hR.2]; decide) (Nat.le_of_ble_eq_true rfl) dX6_row_88 (ok_qI fun v11 s12 => ?_)
    exact ok_ireturn C dX6_row_91
  refine ok_tsw C 4 92 dX6_row_7 ⟨by decide, by decide⟩ rfl (by decide) ?_ (fun hc4 => ?_)
  · refine ok_aload_n C 0 dX6_row_92 rfl ?_
    refine ok_getI C frX6_187_7 dX6_row_93 (fun v13 => ?_)
    exact ok_ireturn C dX6_row_96
  refine ok_tsw C 5 97 dX6_row_7 ⟨by decide, by decide⟩ rfl (by decide) ?_ (fun hc5 => ?_)
  · refine ok_aload_n C 0 dX6_row_97 rfl ?_
    refine ok_getI C frX6_190_7 dX6_row_98 (fun v14 => ?_)
    exact ok_ireturn C dX6_row_101
  refine ok_tsw C 6 102 dX6_row_7 ⟨by decide, by decide⟩ rfl (by decide) ?_ (fun hc6 => ?_)
  · refine ok_aload_n C 0 dX6_row_102 rfl ?_
    refine ok_aload_n C 1 dX6_row_103 rfl ?_
    refine ok_getR C frX6_58_10 dX6_row_104 (fun q15 => ?_)
    refine ok_callV C T [.ref q15] (F := fX3_woodIn q1 q15) (ctX3_woodIn (C.2.2.2.2.2.2.2.2.1) q1 q15) vlX6_193 viX3_woodIn rfl rfl (by decide) rfl (by rw [hR.1, hR.2]; decide) (Nat.le_of_ble_eq_true rfl) dX6_row_107 (ok_qI fun v16 s17 => ?_)
    exact ok_ireturn C dX6_row_110
  refine ok_tsw C 7 111 dX6_row_7 ⟨by decide, by decide⟩ rfl (by decide) ?_ (fun hc7 => ?_)
  · refine ok_aload_n C 0 dX6_row_111 rfl ?_
    refine ok_getI C frX6_196_7 dX6_row_112 (fun v18 => ?_)
    exact ok_ireturn C dX6_row_115
  refine ok_tsw C 8 116 dX6_row_7 ⟨by decide, by decide⟩ rfl (by decide) ?_ (fun hc8 => ?_)
  · refine ok_aload_n C 0 dX6_row_116 rfl ?_
    refine ok_callV C T [] (F := fX3_hasQuoin q1) (ctX3_hasQuoin (C.2.2.2.2.2.2.2.2.1) q1) vlX6_199 viX3_hasQuoin rfl rfl (by decide) rfl (by rw [hR.1, hR.2]; decide) (Nat.le_of_ble_eq_true rfl) dX6_row_117 (ok_qI fun v19 s20 => ?_)
    refine ok_if_eq C 130 dX6_row_120 (by decide) ?_ ?_
    · refine ok_iconst C (v := (-1)) dX6_row_130 (by decide) ?_
      exact ok_ireturn C dX6_row_131
    · refine ok_aload_n C 0 dX6_row_123 rfl ?_
      refine ok_getI C frX6_203_7 dX6_row_124 (fun v21 => ?_)
      refine ok_goto C 131 dX6_row_127 (by decide) ?_
      exact ok_ireturn C dX6_row_131
  refine ok_tdf C 132 dX6_row_7 (by have nhc0 := ax_ne hc0; have nhc1 := ax_ne hc1; have nhc2 := ax_ne hc2; have nhc3 := ax_ne hc3; have nhc4 := ax_ne hc4; have nhc5 := ax_ne hc5; have nhc6 := ax_ne hc6; have nhc7 := ax_ne hc7; have nhc8 := ax_ne hc8; rw [show ((0 : Int32)).toInt = 0 from rfl] at nhc0; rw [show ((1 : Int32)).toInt = 1 from rfl] at nhc1; rw [show ((2 : Int32)).toInt = 2 from rfl] at nhc2; rw [show ((3 : Int32)).toInt = 3 from rfl] at nhc3; rw [show ((4 : Int32)).toInt = 4 from rfl] at nhc4; rw [show ((5 : Int32)).toInt = 5 from rfl] at nhc5; rw [show ((6 : Int32)).toInt = 6 from rfl] at nhc6; rw [show ((7 : Int32)).toInt = 7 from rfl] at nhc7; rw [show ((8 : Int32)).toInt = 8 from rfl] at nhc8; omega) (by decide) ?_
  exact ok_throwS C T tlX6_84_88 (i := 4) rfl dX6_row_132 dX6_row_135 dX6_row_136 dX6_row_138 dX6_row_141 (by rw [hR.1]; decide) (by rw [hR.2]; exact Nat.le_of_ble_eq_true rfl)
theorem ctX6_row {l : Launch} (hl : l.stackTraces = false) {D : va_G} {dA : Nat → ClassId} {B0 : Nat} (a0 : Nat) (x1 : Int32) (x2 : Int32) : Ct l D dA B0 yX6_row (.code yX6_row cX6_row 4 (some (.int)) :: ax_ALL) 8 131 [.ref a0, .int x1, .int x2] (fX6_row a0 x1 x2) :=
  Ct.of hl (by decide +kernel) (Nat.le_of_ble_eq_true rfl) fun Γ C _ _ _ _ e5 e6 e7 T hin => oX6_row C T e5 ⟨e6, e7⟩ hin a0 x1 x2 _
/-! ChaseLocker.needIndex(II)V -/
def fX6_needIndex (x0 : Int32) (x1 : Int32) (s0 : AS) : Option AR :=
  if x0 < 0 then (
    tE "java/lang/IndexOutOfBoundsException" s0)
  else (
    if x0 < x1 then (
      some (.inl none, s0))
    else (
      tE "java/lang/IndexOutOfBoundsException" s0))
set_option maxHeartbeats 4000000 in
theorem oX6_needIndex {Γ : CX} (C : OKC Γ cX6_needIndex RX6 none) (T : ∀ z ∈ (cx_c Γ).exceptionTable.toList, False) (hn : cx_nL Γ = 2) (hR : cx_fr Γ = 6 ∧ cx_lo Γ = 90) (hin : (cx_meth Γ).name = yX6_needIndex.name) : ∀ (x0 : Int32) (x1 : Int32) (s0 : AS), OK Γ 0 [(0, .int x0), (1, .int x1)] [] (fX6_needIndex x0 x1 s0) s0 := by
  intro x0 x1 s0
  unfold fX6_needIndex
  refine ok_iload_n C 0 dX6_needIndex_0 rfl ?_
  refine ok_if_lt C 9 dX6_needIndex_1 (by decide) ?_ ?_
  · exact ok_throwSW C T tlX6_73_77 (i := 23) rfl dX6_needIndex_9 dX6_needIndex_12 dX6_needIndex_13 dX6_needIndex_16 dX6_needIndex_19 (by rw [hR.1]; decide) (by rw [hR.2]; exact Nat.le_of_ble_eq_true rfl)
  · refine ok_iload_n C 0 dX6_needIndex_4 rfl ?_
    refine ok_iload_n C 1 dX6_needIndex_5 rfl ?_
    refine ok_icmp_lt C 20 dX6_needIndex_6 (by decide) ?_ ?_
    · exact ok_vreturn C dX6_needIndex_20
    · exact ok_throwSW C T tlX6_73_77 (i := 23) rfl dX6_needIndex_9 dX6_needIndex_12 dX6_needIndex_13 dX6_needIndex_16 dX6_needIndex_19 (by rw [hR.1]; decide) (by rw [hR.2]; exact Nat.le_of_ble_eq_true rfl)
theorem ctX6_needIndex {l : Launch} (hl : l.stackTraces = false) {D : va_G} {dA : Nat → ClassId} {B0 : Nat} (x0 : Int32) (x1 : Int32) : Ct l D dA B0 yX6_needIndex (.code yX6_needIndex cX6_needIndex 2 (none) :: ax_ALL) 6 90 [.int x0, .int x1] (fX6_needIndex x0 x1) :=
  Ct.of hl (by decide +kernel) (Nat.le_of_ble_eq_true rfl) fun Γ C _ _ _ _ e5 e6 e7 T hin => oX6_needIndex C T e5 ⟨e6, e7⟩ hin x0 x1 _
/-! ChaseLocker.block(II)I -/
def fX6_block (a0 : Nat) (x1 : Int32) (x2 : Int32) (s0 : AS) : Option AR :=
  cV s0 a0 10 (fX6_needRow a0 x1 s0) (qR (fun q1 s2 =>
  gI s2 q1 7 1 (fun v3 =>
  cS s2 (fX6_needIndex x2 v3 s2) (qV (fun s4 =>
  cV s4 q1 7 (fX3_blockAt q1 x2 s4) (qI (fun v5 s6 =>
  some (.inl (some (.int v5)), s6))))))))
set_option maxHeartbeats 4000000 in
theorem oX6_block {Γ : CX} (C : OKC Γ cX6_block RX6 (some (.int))) (T : ∀ z ∈ (cx_c Γ).exceptionTable.toList, False) (hn : cx_nL Γ = 4) (hR : cx_fr Γ = 8 ∧ cx_lo Γ = 131) (hin : (cx_meth Γ).name = yX6_block.name) : ∀ (a0 : Nat) (x1 : Int32) (x2 : Int32) (s0 : AS), OK Γ 0 [(0, .ref a0), (1, .int x1), (2, .int x2)] [] (fX6_block a0 x1 x2 s0) s0 := by
  intro a0 x1 x2 s0
  unfold fX6_block
  refine ok_aload_n C 0 dX6_block_0 rfl ?_
  refine ok_iload_n C 1 dX6_block_1 rfl ?_
  refine ok_callV C T [.int x1] (F := fX6_needRow a0 x1) (ctX6_needRow (C.2.2.2.2.2.2.2.2.1) a0 x1) vlX6_172 viX6_needRow rfl rfl (by decide) rfl (by rw [hR.1, hR.2]; decide) (Nat.le_of_ble_eq_true rfl) dX6_block_2 (ok_qR fun q1 s2 => ?_)
  refine ok_astore_n C (i := 3) [(3, .ref q1), (0, .ref a0), (1, .int x1), (2, .int x2)] dX6_block_5 rfl (by rw [hn]; decide) rfl ?_
  refine ok_iload_n C 3 dX6_block_6 rfl ?_
  refine ok_aload_n C 0 dX6_block_7 rfl ?_
  refine ok_getI C frX6_176_7 dX6_block_8 (fun v3 => ?_)
  refine ok_callS C T [.int x2, .int v3] (F := fX6_needIndex x2 v3) (ctX6_needIndex (C.2.2.2.2.2.2.2.2.1) x2 v3) vlX6_208 kw_568 rfl (by rw [hR.1, hR.2]; decide) (Nat.le_of_ble_eq_true rfl) dX6_block_11 (ok_qV fun s4 => ?_)
  refine ok_aload_n C 0 dX6_block_14 rfl ?_
  refine ok_iload_n C 3 dX6_block_15 rfl ?_
  refine ok_callV C T [.int x2] (F := fX3_blockAt q1 x2) (ctX3_blockAt (C.2.2.2.2.2.2.2.2.1) q1 x2) vlX6_212 viX3_blockAt rfl rfl (by decide) rfl (by rw [hR.1, hR.2]; decide) (Nat.le_of_ble_eq_true rfl) dX6_block_16 (ok_qI fun v5 s6 => ?_)
  exact ok_ireturn C dX6_block_19
theorem ctX6_block {l : Launch} (hl : l.stackTraces = false) {D : va_G} {dA : Nat → ClassId} {B0 : Nat} (a0 : Nat) (x1 : Int32) (x2 : Int32) : Ct l D dA B0 yX6_block (.code yX6_block cX6_block 4 (some (.int)) :: ax_ALL) 8 131 [.ref a0, .int x1, .int x2] (fX6_block a0 x1 x2) :=
  Ct.of hl (by decide +kernel) (Nat.le_of_ble_eq_true rfl) fun Γ C _ _ _ _ e5 e6 e7 T hin => oX6_block C T e5 ⟨e6, e7⟩ hin a0 x1 x2 _
/-! ChaseLocker.piece(II)I -/
def fX6_piece (a0 : Nat) (x1 : Int32) (x2 : Int32) (s0 : AS) : Option AR :=
  cV s0 a0 10 (fX6_needRow a0 x1 s0) (qR (fun q1 s2 =>
  gI s2 q1 7 4 (fun v3 =>
  cS s2 (fX6_needIndex x2 v3 s2) (qV (fun s4 =>
  cV s4 q1 7 (fX3_pieceAt q1 x2 s4) (qI (fun v5 s6 =>
  some (.inl (some (.int v5)), s6))))))))
set_option maxHeartbeats 4000000 in
theorem oX6_piece {Γ : CX} (C : OKC Γ cX6_piece RX6 (some (.int))) (T : ∀ z ∈ (cx_c Γ).exceptionTable.toList, False) (hn : cx_nL Γ = 4) (hR : cx_fr Γ = 8 ∧ cx_lo Γ = 131) (hin : (cx_meth Γ).name = yX6_piece.name) : ∀ (a0 : Nat) (x1 : Int32) (x2 : Int32) (s0 : AS), OK Γ 0 [(0, .ref a0), (1, .int x1), (2, .int x2)] [] (fX6_piece a0 x1 x2 s0) s0 := by
  intro a0 x1 x2 s0
  unfold fX6_piece
  refine ok_aload_n C 0 dX6_piece_0 rfl ?_
  refine ok_iload_n C 1 dX6_piece_1 rfl ?_
  refine ok_callV C T [.int x1] (F := fX6_needRow a0 x1) (ctX6_needRow (C.2.2.2.2.2.2.2.2.1) a0 x1) vlX6_172 viX6_needRow rfl rfl (by decide) rfl (by rw [hR.1, hR.2]; decide) (Nat.le_of_ble_eq_true rfl) dX6_piece_2 (ok_qR fun q1 s2 => ?_)
  refine ok_astore_n C (i := 3) [(3, .ref q1), (0, .ref a0), (1, .int x1), (2, .int x2)] dX6_piece_5 rfl (by rw [hn]; decide) rfl ?_
  refine ok_iload_n C 3 dX6_piece_6 rfl ?_
  refine ok_aload_n C 0 dX6_piece_7 rfl ?_
  refine ok_getI C frX6_181_7 dX6_piece_8 (fun v3 => ?_)
  refine ok_callS C T [.int x2, .int v3] (F := fX6_needIndex x2 v3) (ctX6_needIndex (C.2.2.2.2.2.2.2.2.1) x2 v3) vlX6_208 kw_568 rfl (by rw [hR.1, hR.2]; decide) (Nat.le_of_ble_eq_true rfl) dX6_piece_11 (ok_qV fun s4 => ?_)
  refine ok_aload_n C 0 dX6_piece_14 rfl ?_
  refine ok_iload_n C 3 dX6_piece_15 rfl ?_
  refine ok_callV C T [.int x2] (F := fX3_pieceAt q1 x2) (ctX3_pieceAt (C.2.2.2.2.2.2.2.2.1) q1 x2) vlX6_216 viX3_pieceAt rfl rfl (by decide) rfl (by rw [hR.1, hR.2]; decide) (Nat.le_of_ble_eq_true rfl) dX6_piece_16 (ok_qI fun v5 s6 => ?_)
  exact ok_ireturn C dX6_piece_19
theorem ctX6_piece {l : Launch} (hl : l.stackTraces = false) {D : va_G} {dA : Nat → ClassId} {B0 : Nat} (a0 : Nat) (x1 : Int32) (x2 : Int32) : Ct l D dA B0 yX6_piece (.code yX6_piece cX6_piece 4 (some (.int)) :: ax_ALL) 8 131 [.ref a0, .int x1, .int x2] (fX6_piece a0 x1 x2) :=
  Ct.of hl (by decide +kernel) (Nat.le_of_ble_eq_true rfl) fun Γ C _ _ _ _ e5 e6 e7 T hin => oX6_piece C T e5 ⟨e6, e7⟩ hin a0 x1 x2 _
/-! ChaseLocker.needKind(I)V -/
def fX6_needKind (a0 : Nat) (x1 : Int32) (s0 : AS) : Option AR :=
  if x1 < 0 then (
    tE "java/lang/IndexOutOfBoundsException" s0)
  else (
    gR s0 a0 10 8 (fun q1 =>
    gI s0 q1 5 7 (fun v2 =>
    if v2 ≤ x1 then (
      tE "java/lang/IndexOutOfBoundsException" s0)
    else (
      if x1 < (10 : Int32) then (
        some (.inl none, s0))
      else (
        tE "java/lang/IndexOutOfBoundsException" s0)))))
set_option maxHeartbeats 4000000 in
theorem oX6_needKind {Γ : CX} (C : OKC Γ cX6_needKind RX6 none) (T : ∀ z ∈ (cx_c Γ).exceptionTable.toList, False) (hn : cx_nL Γ = 2) (hR : cx_fr Γ = 6 ∧ cx_lo Γ = 90) (hin : (cx_meth Γ).name = yX6_needKind.name) : ∀ (a0 : Nat) (x1 : Int32) (s0 : AS), OK Γ 0 [(0, .ref a0), (1, .int x1)] [] (fX6_needKind a0 x1 s0) s0 := by
  intro a0 x1 s0
  unfold fX6_needKind
  refine ok_iload_n C 1 dX6_needKind_0 rfl ?_
  refine ok_if_lt C 21 dX6_needKind_1 (by decide) ?_ ?_
  · exact ok_throwSW C T tlX6_73_77 (i := 22) rfl dX6_needKind_21 dX6_needKind_24 dX6_needKind_25 dX6_needKind_28 dX6_needKind_31 (by rw [hR.1]; decide) (by rw [hR.2]; exact Nat.le_of_ble_eq_true rfl)
  · refine ok_iload_n C 1 dX6_needKind_4 rfl ?_
    refine ok_aload_n C 0 dX6_needKind_5 rfl ?_
    refine ok_getR C frX6_58_10 dX6_needKind_6 (fun q1 => ?_)
    refine ok_getI C frX6_92_5 dX6_needKind_9 (fun v2 => ?_)
    refine ok_icmp_ge C 21 dX6_needKind_12 (by decide) ?_ ?_
    · exact ok_throwSW C T tlX6_73_77 (i := 22) rfl dX6_needKind_21 dX6_needKind_24 dX6_needKind_25 dX6_needKind_28 dX6_needKind_31 (by rw [hR.1]; decide) (by rw [hR.2]; exact Nat.le_of_ble_eq_true rfl)
    · refine ok_iload_n C 1 dX6_needKind_15 rfl ?_
      refine ok_bipush C (v := 10) dX6_needKind_16 (by decide) ?_
      refine ok_icmp_lt C 32 dX6_needKind_18 (by decide) ?_ ?_
      · exact ok_vreturn C dX6_needKind_32
      · exact ok_throwSW C T tlX6_73_77 (i := 22) rfl dX6_needKind_21 dX6_needKind_24 dX6_needKind_25 dX6_needKind_28 dX6_needKind_31 (by rw [hR.1]; decide) (by rw [hR.2]; exact Nat.le_of_ble_eq_true rfl)
theorem ctX6_needKind {l : Launch} (hl : l.stackTraces = false) {D : va_G} {dA : Nat → ClassId} {B0 : Nat} (a0 : Nat) (x1 : Int32) : Ct l D dA B0 yX6_needKind (.code yX6_needKind cX6_needKind 2 (none) :: ax_ALL) 6 90 [.ref a0, .int x1] (fX6_needKind a0 x1) :=
  Ct.of hl (by decide +kernel) (Nat.le_of_ble_eq_true rfl) fun Γ C _ _ _ _ e5 e6 e7 T hin => oX6_needKind C T e5 ⟨e6, e7⟩ hin a0 x1 _
/-! ChaseLocker.kind(II)I -/
def fX6_kind (a0 : Nat) (x1 : Int32) (x2 : Int32) (s0 : AS) : Option AR :=
  cV s0 a0 10 (fX6_needChase a0 s0) (qV (fun s1 =>
  cV s1 a0 10 (fX6_needKind a0 x1 s1) (qV (fun s2 =>
  if x2 = 0 then (
    gR s2 a0 10 8 (fun q3 =>
    gR s2 q3 5 8 (fun q4 =>
    aI s2 q4 101 x1 (fun v5 =>
    if v5 = 0 then (
      some (.inl (some (.int 0)), s2))
    else (
      some (.inl (some (.int 1)), s2))))))
  else (
  if x2 = 1 then (
    gR s2 a0 10 8 (fun q6 =>
    gR s2 q6 5 9 (fun q7 =>
    aI s2 q7 100 x1 (fun v8 =>
    some (.inl (some (.int v8)), s2)))))
  else (
  if x2 = 2 then (
    gR s2 a0 10 3 (fun q9 =>
    gR s2 q9 9 1 (fun q10 =>
    aI s2 q10 100 x1 (fun v11 =>
    some (.inl (some (.int v11)), s2)))))
  else (
  if x2 = 3 then (
    gR s2 a0 10 3 (fun q12 =>
    cV s2 q12 9 (fX5_inRows q12 x1 s2) (qI (fun v13 s14 =>
    some (.inl (some (.int v13)), s14)))))
  else (
  tE "java/lang/IllegalArgumentException" s2))))))))
set_option maxHeartbeats 4000000 in
theorem oX6_kind {Γ : CX} (C : OKC Γ cX6_kind RX6 (some (.int))) (T : ∀ z ∈ (cx_c Γ).exceptionTable.toList, False) (hn : cx_nL Γ = 3) (hR : cx_fr Γ = 7 ∧ cx_lo Γ = 111) (hin : (cx_meth Γ).name = yX6_kind.name) : ∀ (a0 : Nat) (x1 : Int32) (x2 : Int32) (s0 : AS), OK Γ 0 [(0, .ref a0), (1, .int x1), (2, .int x2)] [] (fX6_kind a0 x1 x2 s0) s0 := by
  intro a0 x1 x2 s0
  unfold fX6_kind
  refine ok_aload_n C 0 dX6_kind_0 rfl ?_
  refine ok_callV C T [] (F := fX6_needChase a0) (ctX6_needChase (C.2.2.2.2.2.2.2.2.1) a0) vlX6_112 viX6_needChase rfl rfl (by decide) rfl (by rw [hR.1, hR.2]; decide) (Nat.le_of_ble_eq_true rfl) dX6_kind_1 (ok_qV fun s1 => ?_)
  refine ok_aload_n C 0 dX6_kind_4 rfl ?_
  refine ok_iload_n C 1 dX6_kind_5 rfl ?_
  refine ok_callV C T [.int x1] (F := fX6_needKind a0 x1) (ctX6_needKind (C.2.2.2.2.2.2.2.2.1) a0 x1) vlX6_219 viX6_needKind rfl rfl (by decide) rfl (by rw [hR.1, hR.2]; decide) (Nat.le_of_ble_eq_true rfl) dX6_kind_6 (ok_qV fun s2 => ?_)
  refine ok_iload_n C 2 dX6_kind_9 rfl ?_
  refine ok_tsw C 0 40 dX6_kind_10 ⟨by decide, by decide⟩ rfl (by decide) ?_ (fun hc0 => ?_)
  · refine ok_aload_n C 0 dX6_kind_40 rfl ?_
    refine ok_getR C frX6_58_10 dX6_kind_41 (fun q3 => ?_)
    refine ok_getR C frX6_223_5 dX6_kind_44 (fun q4 => ?_)
    refine ok_iload_n C 1 dX6_kind_47 rfl ?_
    refine ok_zald C dX6_kind_48 (fun v5 => ?_)
    refine ok_if_eq C 56 dX6_kind_49 (by decide) ?_ ?_
    · refine ok_iconst C (v := 0) dX6_kind_56 (by decide) ?_
      exact ok_ireturn C dX6_kind_57
    · refine ok_iconst C (v := 1) dX6_kind_52 (by decide) ?_
      refine ok_goto C 57 dX6_kind_53 (by decide) ?_
      exact ok_ireturn C dX6_kind_57
  refine ok_tsw C 1 58 dX6_kind_10 ⟨by decide, by decide⟩ rfl (by decide) ?_ (fun hc1 => ?_)
  · refine ok_aload_n C 0 dX6_kind_58 rfl ?_
    refine ok_getR C frX6_58_10 dX6_kind_59 (fun q6 => ?_)
    refine ok_getR C frX6_226_5 dX6_kind_62 (fun q7 => ?_)
    refine ok_iload_n C 1 dX6_kind_65 rfl ?_
    refine ok_iald C dX6_kind_66 (fun v8 => ?_)
    exact ok_ireturn C dX6_kind_67
  refine ok_tsw C 2 68 dX6_kind_10 ⟨by decide, by decide⟩ rfl (by decide) ?_ (fun hc2 => ?_)
  · refine ok_aload_n C 0 dX6_kind_68 rfl ?_
    refine ok_getR C frX6_33_10 dX6_kind_69 (fun q9 => ?_)
    refine ok_getR C frX6_230_9 dX6_kind_72 (fun q10 => ?_)
    refine ok_iload_n C 1 dX6_kind_75 rfl ?_
    refine ok_iald C dX6_kind_76 (fun v11 => ?_)
    exact ok_ireturn C dX6_kind_77
  refine ok_tsw C 3 78 dX6_kind_10 ⟨by decide, by decide⟩ rfl (by decide) ?_ (fun hc3 => ?_)
  · refine ok_aload_n C 0 dX6_kind_78 rfl ?_
    refine ok_getR C frX6_33_10 dX6_kind_79 (fun q12 => ?_)
    refine ok_iload_n C 1 dX6_kind_82 rfl ?_
    refine ok_callV C T [.int x1] (F := fX5_inRows q12 x1) (ctX5_inRows (C.2.2.2.2.2.2.2.2.1) q12 x1) vlX6_233 viX5_inRows rfl rfl (by decide) rfl (by rw [hR.1, hR.2]; decide) (Nat.le_of_ble_eq_true rfl) dX6_kind_83 (ok_qI fun v13 s14 => ?_)
    exact ok_ireturn C dX6_kind_86
  refine ok_tdf C 87 dX6_kind_10 (by have nhc0 := ax_ne hc0; have nhc1 := ax_ne hc1; have nhc2 := ax_ne hc2; have nhc3 := ax_ne hc3; rw [show ((0 : Int32)).toInt = 0 from rfl] at nhc0; rw [show ((1 : Int32)).toInt = 1 from rfl] at nhc1; rw [show ((2 : Int32)).toInt = 2 from rfl] at nhc2; rw [show ((3 : Int32)).toInt = 3 from rfl] at nhc3; omega) (by decide) ?_
  exact ok_throwS C T tlX6_84_88 (i := 5) rfl dX6_kind_87 dX6_kind_90 dX6_kind_91 dX6_kind_93 dX6_kind_96 (by rw [hR.1]; decide) (by rw [hR.2]; exact Nat.le_of_ble_eq_true rfl)
theorem ctX6_kind {l : Launch} (hl : l.stackTraces = false) {D : va_G} {dA : Nat → ClassId} {B0 : Nat} (a0 : Nat) (x1 : Int32) (x2 : Int32) : Ct l D dA B0 yX6_kind (.code yX6_kind cX6_kind 3 (some (.int)) :: ax_ALL) 7 111 [.ref a0, .int x1, .int x2] (fX6_kind a0 x1 x2) :=
  Ct.of hl (by decide +kernel) (Nat.le_of_ble_eq_true rfl) fun Γ C _ _ _ _ e5 e6 e7 T hin => oX6_kind C T e5 ⟨e6, e7⟩ hin a0 x1 x2 _
/-! ChaseLocker.kindOf(ZI)I -/
def fX6_kindOf (a0 : Nat) (x1 : Int32) (x2 : Int32) (s0 : AS) : Option AR :=
  cV s0 a0 10 (fX6_needChase a0 s0) (qV (fun s1 =>
  gR s1 a0 10 8 (fun q2 =>
  cV s1 q2 5 (fX1_find q2 x1 x2 s1) (qI (fun v3 s4 =>
  some (.inl (some (.int v3)), s4))))))
set_option maxHeartbeats 4000000 in
theorem oX6_kindOf {Γ : CX} (C : OKC Γ cX6_kindOf RX6 (some (.int))) (T : ∀ z ∈ (cx_c Γ).exceptionTable.toList, False) (hn : cx_nL Γ = 3) (hR : cx_fr Γ = 7 ∧ cx_lo Γ = 110) (hin : (cx_meth Γ).name = yX6_kindOf.name) : ∀ (a0 : Nat) (x1 : Int32) (x2 : Int32) (s0 : AS), OK Γ 0 [(0, .ref a0), (1, .int x1), (2, .int x2)] [] (fX6_kindOf a0 x1 x2 s0) s0 := by
  intro a0 x1 x2 s0
  unfold fX6_kindOf
  refine ok_aload_n C 0 dX6_kindOf_0 rfl ?_
  refine ok_callV C T [] (F := fX6_needChase a0) (ctX6_needChase (C.2.2.2.2.2.2.2.2.1) a0) vlX6_112 viX6_needChase rfl rfl (by decide) rfl (by rw [hR.1, hR.2]; decide) (Nat.le_of_ble_eq_true rfl) dX6_kindOf_1 (ok_qV fun s1 => ?_)
  refine ok_aload_n C 0 dX6_kindOf_4 rfl ?_
  refine ok_getR C frX6_58_10 dX6_kindOf_5 (fun q2 => ?_)
  refine ok_iload_n C 1 dX6_kindOf_8 rfl ?_
  refine ok_iload_n C 2 dX6_kindOf_9 rfl ?_
  refine ok_callV C T [.int x1, .int x2] (F := fX1_find q2 x1 x2) (ctX1_find (C.2.2.2.2.2.2.2.2.1) q2 x1 x2) vlX6_238 viX1_find rfl rfl (by decide) rfl (by rw [hR.1, hR.2]; decide) (Nat.le_of_ble_eq_true rfl) dX6_kindOf_10 (ok_qI fun v3 s4 => ?_)
  exact ok_ireturn C dX6_kindOf_13
theorem ctX6_kindOf {l : Launch} (hl : l.stackTraces = false) {D : va_G} {dA : Nat → ClassId} {B0 : Nat} (a0 : Nat) (x1 : Int32) (x2 : Int32) : Ct l D dA B0 yX6_kindOf (.code yX6_kindOf cX6_kindOf 3 (some (.int)) :: ax_ALL) 7 110 [.ref a0, .int x1, .int x2] (fX6_kindOf a0 x1 x2) :=
  Ct.of hl (by decide +kernel) (Nat.le_of_ble_eq_true rfl) fun Γ C _ _ _ _ e5 e6 e7 T hin => oX6_kindOf C T e5 ⟨e6, e7⟩ hin a0 x1 x2 _
/-! ChaseLocker.isTight(I)Z -/
def fX6_isTight (a0 : Nat) (x1 : Int32) (s0 : AS) : Option AR :=
  cV s0 a0 10 (fX6_needRow a0 x1 s0) (qR (fun q1 s2 =>
  gR s2 a0 10 8 (fun q3 =>
  cV s2 q1 7 (fX3_isTightIn q1 q3 s2) (qI (fun v4 s5 =>
  rZ v4 s5)))))
set_option maxHeartbeats 4000000 in
theorem oX6_isTight {Γ : CX} (C : OKC Γ cX6_isTight RX6 (some (.boolean))) (T : ∀ z ∈ (cx_c Γ).exceptionTable.toList, False) (hn : cx_nL Γ = 2) (hR : cx_fr Γ = 8 ∧ cx_lo Γ = 131) (hin : (cx_meth Γ).name = yX6_isTight.name) : ∀ (a0 : Nat) (x1 : Int32) (s0 : AS), OK Γ 0 [(0, .ref a0), (1, .int x1)] [] (fX6_isTight a0 x1 s0) s0 := by
  intro a0 x1 s0
  unfold fX6_isTight
  refine ok_aload_n C 0 dX6_isTight_0 rfl ?_
  refine ok_iload_n C 1 dX6_isTight_1 rfl ?_
  refine ok_callV C T [.int x1] (F := fX6_needRow a0 x1) (ctX6_needRow (C.2.2.2.2.2.2.2.2.1) a0 x1) vlX6_172 viX6_needRow rfl rfl (by decide) rfl (by rw [hR.1, hR.2]; decide) (Nat.le_of_ble_eq_true rfl) dX6_isTight_2 (ok_qR fun q1 s2 => ?_)
  refine ok_aload_n C 0 dX6_isTight_5 rfl ?_
  refine ok_getR C frX6_58_10 dX6_isTight_6 (fun q3 => ?_)
  refine ok_callV C T [.ref q3] (F := fX3_isTightIn q1 q3) (ctX3_isTightIn (C.2.2.2.2.2.2.2.2.1) q1 q3) vlX6_242 viX3_isTightIn rfl rfl (by decide) rfl (by rw [hR.1, hR.2]; decide) (Nat.le_of_ble_eq_true rfl) dX6_isTight_9 (ok_qI fun v4 s5 => ?_)
  exact ok_zreturn C dX6_isTight_12
theorem ctX6_isTight {l : Launch} (hl : l.stackTraces = false) {D : va_G} {dA : Nat → ClassId} {B0 : Nat} (a0 : Nat) (x1 : Int32) : Ct l D dA B0 yX6_isTight (.code yX6_isTight cX6_isTight 2 (some (.boolean)) :: ax_ALL) 8 131 [.ref a0, .int x1] (fX6_isTight a0 x1) :=
  Ct.of hl (by decide +kernel) (Nat.le_of_ble_eq_true rfl) fun Γ C _ _ _ _ e5 e6 e7 T hin => oX6_isTight C T e5 ⟨e6, e7⟩ hin a0 x1 _
/-! ChaseLocker.widestGap()I -/
def fX6_widestGap_56 (r8 : Nat → Int32 → Int32 → AS → Option AR) (a0 : Nat) (x1 : Int32) (x2 : Int32) (s0 : AS) : Option AR :=
  lt (x2 + 1) (fun v1 =>
  r8 a0 x1 v1 s0)
def fX6_widestGap_8  : Nat → Nat → Int32 → Int32 → AS → Option AR
  | 0, _, _, _, _ => none
  | n + 1, a0, x1, x2, s0 =>
    gR s0 a0 10 8 (fun q1 =>
    gI s0 q1 5 1 (fun v2 =>
    if v2 ≤ x2 then (
      some (.inl (some (.int x1)), s0))
    else (
      gR s0 a0 10 3 (fun q3 =>
      gR s0 q3 9 0 (fun q4 =>
      aR s0 q4 111 x2 (fun q5 =>
      gR s0 a0 10 8 (fun q6 =>
      cV s0 q5 7 (fX3_gapIn q5 q6 s0) (qI (fun v7 s8 =>
      gR s8 a0 10 3 (fun q9 =>
      gR s8 q9 9 0 (fun q10 =>
      aR s8 q10 111 x1 (fun q11 =>
      gR s8 a0 10 8 (fun q12 =>
      cV s8 q11 7 (fX3_gapIn q11 q12 s8) (qI (fun v13 s14 =>
      if v7 ≤ v13 then (
        fX6_widestGap_56 (fX6_widestGap_8 n) a0 x1 x2 s14)
      else (
        fX6_widestGap_56 (fX6_widestGap_8 n) a0 x2 x2 s14))))))))))))))))
def fX6_widestGap (a0 : Nat) (s0 : AS) : Option AR :=
  cV s0 a0 10 (fX6_needChase a0 s0) (qV (fun s1 =>
  fX6_widestGap_8 FU a0 0 1 s1))
set_option maxHeartbeats 4000000 in
theorem oX6_widestGap_56 {Γ : CX} (C : OKC Γ cX6_widestGap RX6 (some (.int))) (T : ∀ z ∈ (cx_c Γ).exceptionTable.toList, False) (hn : cx_nL Γ = 3) (hR : cx_fr Γ = 7 ∧ cx_lo Γ = 110) (hin : (cx_meth Γ).name = yX6_widestGap.name) {r8 : Nat → Int32 → Int32 → AS → Option AR} (h8 : ∀ (a0 : Nat) (x1 : Int32) (x2 : Int32) (s0 : AS), OK Γ 8 [(0, .ref a0), (1, .int x1), (2, .int x2)] [] (r8 a0 x1 x2 s0) s0) : ∀ (a0 : Nat) (x1 : Int32) (x2 : Int32) (s0 : AS), OK Γ 56 [(0, .ref a0), (1, .int x1), (2, .int x2)] [] (fX6_widestGap_56 r8 a0 x1 x2 s0) s0 := by
  intro a0 x1 x2 s0
  unfold fX6_widestGap_56
  refine ok_iincL C 2 (c := 1) (fun v1 => [(2, .int v1), (0, .ref a0), (1, .int x1)]) dX6_widestGap_56 rfl rfl (by rw [hn]; decide) (fun _ => rfl) (fun v1 => ?_)
  refine ok_goto C 8 dX6_widestGap_59 (by decide) ?_
  refine OK.sub (lv' := [(0, .ref a0), (1, .int x1), (2, .int v1)]) [1, 2, 0] rfl ?_
  exact h8 a0 x1 v1 s0
set_option maxHeartbeats 4000000 in
theorem oX6_widestGap_8 {Γ : CX} (C : OKC Γ cX6_widestGap RX6 (some (.int))) (T : ∀ z ∈ (cx_c Γ).exceptionTable.toList, False) (hn : cx_nL Γ = 3) (hR : cx_fr Γ = 7 ∧ cx_lo Γ = 110) (hin : (cx_meth Γ).name = yX6_widestGap.name) : ∀ (n : Nat) (a0 : Nat) (x1 : Int32) (x2 : Int32) (s0 : AS), OK Γ 8 [(0, .ref a0), (1, .int x1), (2, .int x2)] [] (fX6_widestGap_8 n a0 x1 x2 s0) s0 := by
  intro n
  induction n with
  | zero => intro _ _ _ s0; exact OK.none
  | succ n ih =>
    intro a0 x1 x2 s0
    rw [fX6_widestGap_8]
    refine ok_iload_n C 2 dX6_widestGap_8 rfl ?_
    refine ok_aload_n C 0 dX6_widestGap_9 rfl ?_
    refine ok_getR C frX6_58_10 dX6_widestGap_10 (fun q1 => ?_)
    refine ok_getI C frX6_115_5 dX6_widestGap_13 (fun v2 => ?_)
    refine ok_icmp_ge C 62 dX6_widestGap_16 (by decide) ?_ ?_
    · refine ok_iload_n C 1 dX6_widestGap_62 rfl ?_
      exact ok_ireturn C dX6_widestGap_63
    · refine ok_aload_n C 0 dX6_widestGap_19 rfl ?_
      refine ok_getR C frX6_33_10 dX6_widestGap_20 (fun q3 => ?_)
      refine ok_getR C frX6_246_9 dX6_widestGap_23 (fun q4 => ?_)
      refine ok_iload_n C 2 dX6_widestGap_26 rfl ?_
      refine ok_aald C 111 7 (fun _ => rfl) (by decide) dX6_widestGap_27 (fun q5 => ?_)
      refine ok_aload_n C 0 dX6_widestGap_28 rfl ?_
      refine ok_getR C frX6_58_10 dX6_widestGap_29 (fun q6 => ?_)
      refine ok_callV C T [.ref q6] (F := fX3_gapIn q5 q6) (ctX3_gapIn (C.2.2.2.2.2.2.2.2.1) q5 q6) vlX6_184 viX3_gapIn rfl rfl (by decide) rfl (by rw [hR.1, hR.2]; decide) (Nat.le_of_ble_eq_true rfl) dX6_widestGap_32 (ok_qI fun v7 s8 => ?_)
      refine ok_aload_n C 0 dX6_widestGap_35 rfl ?_
      refine ok_getR C frX6_33_10 dX6_widestGap_36 (fun q9 => ?_)
      refine ok_getR C frX6_246_9 dX6_widestGap_39 (fun q10 => ?_)
      refine ok_iload_n C 1 dX6_widestGap_42 rfl ?_
      refine ok_aald C 111 7 (fun _ => rfl) (by decide) dX6_widestGap_43 (fun q11 => ?_)
      refine ok_aload_n C 0 dX6_widestGap_44 rfl ?_
      refine ok_getR C frX6_58_10 dX6_widestGap_45 (fun q12 => ?_)
      refine ok_callV C T [.ref q12] (F := fX3_gapIn q11 q12) (ctX3_gapIn (C.2.2.2.2.2.2.2.2.1) q11 q12) vlX6_184 viX3_gapIn rfl rfl (by decide) rfl (by rw [hR.1, hR.2]; decide) (Nat.le_of_ble_eq_true rfl) dX6_widestGap_48 (ok_qI fun v13 s14 => ?_)
      refine ok_icmp_le C 56 dX6_widestGap_51 (by decide) ?_ ?_
      · exact oX6_widestGap_56 C T hn hR hin ih a0 x1 x2 s14
      · refine ok_iload_n C 2 dX6_widestGap_54 rfl ?_
        refine ok_istore_n C (i := 1) [(1, .int x2), (0, .ref a0), (2, .int x2)] dX6_widestGap_55 rfl (by rw [hn]; decide) rfl ?_
        refine OK.sub (lv' := [(0, .ref a0), (1, .int x2), (2, .int x2)]) [1, 0, 2] rfl ?_
        exact oX6_widestGap_56 C T hn hR hin ih a0 x2 x2 s14
set_option maxHeartbeats 4000000 in
theorem oX6_widestGap {Γ : CX} (C : OKC Γ cX6_widestGap RX6 (some (.int))) (T : ∀ z ∈ (cx_c Γ).exceptionTable.toList, False) (hn : cx_nL Γ = 3) (hR : cx_fr Γ = 7 ∧ cx_lo Γ = 110) (hin : (cx_meth Γ).name = yX6_widestGap.name) : ∀ (a0 : Nat) (s0 : AS), OK Γ 0 [(0, .ref a0)] [] (fX6_widestGap a0 s0) s0 := by
  intro a0 s0
  unfold fX6_widestGap
  refine ok_aload_n C 0 dX6_widestGap_0 rfl ?_
  refine ok_callV C T [] (F := fX6_needChase a0) (ctX6_needChase (C.2.2.2.2.2.2.2.2.1) a0) vlX6_112 viX6_needChase rfl rfl (by decide) rfl (by rw [hR.1, hR.2]; decide) (Nat.le_of_ble_eq_true rfl) dX6_widestGap_1 (ok_qV fun s1 => ?_)
  refine ok_iconst C (v := 0) dX6_widestGap_4 (by decide) ?_
  refine ok_istore_n C (i := 1) [(1, .int 0), (0, .ref a0)] dX6_widestGap_5 rfl (by rw [hn]; decide) rfl ?_
  refine ok_iconst C (v := 1) dX6_widestGap_6 (by decide) ?_
  refine ok_istore_n C (i := 2) [(2, .int 1), (1, .int 0), (0, .ref a0)] dX6_widestGap_7 rfl (by rw [hn]; decide) rfl ?_
  refine OK.sub (lv' := [(0, .ref a0), (1, .int 0), (2, .int 1)]) [2, 1, 0] rfl ?_
  exact oX6_widestGap_8 C T hn hR hin FU a0 0 1 s1
theorem ctX6_widestGap {l : Launch} (hl : l.stackTraces = false) {D : va_G} {dA : Nat → ClassId} {B0 : Nat} (a0 : Nat) : Ct l D dA B0 yX6_widestGap (.code yX6_widestGap cX6_widestGap 3 (some (.int)) :: ax_ALL) 7 110 [.ref a0] (fX6_widestGap a0) :=
  Ct.of hl (by decide +kernel) (Nat.le_of_ble_eq_true rfl) fun Γ C _ _ _ _ e5 e6 e7 T hin => oX6_widestGap C T e5 ⟨e6, e7⟩ hin a0 _
/-! ChaseLocker.loosest()I -/
def fX6_loosest_65 (r10 : Nat → Int32 → Int32 → Int32 → AS → Option AR) (a0 : Nat) (x1 : Int32) (x2 : Int32) (x3 : Int32) (s0 : AS) : Option AR :=
  lt (x3 + 1) (fun v1 =>
  r10 a0 x1 x2 v1 s0)
def fX6_loosest_10  : Nat → Nat → Int32 → Int32 → Int32 → AS → Option AR
  | 0, _, _, _, _, _ => none
  | n + 1, a0, x1, x2, x3, s0 =>
    gR s0 a0 10 8 (fun q1 =>
    gI s0 q1 5 1 (fun v2 =>
    if v2 ≤ x3 then (
      some (.inl (some (.int x1)), s0))
    else (
      gR s0 a0 10 3 (fun q3 =>
      gR s0 q3 9 0 (fun q4 =>
      aR s0 q4 111 x3 (fun q5 =>
      gI s0 q5 7 1 (fun v6 =>
      if v6 ≤ 0 then (
        fX6_loosest_65 (fX6_loosest_10 n) a0 x1 x2 x3 s0)
      else (
        gR s0 a0 10 8 (fun q7 =>
        cV s0 q5 7 (fX3_loosenessIn q5 q7 s0) (qI (fun v8 s9 =>
        if v8 ≤ x2 then (
          fX6_loosest_65 (fX6_loosest_10 n) a0 x1 x2 x3 s9)
        else (
          gR s9 a0 10 8 (fun q10 =>
          cV s9 q5 7 (fX3_loosenessIn q5 q10 s9) (qI (fun v11 s12 =>
          fX6_loosest_65 (fX6_loosest_10 n) a0 x3 v11 x3 s12)))))))))))))))
def fX6_loosest (a0 : Nat) (s0 : AS) : Option AR :=
  cV s0 a0 10 (fX6_needChase a0 s0) (qV (fun s1 =>
  lt ((-1)) (fun v2 =>
  lt ((-1)) (fun v3 =>
  fX6_loosest_10 FU a0 v2 v3 0 s1))))
set_option maxHeartbeats 4000000 in
theorem oX6_loosest_65 {Γ : CX} (C : OKC Γ cX6_loosest RX6 (some (.int))) (T : ∀ z ∈ (cx_c Γ).exceptionTable.toList, False) (hn : cx_nL Γ = 5) (hR : cx_fr Γ = 7 ∧ cx_lo Γ = 123) (hin : (cx_meth Γ).name = yX6_loosest.name) {r10 : Nat → Int32 → Int32 → Int32 → AS → Option AR} (h10 : ∀ (a0 : Nat) (x1 : Int32) (x2 : Int32) (x3 : Int32) (s0 : AS), OK Γ 10 [(0, .ref a0), (1, .int x1), (2, .int x2), (3, .int x3)] [] (r10 a0 x1 x2 x3 s0) s0) : ∀ (a0 : Nat) (x1 : Int32) (x2 : Int32) (x3 : Int32) (s0 : AS), OK Γ 65 [(0, .ref a0), (1, .int x1), (2, .int x2), (3, .int x3)] [] (fX6_loosest_65 r10 a0 x1 x2 x3 s0) s0 := by
  intro a0 x1 x2 x3 s0
  unfold fX6_loosest_65
  refine ok_iincL C 3 (c := 1) (fun v1 => [(3, .int v1), (0, .ref a0), (1, .int x1), (2, .int x2)]) dX6_loosest_65 rfl rfl (by rw [hn]; decide) (fun _ => rfl) (fun v1 => ?_)
  refine ok_goto C 10 dX6_loosest_68 (by decide) ?_
  refine OK.sub (lv' := [(0, .ref a0), (1, .int x1), (2, .int x2), (3, .int v1)]) [1, 2, 3, 0] rfl ?_
  exact h10 a0 x1 x2 v1 s0
set_option maxHeartbeats 4000000 in
theorem oX6_loosest_10 {Γ : CX} (C : OKC Γ cX6_loosest RX6 (some (.int))) (T : ∀ z ∈ (cx_c Γ).exceptionTable.toList, False) (hn : cx_nL Γ = 5) (hR : cx_fr Γ = 7 ∧ cx_lo Γ = 123) (hin : (cx_meth Γ).name = yX6_loosest.name) : ∀ (n : Nat) (a0 : Nat) (x1 : Int32) (x2 : Int32) (x3 : Int32) (s0 : AS), OK Γ 10 [(0, .ref a0), (1, .int x1), (2, .int x2), (3, .int x3)] [] (fX6_loosest_10 n a0 x1 x2 x3 s0) s0 := by
  intro n
  induction n with
  | zero => intro _ _ _ _ s0; exact OK.none
  | succ n ih =>
    intro a0 x1 x2 x3 s0
    rw [fX6_loosest_10]
    refine ok_iload_n C 3 dX6_loosest_10 rfl ?_
    refine ok_aload_n C 0 dX6_loosest_11 rfl ?_
    refine ok_getR C frX6_58_10 dX6_loosest_12 (fun q1 => ?_)
    refine ok_getI C frX6_115_5 dX6_loosest_15 (fun v2 => ?_)
    refine ok_icmp_ge C 71 dX6_loosest_18 (by decide) ?_ ?_
    · refine ok_iload_n C 1 dX6_loosest_71 rfl ?_
      exact ok_ireturn C dX6_loosest_72
    · refine ok_aload_n C 0 dX6_loosest_21 rfl ?_
      refine ok_getR C frX6_33_10 dX6_loosest_22 (fun q3 => ?_)
      refine ok_getR C frX6_246_9 dX6_loosest_25 (fun q4 => ?_)
      refine ok_iload_n C 3 dX6_loosest_28 rfl ?_
      refine ok_aald C 111 7 (fun _ => rfl) (by decide) dX6_loosest_29 (fun q5 => ?_)
      refine ok_astore C (i := 4) [(4, .ref q5), (0, .ref a0), (1, .int x1), (2, .int x2), (3, .int x3)] dX6_loosest_30 (by rw [hn]; decide) rfl ?_
      refine ok_aload C 0 dX6_loosest_32 rfl ?_
      refine ok_getI C frX6_176_7 dX6_loosest_34 (fun v6 => ?_)
      refine ok_if_le C 65 dX6_loosest_37 (by decide) ?_ ?_
      · refine OK.sub (lv' := [(0, .ref a0), (1, .int x1), (2, .int x2), (3, .int x3)]) [1, 2, 3, 4] rfl ?_
        exact oX6_loosest_65 C T hn hR hin ih a0 x1 x2 x3 s0
      · refine ok_aload C 0 dX6_loosest_40 rfl ?_
        refine ok_aload_n C 1 dX6_loosest_42 rfl ?_
        refine ok_getR C frX6_58_10 dX6_loosest_43 (fun q7 => ?_)
        refine ok_callV C T [.ref q7] (F := fX3_loosenessIn q5 q7) (ctX3_loosenessIn (C.2.2.2.2.2.2.2.2.1) q5 q7) vlX6_249 viX3_loosenessIn rfl rfl (by decide) rfl (by rw [hR.1, hR.2]; decide) (Nat.le_of_ble_eq_true rfl) dX6_loosest_46 (ok_qI fun v8 s9 => ?_)
        refine ok_iload_n C 3 dX6_loosest_49 rfl ?_
        refine ok_icmp_le C 65 dX6_loosest_50 (by decide) ?_ ?_
        · refine OK.sub (lv' := [(0, .ref a0), (1, .int x1), (2, .int x2), (3, .int x3)]) [1, 2, 3, 4] rfl ?_
          exact oX6_loosest_65 C T hn hR hin ih a0 x1 x2 x3 s9
        · refine ok_iload_n C 4 dX6_loosest_53 rfl ?_
          refine ok_istore_n C (i := 1) [(1, .int x3), (4, .ref q5), (0, .ref a0), (2, .int x2), (3, .int x3)] dX6_loosest_54 rfl (by rw [hn]; decide) rfl ?_
          refine ok_aload C 1 dX6_loosest_55 rfl ?_
          refine ok_aload_n C 2 dX6_loosest_57 rfl ?_
          refine ok_getR C frX6_58_10 dX6_loosest_58 (fun q10 => ?_)
          refine ok_callV C T [.ref q10] (F := fX3_loosenessIn q5 q10) (ctX3_loosenessIn (C.2.2.2.2.2.2.2.2.1) q5 q10) vlX6_249 viX3_loosenessIn rfl rfl (by decide) rfl (by rw [hR.1, hR.2]; decide) (Nat.le_of_ble_eq_true rfl) dX6_loosest_61 (ok_qI fun v11 s12 => ?_)
          refine ok_istore_n C (i := 2) [(2, .int v11), (1, .int x3), (4, .ref q5), (0, .ref a0), (3, .int x3)] dX6_loosest_64 rfl (by rw [hn]; decide) rfl ?_
          refine OK.sub (lv' := [(0, .ref a0), (1, .int x3), (2, .int v11), (3, .int x3)]) [3, 1, 0, 4] rfl ?_
          exact oX6_loosest_65 C T hn hR hin ih a0 x3 v11 x3 s12
set_option maxHeartbeats 4000000 in
theorem oX6_loosest {Γ : CX} (C : OKC Γ cX6_loosest RX6 (some (.int))) (T : ∀ z ∈ (cx_c Γ).exceptionTable.toList, False) (hn : cx_nL Γ = 5) (hR : cx_fr Γ = 7 ∧ cx_lo Γ = 123) (hin : (cx_meth Γ).name = yX6_loosest.name) : ∀ (a0 : Nat) (s0 : AS), OK Γ 0 [(0, .ref a0)] [] (fX6_loosest a0 s0) s0 := by
  intro a0 s0
  unfold fX6_loosest
  refine ok_aload_n C 0 dX6_loosest_0 rfl ?_
  refine ok_callV C T [] (F := fX6_needChase a0) (ctX6_needChase (C.2.2.2.2.2.2.2.2.1) a0) vlX6_112 viX6_needChase rfl rfl (by decide) rfl (by rw [hR.1, hR.2]; decide) (Nat.le_of_ble_eq_true rfl) dX6_loosest_1 (ok_qV fun s1 => ?_)
  refine ok_iconst C (v := (-1)) dX6_loosest_4 (by decide) ?_
  refine ok_lt (fun v2 => ?_)
  refine ok_istore_n C (i := 1) [(1, .int v2), (0, .ref a0)] dX6_loosest_5 rfl (by rw [hn]; decide) rfl ?_
  refine ok_iconst C (v := (-1)) dX6_loosest_6 (by decide) ?_
  refine ok_lt (fun v3 => ?_)
  refine ok_istore_n C (i := 2) [(2, .int v3), (1, .int v2), (0, .ref a0)] dX6_loosest_7 rfl (by rw [hn]; decide) rfl ?_
  refine ok_iconst C (v := 0) dX6_loosest_8 (by decide) ?_
  refine ok_istore_n C (i := 3) [(3, .int 0), (2, .int v3), (1, .int v2), (0, .ref a0)] dX6_loosest_9 rfl (by rw [hn]; decide) rfl ?_
  refine OK.sub (lv' := [(0, .ref a0), (1, .int v2), (2, .int v3), (3, .int 0)]) [3, 2, 1, 0] rfl ?_
  exact oX6_loosest_10 C T hn hR hin FU a0 v2 v3 0 s1
theorem ctX6_loosest {l : Launch} (hl : l.stackTraces = false) {D : va_G} {dA : Nat → ClassId} {B0 : Nat} (a0 : Nat) : Ct l D dA B0 yX6_loosest (.code yX6_loosest cX6_loosest 5 (some (.int)) :: ax_ALL) 7 123 [.ref a0] (fX6_loosest a0) :=
  Ct.of hl (by decide +kernel) (Nat.le_of_ble_eq_true rfl) fun Γ C _ _ _ _ e5 e6 e7 T hin => oX6_loosest C T e5 ⟨e6, e7⟩ hin a0 _
/-! ChaseLocker.longestLeft()I -/
def fX6_longestLeft_6  : Nat → Nat → Int32 → AS → Option AR
  | 0, _, _, _ => none
  | n + 1, a0, x1, s0 =>
    gR s0 a0 10 8 (fun q1 =>
    gI s0 q1 5 7 (fun v2 =>
    if v2 ≤ x1 then (
      some (.inl (some (.int ((-1)))), s0))
    else (
      gR s0 a0 10 8 (fun q3 =>
      gR s0 q3 5 10 (fun q4 =>
      aI s0 q4 100 x1 (fun v5 =>
      gR s0 a0 10 3 (fun q6 =>
      gR s0 q6 9 1 (fun q7 =>
      aI s0 q7 100 v5 (fun v8 =>
      if v8 ≤ 0 then (
        lt (x1 + 1) (fun v9 =>
        fX6_longestLeft_6 n a0 v9 s0))
      else (
        some (.inl (some (.int v5)), s0)))))))))))
def fX6_longestLeft (a0 : Nat) (s0 : AS) : Option AR :=
  cV s0 a0 10 (fX6_needChase a0 s0) (qV (fun s1 =>
  fX6_longestLeft_6 FU a0 0 s1))
set_option maxHeartbeats 4000000 in
theorem oX6_longestLeft_6 {Γ : CX} (C : OKC Γ cX6_longestLeft RX6 (some (.int))) (T : ∀ z ∈ (cx_c Γ).exceptionTable.toList, False) (hn : cx_nL Γ = 3) (hR : cx_fr Γ = 7 ∧ cx_lo Γ = 110) (hin : (cx_meth Γ).name = yX6_longestLeft.name) : ∀ (n : Nat) (a0 : Nat) (x1 : Int32) (s0 : AS), OK Γ 6 [(0, .ref a0), (1, .int x1)] [] (fX6_longestLeft_6 n a0 x1 s0) s0 := by
  intro n
  induction n with
  | zero => intro _ _ s0; exact OK.none
  | succ n ih =>
    intro a0 x1 s0
    rw [fX6_longestLeft_6]
    refine ok_iload_n C 1 dX6_longestLeft_6 rfl ?_
    refine ok_aload_n C 0 dX6_longestLeft_7 rfl ?_
    refine ok_getR C frX6_58_10 dX6_longestLeft_8 (fun q1 => ?_)
    refine ok_getI C frX6_92_5 dX6_longestLeft_11 (fun v2 => ?_)
    refine ok_icmp_ge C 47 dX6_longestLeft_14 (by decide) ?_ ?_
    · refine ok_iconst C (v := (-1)) dX6_longestLeft_47 (by decide) ?_
      exact ok_ireturn C dX6_longestLeft_48
    · refine ok_aload_n C 0 dX6_longestLeft_17 rfl ?_
      refine ok_getR C frX6_58_10 dX6_longestLeft_18 (fun q3 => ?_)
      refine ok_getR C frX6_252_5 dX6_longestLeft_21 (fun q4 => ?_)
      refine ok_iload_n C 1 dX6_longestLeft_24 rfl ?_
      refine ok_iald C dX6_longestLeft_25 (fun v5 => ?_)
      refine ok_istore_n C (i := 2) [(2, .int v5), (0, .ref a0), (1, .int x1)] dX6_longestLeft_26 rfl (by rw [hn]; decide) rfl ?_
      refine ok_aload_n C 1 dX6_longestLeft_27 rfl ?_
      refine ok_getR C frX6_33_10 dX6_longestLeft_28 (fun q6 => ?_)
      refine ok_getR C frX6_230_9 dX6_longestLeft_31 (fun q7 => ?_)
      refine ok_iload_n C 0 dX6_longestLeft_34 rfl ?_
      refine ok_iald C dX6_longestLeft_35 (fun v8 => ?_)
      refine ok_if_le C 41 dX6_longestLeft_36 (by decide) ?_ ?_
      · refine ok_iincL C 2 (c := 1) (fun v9 => [(1, .int v9), (2, .int v5), (0, .ref a0)]) dX6_longestLeft_41 rfl rfl (by rw [hn]; decide) (fun _ => rfl) (fun v9 => ?_)
        refine ok_goto C 6 dX6_longestLeft_44 (by decide) ?_
        refine OK.sub (lv' := [(0, .ref a0), (1, .int v9)]) [2, 0] rfl ?_
        exact ih a0 v9 s0
      · refine ok_iload_n C 0 dX6_longestLeft_39 rfl ?_
        exact ok_ireturn C dX6_longestLeft_40
set_option maxHeartbeats 4000000 in
theorem oX6_longestLeft {Γ : CX} (C : OKC Γ cX6_longestLeft RX6 (some (.int))) (T : ∀ z ∈ (cx_c Γ).exceptionTable.toList, False) (hn : cx_nL Γ = 3) (hR : cx_fr Γ = 7 ∧ cx_lo Γ = 110) (hin : (cx_meth Γ).name = yX6_longestLeft.name) : ∀ (a0 : Nat) (s0 : AS), OK Γ 0 [(0, .ref a0)] [] (fX6_longestLeft a0 s0) s0 := by
  intro a0 s0
  unfold fX6_longestLeft
  refine ok_aload_n C 0 dX6_longestLeft_0 rfl ?_
  refine ok_callV C T [] (F := fX6_needChase a0) (ctX6_needChase (C.2.2.2.2.2.2.2.2.1) a0) vlX6_112 viX6_needChase rfl rfl (by decide) rfl (by rw [hR.1, hR.2]; decide) (Nat.le_of_ble_eq_true rfl) dX6_longestLeft_1 (ok_qV fun s1 => ?_)
  refine ok_iconst C (v := 0) dX6_longestLeft_4 (by decide) ?_
  refine ok_istore_n C (i := 1) [(1, .int 0), (0, .ref a0)] dX6_longestLeft_5 rfl (by rw [hn]; decide) rfl ?_
  refine OK.sub (lv' := [(0, .ref a0), (1, .int 0)]) [1, 0] rfl ?_
  exact oX6_longestLeft_6 C T hn hR hin FU a0 0 s1
theorem ctX6_longestLeft {l : Launch} (hl : l.stackTraces = false) {D : va_G} {dA : Nat → ClassId} {B0 : Nat} (a0 : Nat) : Ct l D dA B0 yX6_longestLeft (.code yX6_longestLeft cX6_longestLeft 3 (some (.int)) :: ax_ALL) 7 110 [.ref a0] (fX6_longestLeft a0) :=
  Ct.of hl (by decide +kernel) (Nat.le_of_ble_eq_true rfl) fun Γ C _ _ _ _ e5 e6 e7 T hin => oX6_longestLeft C T e5 ⟨e6, e7⟩ hin a0 _
/-! ChaseLocker.lengthLeft()I -/
def fX6_lengthLeft_8  : Nat → Nat → Int32 → Int32 → AS → Option AR
  | 0, _, _, _, _ => none
  | n + 1, a0, x1, x2, s0 =>
    gR s0 a0 10 8 (fun q1 =>
    gI s0 q1 5 7 (fun v2 =>
    if v2 ≤ x2 then (
      some (.inl (some (.int x1)), s0))
    else (
      gR s0 a0 10 3 (fun q3 =>
      gR s0 q3 9 1 (fun q4 =>
      aI s0 q4 100 x2 (fun v5 =>
      gR s0 a0 10 8 (fun q6 =>
      gR s0 q6 5 9 (fun q7 =>
      aI s0 q7 100 x2 (fun v8 =>
      lt (x1 + (v5 * v8)) (fun v9 =>
      lt (x2 + 1) (fun v10 =>
      fX6_lengthLeft_8 n a0 v9 v10 s0)))))))))))
def fX6_lengthLeft (a0 : Nat) (s0 : AS) : Option AR :=
  cV s0 a0 10 (fX6_needChase a0 s0) (qV (fun s1 =>
  fX6_lengthLeft_8 FU a0 0 0 s1))
set_option maxHeartbeats 4000000 in
theorem oX6_lengthLeft_8 {Γ : CX} (C : OKC Γ cX6_lengthLeft RX6 (some (.int))) (T : ∀ z ∈ (cx_c Γ).exceptionTable.toList, False) (hn : cx_nL Γ = 3) (hR : cx_fr Γ = 7 ∧ cx_lo Γ = 110) (hin : (cx_meth Γ).name = yX6_lengthLeft.name) : ∀ (n : Nat) (a0 : Nat) (x1 : Int32) (x2 : Int32) (s0 : AS), OK Γ 8 [(0, .ref a0), (1, .int x1), (2, .int x2)] [] (fX6_lengthLeft_8 n a0 x1 x2 s0) s0 := by
  intro n
  induction n with
  | zero => intro _ _ _ s0; exact OK.none
  | succ n ih =>
    intro a0 x1 x2 s0
    rw [fX6_lengthLeft_8]
    refine ok_iload_n C 2 dX6_lengthLeft_8 rfl ?_
    refine ok_aload_n C 0 dX6_lengthLeft_9 rfl ?_
    refine ok_getR C frX6_58_10 dX6_lengthLeft_10 (fun q1 => ?_)
    refine ok_getI C frX6_92_5 dX6_lengthLeft_13 (fun v2 => ?_)
    refine ok_icmp_ge C 47 dX6_lengthLeft_16 (by decide) ?_ ?_
    · refine ok_iload_n C 1 dX6_lengthLeft_47 rfl ?_
      exact ok_ireturn C dX6_lengthLeft_48
    · refine ok_iload_n C 1 dX6_lengthLeft_19 rfl ?_
      refine ok_aload_n C 0 dX6_lengthLeft_20 rfl ?_
      refine ok_getR C frX6_33_10 dX6_lengthLeft_21 (fun q3 => ?_)
      refine ok_getR C frX6_230_9 dX6_lengthLeft_24 (fun q4 => ?_)
      refine ok_iload_n C 2 dX6_lengthLeft_27 rfl ?_
      refine ok_iald C dX6_lengthLeft_28 (fun v5 => ?_)
      refine ok_aload_n C 0 dX6_lengthLeft_29 rfl ?_
      refine ok_getR C frX6_58_10 dX6_lengthLeft_30 (fun q6 => ?_)
      refine ok_getR C frX6_226_5 dX6_lengthLeft_33 (fun q7 => ?_)
      refine ok_iload_n C 2 dX6_lengthLeft_36 rfl ?_
      refine ok_iald C dX6_lengthLeft_37 (fun v8 => ?_)
      refine ok_imul C dX6_lengthLeft_38 ?_
      refine ok_iadd C dX6_lengthLeft_39 ?_
      refine ok_lt (fun v9 => ?_)
      refine ok_istore_n C (i := 1) [(1, .int v9), (0, .ref a0), (2, .int x2)] dX6_lengthLeft_40 rfl (by rw [hn]; decide) rfl ?_
      refine ok_iincL C 2 (c := 1) (fun v10 => [(2, .int v10), (1, .int v9), (0, .ref a0)]) dX6_lengthLeft_41 rfl rfl (by rw [hn]; decide) (fun _ => rfl) (fun v10 => ?_)
      refine ok_goto C 8 dX6_lengthLeft_44 (by decide) ?_
      refine OK.sub (lv' := [(0, .ref a0), (1, .int v9), (2, .int v10)]) [2, 1, 0] rfl ?_
      exact ih a0 v9 v10 s0
set_option maxHeartbeats 4000000 in
theorem oX6_lengthLeft {Γ : CX} (C : OKC Γ cX6_lengthLeft RX6 (some (.int))) (T : ∀ z ∈ (cx_c Γ).exceptionTable.toList, False) (hn : cx_nL Γ = 3) (hR : cx_fr Γ = 7 ∧ cx_lo Γ = 110) (hin : (cx_meth Γ).name = yX6_lengthLeft.name) : ∀ (a0 : Nat) (s0 : AS), OK Γ 0 [(0, .ref a0)] [] (fX6_lengthLeft a0 s0) s0 := by
  intro a0 s0
  unfold fX6_lengthLeft
  refine ok_aload_n C 0 dX6_lengthLeft_0 rfl ?_
  refine ok_callV C T [] (F := fX6_needChase a0) (ctX6_needChase (C.2.2.2.2.2.2.2.2.1) a0) vlX6_112 viX6_needChase rfl rfl (by decide) rfl (by rw [hR.1, hR.2]; decide) (Nat.le_of_ble_eq_true rfl) dX6_lengthLeft_1 (ok_qV fun s1 => ?_)
  refine ok_iconst C (v := 0) dX6_lengthLeft_4 (by decide) ?_
  refine ok_istore_n C (i := 1) [(1, .int 0), (0, .ref a0)] dX6_lengthLeft_5 rfl (by rw [hn]; decide) rfl ?_
  refine ok_iconst C (v := 0) dX6_lengthLeft_6 (by decide) ?_
  refine ok_istore_n C (i := 2) [(2, .int 0), (1, .int 0), (0, .ref a0)] dX6_lengthLeft_7 rfl (by rw [hn]; decide) rfl ?_
  refine OK.sub (lv' := [(0, .ref a0), (1, .int 0), (2, .int 0)]) [2, 1, 0] rfl ?_
  exact oX6_lengthLeft_8 C T hn hR hin FU a0 0 0 s1
theorem ctX6_lengthLeft {l : Launch} (hl : l.stackTraces = false) {D : va_G} {dA : Nat → ClassId} {B0 : Nat} (a0 : Nat) : Ct l D dA B0 yX6_lengthLeft (.code yX6_lengthLeft cX6_lengthLeft 3 (some (.int)) :: ax_ALL) 7 110 [.ref a0] (fX6_lengthLeft a0) :=
  Ct.of hl (by decide +kernel) (Nat.le_of_ble_eq_true rfl) fun Γ C _ _ _ _ e5 e6 e7 T hin => oX6_lengthLeft C T e5 ⟨e6, e7⟩ hin a0 _
/-! ChaseLocker.meanGap()D -/
def fX6_meanGap_44  (a0 : Nat) (x1 : Int32) (s0 : AS) : Option AR :=
  gR s0 a0 10 8 (fun q1 =>
  gI s0 q1 5 1 (fun v2 =>
  if v2 = 0 then (
    some (.inl (some (.double 0)), s0))
  else (
    gR s0 a0 10 8 (fun q3 =>
    gI s0 q3 5 1 (fun v4 =>
    if FP.ddiv (FP.i2d x1) (FP.i2d v4) &&& 0x7fffffffffffffff ≤ 0x7ff0000000000000 then (
    some (.inl (some (.double (FP.ddiv (FP.i2d x1) (FP.i2d v4)))), s0)) else none)))))
def fX6_meanGap_8  : Nat → Nat → Int32 → Int32 → AS → Option AR
  | 0, _, _, _, _ => none
  | n + 1, a0, x1, x2, s0 =>
    gR s0 a0 10 8 (fun q1 =>
    gI s0 q1 5 1 (fun v2 =>
    if v2 ≤ x2 then (
      fX6_meanGap_44 a0 x1 s0)
    else (
      gR s0 a0 10 3 (fun q3 =>
      gR s0 q3 9 0 (fun q4 =>
      aR s0 q4 111 x2 (fun q5 =>
      gR s0 a0 10 8 (fun q6 =>
      cV s0 q5 7 (fX3_gapIn q5 q6 s0) (qI (fun v7 s8 =>
      lt (x1 + v7) (fun v9 =>
      lt (x2 + 1) (fun v10 =>
      fX6_meanGap_8 n a0 v9 v10 s8)))))))))))
def fX6_meanGap (a0 : Nat) (s0 : AS) : Option AR :=
  cV s0 a0 10 (fX6_needChase a0 s0) (qV (fun s1 =>
  fX6_meanGap_8 FU a0 0 0 s1))
set_option maxHeartbeats 4000000 in
theorem oX6_meanGap_44 {Γ : CX} (C : OKC Γ cX6_meanGap RX6 (some (.double))) (T : ∀ z ∈ (cx_c Γ).exceptionTable.toList, False) (hn : cx_nL Γ = 3) (hR : cx_fr Γ = 7 ∧ cx_lo Γ = 110) (hin : (cx_meth Γ).name = yX6_meanGap.name) : ∀ (a0 : Nat) (x1 : Int32) (s0 : AS), OK Γ 44 [(0, .ref a0), (1, .int x1)] [] (fX6_meanGap_44  a0 x1 s0) s0 := by
  intro a0 x1 s0
  unfold fX6_meanGap_44
  refine ok_aload_n C 0 dX6_meanGap_44 rfl ?_
  refine ok_getR C frX6_58_10 dX6_meanGap_45 (fun q1 => ?_)
  refine ok_getI C frX6_115_5 dX6_meanGap_48 (fun v2 => ?_)
  refine ok_if_ne C 58 dX6_meanGap_51 (by decide) ?_ ?_
  · refine ok_iload_n C 1 dX6_meanGap_58 rfl ?_
    refine ok_i2d C dX6_meanGap_59 ?_
    refine ok_aload_n C 0 dX6_meanGap_60 rfl ?_
    refine ok_getR C frX6_58_10 dX6_meanGap_61 (fun q3 => ?_)
    refine ok_getI C frX6_115_5 dX6_meanGap_64 (fun v4 => ?_)
    refine ok_i2d C dX6_meanGap_67 ?_
    refine ok_ddiv C dX6_meanGap_68 ?_
    exact ok_dreturn C dX6_meanGap_69
  · refine ok_dconst0 C dX6_meanGap_54 ?_
    refine ok_goto C 69 dX6_meanGap_55 (by decide) ?_
    exact ok_dreturn C dX6_meanGap_69
set_option maxHeartbeats 4000000 in
theorem oX6_meanGap_8 {Γ : CX} (C : OKC Γ cX6_meanGap RX6 (some (.double))) (T : ∀ z ∈ (cx_c Γ).exceptionTable.toList, False) (hn : cx_nL Γ = 3) (hR : cx_fr Γ = 7 ∧ cx_lo Γ = 110) (hin : (cx_meth Γ).name = yX6_meanGap.name) : ∀ (n : Nat) (a0 : Nat) (x1 : Int32) (x2 : Int32) (s0 : AS), OK Γ 8 [(0, .ref a0), (1, .int x1), (2, .int x2)] [] (fX6_meanGap_8 n a0 x1 x2 s0) s0 := by
  intro n
  induction n with
  | zero => intro _ _ _ s0; exact OK.none
  | succ n ih =>
    intro a0 x1 x2 s0
    rw [fX6_meanGap_8]
    refine ok_iload_n C 2 dX6_meanGap_8 rfl ?_
    refine ok_aload_n C 0 dX6_meanGap_9 rfl ?_
    refine ok_getR C frX6_58_10 dX6_meanGap_10 (fun q1 => ?_)
    refine ok_getI C frX6_115_5 dX6_meanGap_13 (fun v2 => ?_)
    refine ok_icmp_ge C 44 dX6_meanGap_16 (by decide) ?_ ?_
    · refine OK.sub (lv' := [(0, .ref a0), (1, .int x1)]) [0, 1] rfl ?_
      exact oX6_meanGap_44 C T hn hR hin a0 x1 s0
    · refine ok_iload_n C 1 dX6_meanGap_19 rfl ?_
      refine ok_aload_n C 0 dX6_meanGap_20 rfl ?_
      refine ok_getR C frX6_33_10 dX6_meanGap_21 (fun q3 => ?_)
      refine ok_getR C frX6_246_9 dX6_meanGap_24 (fun q4 => ?_)
      refine ok_iload_n C 2 dX6_meanGap_27 rfl ?_
      refine ok_aald C 111 7 (fun _ => rfl) (by decide) dX6_meanGap_28 (fun q5 => ?_)
      refine ok_aload_n C 0 dX6_meanGap_29 rfl ?_
      refine ok_getR C frX6_58_10 dX6_meanGap_30 (fun q6 => ?_)
      refine ok_callV C T [.ref q6] (F := fX3_gapIn q5 q6) (ctX3_gapIn (C.2.2.2.2.2.2.2.2.1) q5 q6) vlX6_184 viX3_gapIn rfl rfl (by decide) rfl (by rw [hR.1, hR.2]; decide) (Nat.le_of_ble_eq_true rfl) dX6_meanGap_33 (ok_qI fun v7 s8 => ?_)
      refine ok_iadd C dX6_meanGap_36 ?_
      refine ok_lt (fun v9 => ?_)
      refine ok_istore_n C (i := 1) [(1, .int v9), (0, .ref a0), (2, .int x2)] dX6_meanGap_37 rfl (by rw [hn]; decide) rfl ?_
      refine ok_iincL C 2 (c := 1) (fun v10 => [(2, .int v10), (1, .int v9), (0, .ref a0)]) dX6_meanGap_38 rfl rfl (by rw [hn]; decide) (fun _ => rfl) (fun v10 => ?_)
      refine ok_goto C 8 dX6_meanGap_41 (by decide) ?_
      refine OK.sub (lv' := [(0, .ref a0), (1, .int v9), (2, .int v10)]) [2, 1, 0] rfl ?_
      exact ih a0 v9 v10 s8
set_option maxHeartbeats 4000000 in
theorem oX6_meanGap {Γ : CX} (C : OKC Γ cX6_meanGap RX6 (some (.double))) (T : ∀ z ∈ (cx_c Γ).exceptionTable.toList, False) (hn : cx_nL Γ = 3) (hR : cx_fr Γ = 7 ∧ cx_lo Γ = 110) (hin : (cx_meth Γ).name = yX6_meanGap.name) : ∀ (a0 : Nat) (s0 : AS), OK Γ 0 [(0, .ref a0)] [] (fX6_meanGap a0 s0) s0 := by
  intro a0 s0
  unfold fX6_meanGap
  refine ok_aload_n C 0 dX6_meanGap_0 rfl ?_
  refine ok_callV C T [] (F := fX6_needChase a0) (ctX6_needChase (C.2.2.2.2.2.2.2.2.1) a0) vlX6_112 viX6_needChase rfl rfl (by decide) rfl (by rw [hR.1, hR.2]; decide) (Nat.le_of_ble_eq_true rfl) dX6_meanGap_1 (ok_qV fun s1 => ?_)
  refine ok_iconst C (v := 0) dX6_meanGap_4 (by decide) ?_
  refine ok_istore_n C (i := 1) [(1, .int 0), (0, .ref a0)] dX6_meanGap_5 rfl (by rw [hn]; decide) rfl ?_
  refine ok_iconst C (v := 0) dX6_meanGap_6 (by decide) ?_
  refine ok_istore_n C (i := 2) [(2, .int 0), (1, .int 0), (0, .ref a0)] dX6_meanGap_7 rfl (by rw [hn]; decide) rfl ?_
  refine OK.sub (lv' := [(0, .ref a0), (1, .int 0), (2, .int 0)]) [2, 1, 0] rfl ?_
  exact oX6_meanGap_8 C T hn hR hin FU a0 0 0 s1
theorem ctX6_meanGap {l : Launch} (hl : l.stackTraces = false) {D : va_G} {dA : Nat → ClassId} {B0 : Nat} (a0 : Nat) : Ct l D dA B0 yX6_meanGap (.code yX6_meanGap cX6_meanGap 3 (some (.double)) :: ax_ALL) 7 110 [.ref a0] (fX6_meanGap a0) :=
  Ct.of hl (by decide +kernel) (Nat.le_of_ble_eq_true rfl) fun Γ C _ _ _ _ e5 e6 e7 T hin => oX6_meanGap C T e5 ⟨e6, e7⟩ hin a0 _
/-! ChaseLocker.share(II)F -/
def fX6_share (x0 : Int32) (x1 : Int32) (s0 : AS) : Option AR :=
  if x1 = 0 then (
    some (.inl (some (.float 0)), s0))
  else (
    if FP.fdiv (FP.i2f x0) (FP.i2f x1) &&& 0x7fffffff ≤ 0x7f800000 then (
    some (.inl (some (.float (FP.fdiv (FP.i2f x0) (FP.i2f x1)))), s0)) else none)
set_option maxHeartbeats 4000000 in
theorem oX6_share {Γ : CX} (C : OKC Γ cX6_share RX6 (some (.float))) (T : ∀ z ∈ (cx_c Γ).exceptionTable.toList, False) (hn : cx_nL Γ = 2) (hR : cx_fr Γ = 1 ∧ cx_lo Γ = 60) (hin : (cx_meth Γ).name = yX6_share.name) : ∀ (x0 : Int32) (x1 : Int32) (s0 : AS), OK Γ 0 [(0, .int x0), (1, .int x1)] [] (fX6_share x0 x1 s0) s0 := by
  intro x0 x1 s0
  unfold fX6_share
  refine ok_iload_n C 1 dX6_share_0 rfl ?_
  refine ok_if_ne C 8 dX6_share_1 (by decide) ?_ ?_
  · refine ok_iload_n C 0 dX6_share_8 rfl ?_
    refine ok_i2f C dX6_share_9 ?_
    refine ok_iload_n C 1 dX6_share_10 rfl ?_
    refine ok_i2f C dX6_share_11 ?_
    refine ok_fdiv C dX6_share_12 ?_
    exact ok_freturn C dX6_share_13
  · refine ok_fconst0 C dX6_share_4 ?_
    refine ok_goto C 13 dX6_share_5 (by decide) ?_
    exact ok_freturn C dX6_share_13
theorem ctX6_share {l : Launch} (hl : l.stackTraces = false) {D : va_G} {dA : Nat → ClassId} {B0 : Nat} (x0 : Int32) (x1 : Int32) : Ct l D dA B0 yX6_share (.code yX6_share cX6_share 2 (some (.float)) :: ax_ALL) 1 60 [.int x0, .int x1] (fX6_share x0 x1) :=
  Ct.of hl (by decide +kernel) (Nat.le_of_ble_eq_true rfl) fun Γ C _ _ _ _ e5 e6 e7 T hin => oX6_share C T e5 ⟨e6, e7⟩ hin x0 x1 _
/-! ChaseLocker.woodShare()F -/
def fX6_woodShare_44  (a0 : Nat) (x1 : Int32) (s0 : AS) : Option AR :=
  gR s0 a0 10 3 (fun q1 =>
  cV s0 q1 9 (fX5_piecesInRows q1 s0) (qI (fun v2 s3 =>
  cS s3 (fX6_share x1 v2 s3) (qF (fun y4 s5 =>
  some (.inl (some (.float y4)), s5))))))
def fX6_woodShare_8  : Nat → Nat → Int32 → Int32 → AS → Option AR
  | 0, _, _, _, _ => none
  | n + 1, a0, x1, x2, s0 =>
    gR s0 a0 10 8 (fun q1 =>
    gI s0 q1 5 1 (fun v2 =>
    if v2 ≤ x2 then (
      fX6_woodShare_44 a0 x1 s0)
    else (
      gR s0 a0 10 3 (fun q3 =>
      gR s0 q3 9 0 (fun q4 =>
      aR s0 q4 111 x2 (fun q5 =>
      gR s0 a0 10 8 (fun q6 =>
      cV s0 q5 7 (fX3_woodIn q5 q6 s0) (qI (fun v7 s8 =>
      lt (x1 + v7) (fun v9 =>
      lt (x2 + 1) (fun v10 =>
      fX6_woodShare_8 n a0 v9 v10 s8)))))))))))
def fX6_woodShare (a0 : Nat) (s0 : AS) : Option AR :=
  cV s0 a0 10 (fX6_needChase a0 s0) (qV (fun s1 =>
  fX6_woodShare_8 FU a0 0 0 s1))
set_option maxHeartbeats 4000000 in
theorem oX6_woodShare_44 {Γ : CX} (C : OKC Γ cX6_woodShare RX6 (some (.float))) (T : ∀ z ∈ (cx_c Γ).exceptionTable.toList, False) (hn : cx_nL Γ = 3) (hR : cx_fr Γ = 7 ∧ cx_lo Γ = 110) (hin : (cx_meth Γ).name = yX6_woodShare.name) : ∀ (a0 : Nat) (x1 : Int32) (s0 : AS), OK Γ 44 [(0, .ref a0), (1, .int x1)] [] (fX6_woodShare_44  a0 x1 s0) s0 := by
  intro a0 x1 s0
  unfold fX6_woodShare_44
  refine ok_iload_n C 1 dX6_woodShare_44 rfl ?_
  refine ok_aload_n C 0 dX6_woodShare_45 rfl ?_
  refine ok_getR C frX6_33_10 dX6_woodShare_46 (fun q1 => ?_)
  refine ok_callV C T [] (F := fX5_piecesInRows q1) (ctX5_piecesInRows (C.2.2.2.2.2.2.2.2.1) q1) vlX6_125 viX5_piecesInRows rfl rfl (by decide) rfl (by rw [hR.1, hR.2]; decide) (Nat.le_of_ble_eq_true rfl) dX6_woodShare_49 (ok_qI fun v2 s3 => ?_)
  refine ok_callS C T [.int x1, .int v2] (F := fX6_share x1 v2) (ctX6_share (C.2.2.2.2.2.2.2.2.1) x1 v2) vlX6_255 kw_588 rfl (by rw [hR.1, hR.2]; decide) (Nat.le_of_ble_eq_true rfl) dX6_woodShare_52 (ok_qF fun y4 s5 => ?_)
  exact ok_freturn C dX6_woodShare_55
set_option maxHeartbeats 4000000 in
theorem oX6_woodShare_8 {Γ : CX} (C : OKC Γ cX6_woodShare RX6 (some (.float))) (T : ∀ z ∈ (cx_c Γ).exceptionTable.toList, False) (hn : cx_nL Γ = 3) (hR : cx_fr Γ = 7 ∧ cx_lo Γ = 110) (hin : (cx_meth Γ).name = yX6_woodShare.name) : ∀ (n : Nat) (a0 : Nat) (x1 : Int32) (x2 : Int32) (s0 : AS), OK Γ 8 [(0, .ref a0), (1, .int x1), (2, .int x2)] [] (fX6_woodShare_8 n a0 x1 x2 s0) s0 := by
  intro n
  induction n with
  | zero => intro _ _ _ s0; exact OK.none
  | succ n ih =>
    intro a0 x1 x2 s0
    rw [fX6_woodShare_8]
    refine ok_iload_n C 2 dX6_woodShare_8 rfl ?_
    refine ok_aload_n C 0 dX6_woodShare_9 rfl ?_
    refine ok_getR C frX6_58_10 dX6_woodShare_10 (fun q1 => ?_)
    refine ok_getI C frX6_115_5 dX6_woodShare_13 (fun v2 => ?_)
    refine ok_icmp_ge C 44 dX6_woodShare_16 (by decide) ?_ ?_
    · refine OK.sub (lv' := [(0, .ref a0), (1, .int x1)]) [0, 1] rfl ?_
      exact oX6_woodShare_44 C T hn hR hin a0 x1 s0
    · refine ok_iload_n C 1 dX6_woodShare_19 rfl ?_
      refine ok_aload_n C 0 dX6_woodShare_20 rfl ?_
      refine ok_getR C frX6_33_10 dX6_woodShare_21 (fun q3 => ?_)
      refine ok_getR C frX6_246_9 dX6_woodShare_24 (fun q4 => ?_)
      refine ok_iload_n C 2 dX6_woodShare_27 rfl ?_
      refine ok_aald C 111 7 (fun _ => rfl) (by decide) dX6_woodShare_28 (fun q5 => ?_)
      refine ok_aload_n C 0 dX6_woodShare_29 rfl ?_
      refine ok_getR C frX6_58_10 dX6_woodShare_30 (fun q6 => ?_)
      refine ok_callV C T [.ref q6] (F := fX3_woodIn q5 q6) (ctX3_woodIn (C.2.2.2.2.2.2.2.2.1) q5 q6) vlX6_193 viX3_woodIn rfl rfl (by decide) rfl (by rw [hR.1, hR.2]; decide) (Nat.le_of_ble_eq_true rfl) dX6_woodShare_33 (ok_qI fun v7 s8 => ?_)
      refine ok_iadd C dX6_woodShare_36 ?_
      refine ok_lt (fun v9 => ?_)
      refine ok_istore_n C (i := 1) [(1, .int v9), (0, .ref a0), (2, .int x2)] dX6_woodShare_37 rfl (by rw [hn]; decide) rfl ?_
      refine ok_iincL C 2 (c := 1) (fun v10 => [(2, .int v10), (1, .int v9), (0, .ref a0)]) dX6_woodShare_38 rfl rfl (by rw [hn]; decide) (fun _ => rfl) (fun v10 => ?_)
      refine ok_goto C 8 dX6_woodShare_41 (by decide) ?_
      refine OK.sub (lv' := [(0, .ref a0), (1, .int v9), (2, .int v10)]) [2, 1, 0] rfl ?_
      exact ih a0 v9 v10 s8
set_option maxHeartbeats 4000000 in
theorem oX6_woodShare {Γ : CX} (C : OKC Γ cX6_woodShare RX6 (some (.float))) (T : ∀ z ∈ (cx_c Γ).exceptionTable.toList, False) (hn : cx_nL Γ = 3) (hR : cx_fr Γ = 7 ∧ cx_lo Γ = 110) (hin : (cx_meth Γ).name = yX6_woodShare.name) : ∀ (a0 : Nat) (s0 : AS), OK Γ 0 [(0, .ref a0)] [] (fX6_woodShare a0 s0) s0 := by
  intro a0 s0
  unfold fX6_woodShare
  refine ok_aload_n C 0 dX6_woodShare_0 rfl ?_
  refine ok_callV C T [] (F := fX6_needChase a0) (ctX6_needChase (C.2.2.2.2.2.2.2.2.1) a0) vlX6_112 viX6_needChase rfl rfl (by decide) rfl (by rw [hR.1, hR.2]; decide) (Nat.le_of_ble_eq_true rfl) dX6_woodShare_1 (ok_qV fun s1 => ?_)
  refine ok_iconst C (v := 0) dX6_woodShare_4 (by decide) ?_
  refine ok_istore_n C (i := 1) [(1, .int 0), (0, .ref a0)] dX6_woodShare_5 rfl (by rw [hn]; decide) rfl ?_
  refine ok_iconst C (v := 0) dX6_woodShare_6 (by decide) ?_
  refine ok_istore_n C (i := 2) [(2, .int 0), (1, .int 0), (0, .ref a0)] dX6_woodShare_7 rfl (by rw [hn]; decide) rfl ?_
  refine OK.sub (lv' := [(0, .ref a0), (1, .int 0), (2, .int 0)]) [2, 1, 0] rfl ?_
  exact oX6_woodShare_8 C T hn hR hin FU a0 0 0 s1
theorem ctX6_woodShare {l : Launch} (hl : l.stackTraces = false) {D : va_G} {dA : Nat → ClassId} {B0 : Nat} (a0 : Nat) : Ct l D dA B0 yX6_woodShare (.code yX6_woodShare cX6_woodShare 3 (some (.float)) :: ax_ALL) 7 110 [.ref a0] (fX6_woodShare a0) :=
  Ct.of hl (by decide +kernel) (Nat.le_of_ble_eq_true rfl) fun Γ C _ _ _ _ e5 e6 e7 T hin => oX6_woodShare C T e5 ⟨e6, e7⟩ hin a0 _
/-! ChaseLocker.goodShare()F -/
def fX6_goodShare (a0 : Nat) (s0 : AS) : Option AR :=
  cV s0 a0 10 (fX6_needChase a0 s0) (qV (fun s1 =>
  gR s1 a0 10 3 (fun q2 =>
  gI s1 q2 9 4 (fun v3 =>
  gR s1 a0 10 3 (fun q4 =>
  gI s1 q4 9 3 (fun v5 =>
  cS s1 (fX6_share v3 v5 s1) (qF (fun y6 s7 =>
  some (.inl (some (.float y6)), s7)))))))))
set_option maxHeartbeats 4000000 in
theorem oX6_goodShare {Γ : CX} (C : OKC Γ cX6_goodShare RX6 (some (.float))) (T : ∀ z ∈ (cx_c Γ).exceptionTable.toList, False) (hn : cx_nL Γ = 1) (hR : cx_fr Γ = 7 ∧ cx_lo Γ = 110) (hin : (cx_meth Γ).name = yX6_goodShare.name) : ∀ (a0 : Nat) (s0 : AS), OK Γ 0 [(0, .ref a0)] [] (fX6_goodShare a0 s0) s0 := by
  intro a0 s0
  unfold fX6_goodShare
  refine ok_aload_n C 0 dX6_goodShare_0 rfl ?_
  refine ok_callV C T [] (F := fX6_needChase a0) (ctX6_needChase (C.2.2.2.2.2.2.2.2.1) a0) vlX6_112 viX6_needChase rfl rfl (by decide) rfl (by rw [hR.1, hR.2]; decide) (Nat.le_of_ble_eq_true rfl) dX6_goodShare_1 (ok_qV fun s1 => ?_)
  refine ok_aload_n C 0 dX6_goodShare_4 rfl ?_
  refine ok_getR C frX6_33_10 dX6_goodShare_5 (fun q2 => ?_)
  refine ok_getI C frX6_135_9 dX6_goodShare_8 (fun v3 => ?_)
  refine ok_aload_n C 0 dX6_goodShare_11 rfl ?_
  refine ok_getR C frX6_33_10 dX6_goodShare_12 (fun q4 => ?_)
  refine ok_getI C frX6_132_9 dX6_goodShare_15 (fun v5 => ?_)
  refine ok_callS C T [.int v3, .int v5] (F := fX6_share v3 v5) (ctX6_share (C.2.2.2.2.2.2.2.2.1) v3 v5) vlX6_255 kw_588 rfl (by rw [hR.1, hR.2]; decide) (Nat.le_of_ble_eq_true rfl) dX6_goodShare_18 (ok_qF fun y6 s7 => ?_)
  exact ok_freturn C dX6_goodShare_21
theorem ctX6_goodShare {l : Launch} (hl : l.stackTraces = false) {D : va_G} {dA : Nat → ClassId} {B0 : Nat} (a0 : Nat) : Ct l D dA B0 yX6_goodShare (.code yX6_goodShare cX6_goodShare 1 (some (.float)) :: ax_ALL) 7 110 [.ref a0] (fX6_goodShare a0) :=
  Ct.of hl (by decide +kernel) (Nat.le_of_ble_eq_true rfl) fun Γ C _ _ _ _ e5 e6 e7 T hin => oX6_goodShare C T e5 ⟨e6, e7⟩ hin a0 _
/-! ChaseLocker.solve(LChaseLocker$State;LChaseLocker$Row;)Z -/
def fX6_solve (a0 : Nat) (a1 : Nat) (a2 : Nat) (s0 : AS) : Option AR :=
  gR s0 a0 10 1 (fun q1 =>
  cV s0 q1 8 (fX4_stockFrom q1 a1 s0) (qV (fun s2 =>
  gR s2 a0 10 1 (fun q3 =>
  gR s2 a0 10 8 (fun q4 =>
  cV s2 q3 8 (fX4_study q3 q4 s2) (qV (fun s5 =>
  gR s5 a0 10 1 (fun q6 =>
  gR s5 a0 10 8 (fun q7 =>
  gR s5 a0 10 8 (fun q8 =>
  cV s5 a2 7 (fX3_roomIn a2 q8 s5) (qI (fun v9 s10 =>
  cV s10 a1 9 (fX5_canHaveQuoin a1 a2 s10) (qI (fun v11 s12 =>
  cV s12 q6 8 (fX4_choose q6 q7 v9 v11 s12) (qI (fun v13 s14 =>
  rZ v13 s14))))))))))))))))
set_option maxHeartbeats 4000000 in
theorem oX6_solve {Γ : CX} (C : OKC Γ cX6_solve RX6 (some (.boolean))) (T : ∀ z ∈ (cx_c Γ).exceptionTable.toList, False) (hn : cx_nL Γ = 3) (hR : cx_fr Γ = 6 ∧ cx_lo Γ = 158) (hin : (cx_meth Γ).name = yX6_solve.name) : ∀ (a0 : Nat) (a1 : Nat) (a2 : Nat) (s0 : AS), OK Γ 0 [(0, .ref a0), (1, .ref a1), (2, .ref a2)] [] (fX6_solve a0 a1 a2 s0) s0 := by
  intro a0 a1 a2 s0
  unfold fX6_solve
  refine ok_aload_n C 0 dX6_solve_0 rfl ?_
  refine ok_getR C frX6_19_10 dX6_solve_1 (fun q1 => ?_)
  refine ok_aload_n C 1 dX6_solve_4 rfl ?_
  refine ok_callV C T [.ref a1] (F := fX4_stockFrom q1 a1) (ctX4_stockFrom (C.2.2.2.2.2.2.2.2.1) q1 a1) vlX6_278 viX4_stockFrom rfl rfl (by decide) rfl (by rw [hR.1, hR.2]; decide) (Nat.le_of_ble_eq_true rfl) dX6_solve_5 (ok_qV fun s2 => ?_)
  refine ok_aload_n C 0 dX6_solve_8 rfl ?_
  refine ok_getR C frX6_19_10 dX6_solve_9 (fun q3 => ?_)
  refine ok_aload_n C 0 dX6_solve_12 rfl ?_
  refine ok_getR C frX6_58_10 dX6_solve_13 (fun q4 => ?_)
  refine ok_callV C T [.ref q4] (F := fX4_study q3 q4) (ctX4_study (C.2.2.2.2.2.2.2.2.1) q3 q4) vlX6_292 viX4_study rfl rfl (by decide) rfl (by rw [hR.1, hR.2]; decide) (Nat.le_of_ble_eq_true rfl) dX6_solve_16 (ok_qV fun s5 => ?_)
  refine ok_aload_n C 0 dX6_solve_19 rfl ?_
  refine ok_getR C frX6_19_10 dX6_solve_20 (fun q6 => ?_)
  refine ok_aload_n C 0 dX6_solve_23 rfl ?_
  refine ok_getR C frX6_58_10 dX6_solve_24 (fun q7 => ?_)
  refine ok_aload_n C 2 dX6_solve_27 rfl ?_
  refine ok_aload_n C 0 dX6_solve_28 rfl ?_
  refine ok_getR C frX6_58_10 dX6_solve_29 (fun q8 => ?_)
  refine ok_callV C T [.ref q8] (F := fX3_roomIn a2 q8) (ctX3_roomIn (C.2.2.2.2.2.2.2.2.1) a2 q8) vlX6_281 viX3_roomIn rfl rfl (by decide) rfl (by rw [hR.1, hR.2]; decide) (Nat.le_of_ble_eq_true rfl) dX6_solve_32 (ok_qI fun v9 s10 => ?_)
  refine ok_aload_n C 1 dX6_solve_35 rfl ?_
  refine ok_aload_n C 2 dX6_solve_36 rfl ?_
  refine ok_callV C T [.ref a2] (F := fX5_canHaveQuoin a1 a2) (ctX5_canHaveQuoin (C.2.2.2.2.2.2.2.2.1) a1 a2) vlX6_284 viX5_canHaveQuoin rfl rfl (by decide) rfl (by rw [hR.1, hR.2]; decide) (Nat.le_of_ble_eq_true rfl) dX6_solve_37 (ok_qI fun v11 s12 => ?_)
  refine ok_callV C T [.ref q7, .int v9, .int v11] (F := fX4_choose q6 q7 v9 v11) (ctX4_choose (C.2.2.2.2.2.2.2.2.1) q6 q7 v9 v11) vlX6_318 viX4_choose rfl rfl (by decide) rfl (by rw [hR.1, hR.2]; decide) (Nat.le_of_ble_eq_true rfl) dX6_solve_40 (ok_qI fun v13 s14 => ?_)
  exact ok_zreturn C dX6_solve_43
theorem ctX6_solve {l : Launch} (hl : l.stackTraces = false) {D : va_G} {dA : Nat → ClassId} {B0 : Nat} (a0 : Nat) (a1 : Nat) (a2 : Nat) : Ct l D dA B0 yX6_solve (.code yX6_solve cX6_solve 3 (some (.boolean)) :: ax_ALL) 6 158 [.ref a0, .ref a1, .ref a2] (fX6_solve a0 a1 a2) :=
  Ct.of hl (by decide +kernel) (Nat.le_of_ble_eq_true rfl) fun Γ C _ _ _ _ e5 e6 e7 T hin => oX6_solve C T e5 ⟨e6, e7⟩ hin a0 a1 a2 _
/-! ChaseLocker.choice(II)I -/
def fX6_choice (a0 : Nat) (x1 : Int32) (x2 : Int32) (s0 : AS) : Option AR :=
  cV s0 a0 10 (fX6_needRow a0 x1 s0) (qR (fun q1 s2 =>
  if x2 < 0 then (
    tE "java/lang/IllegalArgumentException" s2)
  else (
    if x2 ≤ (3 : Int32) then (
      gR s2 a0 10 3 (fun q3 =>
      cV s2 a0 10 (fX6_solve a0 q3 q1 s2) (qI (fun v4 s5 =>
      if v4 = 0 then (
        some (.inl (some (.int ((-1)))), s5))
      else (
        if x2 = 0 then (
          gR s5 a0 10 1 (fun q6 =>
          gI s5 q6 8 5 (fun v7 =>
          some (.inl (some (.int v7)), s5))))
        else (
        if x2 = 1 then (
          gR s5 a0 10 1 (fun q8 =>
          gI s5 q8 8 7 (fun v9 =>
          some (.inl (some (.int v9)), s5))))
        else (
        if x2 = 2 then (
          gR s5 a0 10 1 (fun q10 =>
          gI s5 q10 8 6 (fun v11 =>
          some (.inl (some (.int v11)), s5))))
        else (
        gR s5 a0 10 1 (fun q12 =>
        gR s5 a0 10 8 (fun q13 =>
        cV s5 q12 8 (fX4_woodTaken q12 q13 s5) (qI (fun v14 s15 =>
        some (.inl (some (.int v14)), s15)))))))))))))
    else (
      tE "java/lang/IllegalArgumentException" s2))))
set_option maxHeartbeats 4000000 in
theorem oX6_choice {Γ : CX} (C : OKC Γ cX6_choice RX6 (some (.int))) (T : ∀ z ∈ (cx_c Γ).exceptionTable.toList, False) (hn : cx_nL Γ = 4) (hR : cx_fr Γ = 8 ∧ cx_lo Γ = 180) (hin : (cx_meth Γ).name = yX6_choice.name) : ∀ (a0 : Nat) (x1 : Int32) (x2 : Int32) (s0 : AS), OK Γ 0 [(0, .ref a0), (1, .int x1), (2, .int x2)] [] (fX6_choice a0 x1 x2 s0) s0 := by
  intro a0 x1 x2 s0
  unfold fX6_choice
  refine ok_aload_n C 0 dX6_choice_0 rfl ?_
  refine ok_iload_n C 1 dX6_choice_1 rfl ?_
  refine ok_callV C T [.int x1] (F := fX6_needRow a0 x1) (ctX6_needRow (C.2.2.2.2.2.2.2.2.1) a0 x1) vlX6_172 viX6_needRow rfl rfl (by decide) rfl (by rw [hR.1, hR.2]; decide) (Nat.le_of_ble_eq_true rfl) dX6_choice_2 (ok_qR fun q1 s2 => ?_)
  refine ok_astore_n C (i := 3) [(3, .ref q1), (0, .ref a0), (1, .int x1), (2, .int x2)] dX6_choice_5 rfl (by rw [hn]; decide) rfl ?_
  refine ok_iload_n C 3 dX6_choice_6 rfl ?_
  refine ok_if_lt C 15 dX6_choice_7 (by decide) ?_ ?_
  · exact ok_throwSW C T tlX6_84_88 (i := 6) rfl dX6_choice_15 dX6_choice_18 dX6_choice_19 dX6_choice_22 dX6_choice_25 (by rw [hR.1]; decide) (by rw [hR.2]; exact Nat.le_of_ble_eq_true rfl)
  · refine ok_iload_n C 3 dX6_choice_10 rfl ?_
    refine ok_iconst C (v := 3) dX6_choice_11 (by decide) ?_
    refine ok_icmp_le C 26 dX6_choice_12 (by decide) ?_ ?_
    · refine ok_aload_n C 1 dX6_choice_26 rfl ?_
      refine ok_aload_n C 1 dX6_choice_27 rfl ?_
      refine ok_getR C frX6_33_10 dX6_choice_28 (fun q3 => ?_)
      refine ok_aload_n C 0 dX6_choice_31 rfl ?_
      refine ok_callV C T [.ref q3, .ref q1] (F := fX6_solve a0 q3 q1) (ctX6_solve (C.2.2.2.2.2.2.2.2.1) a0 q3 q1) vlX6_261 viX6_solve rfl rfl (by decide) rfl (by rw [hR.1, hR.2]; decide) (Nat.le_of_ble_eq_true rfl) dX6_choice_32 (ok_qI fun v4 s5 => ?_)
      refine ok_if_ne C 40 dX6_choice_35 (by decide) ?_ ?_
      · refine ok_iload_n C 3 dX6_choice_40 rfl ?_
        refine ok_tsw C 0 68 dX6_choice_41 ⟨by decide, by decide⟩ rfl (by decide) ?_ (fun hc0 => ?_)
        · refine ok_aload_n C 1 dX6_choice_68 rfl ?_
          refine ok_getR C frX6_19_10 dX6_choice_69 (fun q6 => ?_)
          refine ok_getI C frX6_265_8 dX6_choice_72 (fun v7 => ?_)
          exact ok_ireturn C dX6_choice_75
        refine ok_tsw C 1 76 dX6_choice_41 ⟨by decide, by decide⟩ rfl (by decide) ?_ (fun hc1 => ?_)
        · refine ok_aload_n C 1 dX6_choice_76 rfl ?_
          refine ok_getR C frX6_19_10 dX6_choice_77 (fun q8 => ?_)
          refine ok_getI C frX6_268_8 dX6_choice_80 (fun v9 => ?_)
          exact ok_ireturn C dX6_choice_83
        refine ok_tsw C 2 84 dX6_choice_41 ⟨by decide, by decide⟩ rfl (by decide) ?_ (fun hc2 => ?_)
        · refine ok_aload_n C 1 dX6_choice_84 rfl ?_
          refine ok_getR C frX6_19_10 dX6_choice_85 (fun q10 => ?_)
          refine ok_getI C frX6_269_8 dX6_choice_88 (fun v11 => ?_)
          exact ok_ireturn C dX6_choice_91
        refine ok_tdf C 92 dX6_choice_41 (by have nhc0 := ax_ne hc0; have nhc1 := ax_ne hc1; have nhc2 := ax_ne hc2; rw [show ((0 : Int32)).toInt = 0 from rfl] at nhc0; rw [show ((1 : Int32)).toInt = 1 from rfl] at nhc1; rw [show ((2 : Int32)).toInt = 2 from rfl] at nhc2; omega) (by decide) ?_
        refine ok_aload_n C 1 dX6_choice_92 rfl ?_
        refine ok_getR C frX6_19_10 dX6_choice_93 (fun q12 => ?_)
        refine ok_aload_n C 1 dX6_choice_96 rfl ?_
        refine ok_getR C frX6_58_10 dX6_choice_97 (fun q13 => ?_)
        refine ok_callV C T [.ref q13] (F := fX4_woodTaken q12 q13) (ctX4_woodTaken (C.2.2.2.2.2.2.2.2.1) q12 q13) vlX6_272 viX4_woodTaken rfl rfl (by decide) rfl (by rw [hR.1, hR.2]; decide) (Nat.le_of_ble_eq_true rfl) dX6_choice_100 (ok_qI fun v14 s15 => ?_)
        exact ok_ireturn C dX6_choice_103
      · refine ok_iconst C (v := (-1)) dX6_choice_38 (by decide) ?_
        exact ok_ireturn C dX6_choice_39
    · exact ok_throwSW C T tlX6_84_88 (i := 6) rfl dX6_choice_15 dX6_choice_18 dX6_choice_19 dX6_choice_22 dX6_choice_25 (by rw [hR.1]; decide) (by rw [hR.2]; exact Nat.le_of_ble_eq_true rfl)
theorem ctX6_choice {l : Launch} (hl : l.stackTraces = false) {D : va_G} {dA : Nat → ClassId} {B0 : Nat} (a0 : Nat) (x1 : Int32) (x2 : Int32) : Ct l D dA B0 yX6_choice (.code yX6_choice cX6_choice 4 (some (.int)) :: ax_ALL) 8 180 [.ref a0, .int x1, .int x2] (fX6_choice a0 x1 x2) :=
  Ct.of hl (by decide +kernel) (Nat.le_of_ble_eq_true rfl) fun Γ C _ _ _ _ e5 e6 e7 T hin => oX6_choice C T e5 ⟨e6, e7⟩ hin a0 x1 x2 _
/-! ChaseLocker.needBlockLength(I)V -/
def fX6_needBlockLength (x0 : Int32) (s0 : AS) : Option AR :=
  if x0 < (1 : Int32) then (
    tE "java/lang/IllegalArgumentException" s0)
  else (
    if x0 ≤ (200 : Int32) then (
      some (.inl none, s0))
    else (
      tE "java/lang/IllegalArgumentException" s0))
set_option maxHeartbeats 4000000 in
theorem oX6_needBlockLength {Γ : CX} (C : OKC Γ cX6_needBlockLength RX6 none) (T : ∀ z ∈ (cx_c Γ).exceptionTable.toList, False) (hn : cx_nL Γ = 1) (hR : cx_fr Γ = 6 ∧ cx_lo Γ = 90) (hin : (cx_meth Γ).name = yX6_needBlockLength.name) : ∀ (x0 : Int32) (s0 : AS), OK Γ 0 [(0, .int x0)] [] (fX6_needBlockLength x0 s0) s0 := by
  intro x0 s0
  unfold fX6_needBlockLength
  refine ok_iload_n C 0 dX6_needBlockLength_0 rfl ?_
  refine ok_iconst C (v := 1) dX6_needBlockLength_1 (by decide) ?_
  refine ok_icmp_lt C 12 dX6_needBlockLength_2 (by decide) ?_ ?_
  · exact ok_throwSW C T tlX6_84_88 (i := 24) rfl dX6_needBlockLength_12 dX6_needBlockLength_15 dX6_needBlockLength_16 dX6_needBlockLength_19 dX6_needBlockLength_22 (by rw [hR.1]; decide) (by rw [hR.2]; exact Nat.le_of_ble_eq_true rfl)
  · refine ok_iload_n C 0 dX6_needBlockLength_5 rfl ?_
    refine ok_sipush C (v := 200) dX6_needBlockLength_6 (by decide) ?_
    refine ok_icmp_le C 23 dX6_needBlockLength_9 (by decide) ?_ ?_
    · exact ok_vreturn C dX6_needBlockLength_23
    · exact ok_throwSW C T tlX6_84_88 (i := 24) rfl dX6_needBlockLength_12 dX6_needBlockLength_15 dX6_needBlockLength_16 dX6_needBlockLength_19 dX6_needBlockLength_22 (by rw [hR.1]; decide) (by rw [hR.2]; exact Nat.le_of_ble_eq_true rfl)
theorem ctX6_needBlockLength {l : Launch} (hl : l.stackTraces = false) {D : va_G} {dA : Nat → ClassId} {B0 : Nat} (x0 : Int32) : Ct l D dA B0 yX6_needBlockLength (.code yX6_needBlockLength cX6_needBlockLength 1 (none) :: ax_ALL) 6 90 [.int x0] (fX6_needBlockLength x0) :=
  Ct.of hl (by decide +kernel) (Nat.le_of_ble_eq_true rfl) fun Γ C _ _ _ _ e5 e6 e7 T hin => oX6_needBlockLength C T e5 ⟨e6, e7⟩ hin x0 _
/-! ChaseLocker.fewestWith(LChaseLocker$Row;I)I -/
def fX6_fewestWith (a0 : Nat) (a1 : Nat) (x2 : Int32) (s0 : AS) : Option AR :=
  gR s0 a0 10 8 (fun q1 =>
  cV s0 a1 7 (fX3_takesBlock a1 q1 x2 s0) (qI (fun v2 s3 =>
  if v2 = 0 then (
    some (.inl (some (.int ((-1)))), s3))
  else (
    gR s3 a0 10 1 (fun q4 =>
    gR s3 a0 10 8 (fun q5 =>
    gR s3 a0 10 8 (fun q6 =>
    cV s3 a1 7 (fX3_roomIn a1 q6 s3) (qI (fun v7 s8 =>
    gR s8 a0 10 3 (fun q9 =>
    cV s8 q9 9 (fX5_canHaveQuoin q9 a1 s8) (qI (fun v10 s11 =>
    cV s11 q4 8 (fX4_choose q4 q5 (v7 - x2) v10 s11) (qI (fun v12 s13 =>
    if v12 = 0 then (
      some (.inl (some (.int ((-1)))), s13))
    else (
      gR s13 a0 10 1 (fun q14 =>
      gI s13 q14 8 5 (fun v15 =>
      some (.inl (some (.int v15)), s13))))))))))))))))))
set_option maxHeartbeats 4000000 in
theorem oX6_fewestWith {Γ : CX} (C : OKC Γ cX6_fewestWith RX6 (some (.int))) (T : ∀ z ∈ (cx_c Γ).exceptionTable.toList, False) (hn : cx_nL Γ = 4) (hR : cx_fr Γ = 5 ∧ cx_lo Γ = 133) (hin : (cx_meth Γ).name = yX6_fewestWith.name) : ∀ (a0 : Nat) (a1 : Nat) (x2 : Int32) (s0 : AS), OK Γ 0 [(0, .ref a0), (1, .ref a1), (2, .int x2)] [] (fX6_fewestWith a0 a1 x2 s0) s0 := by
  intro a0 a1 x2 s0
  unfold fX6_fewestWith
  refine ok_aload_n C 1 dX6_fewestWith_0 rfl ?_
  refine ok_aload_n C 0 dX6_fewestWith_1 rfl ?_
  refine ok_getR C frX6_58_10 dX6_fewestWith_2 (fun q1 => ?_)
  refine ok_iload_n C 2 dX6_fewestWith_5 rfl ?_
  refine ok_callV C T [.ref q1, .int x2] (F := fX3_takesBlock a1 q1 x2) (ctX3_takesBlock (C.2.2.2.2.2.2.2.2.1) a1 q1 x2) vlX6_314 viX3_takesBlock rfl rfl (by decide) rfl (by rw [hR.1, hR.2]; decide) (Nat.le_of_ble_eq_true rfl) dX6_fewestWith_6 (ok_qI fun v2 s3 => ?_)
  refine ok_if_ne C 14 dX6_fewestWith_9 (by decide) ?_ ?_
  · refine ok_aload_n C 0 dX6_fewestWith_14 rfl ?_
    refine ok_getR C frX6_19_10 dX6_fewestWith_15 (fun q4 => ?_)
    refine ok_aload_n C 0 dX6_fewestWith_18 rfl ?_
    refine ok_getR C frX6_58_10 dX6_fewestWith_19 (fun q5 => ?_)
    refine ok_aload_n C 1 dX6_fewestWith_22 rfl ?_
    refine ok_aload_n C 0 dX6_fewestWith_23 rfl ?_
    refine ok_getR C frX6_58_10 dX6_fewestWith_24 (fun q6 => ?_)
    refine ok_callV C T [.ref q6] (F := fX3_roomIn a1 q6) (ctX3_roomIn (C.2.2.2.2.2.2.2.2.1) a1 q6) vlX6_281 viX3_roomIn rfl rfl (by decide) rfl (by rw [hR.1, hR.2]; decide) (Nat.le_of_ble_eq_true rfl) dX6_fewestWith_27 (ok_qI fun v7 s8 => ?_)
    refine ok_iload_n C 2 dX6_fewestWith_30 rfl ?_
    refine ok_isub C dX6_fewestWith_31 ?_
    refine ok_aload_n C 0 dX6_fewestWith_32 rfl ?_
    refine ok_getR C frX6_33_10 dX6_fewestWith_33 (fun q9 => ?_)
    refine ok_aload_n C 1 dX6_fewestWith_36 rfl ?_
    refine ok_callV C T [.ref a1] (F := fX5_canHaveQuoin q9 a1) (ctX5_canHaveQuoin (C.2.2.2.2.2.2.2.2.1) q9 a1) vlX6_284 viX5_canHaveQuoin rfl rfl (by decide) rfl (by rw [hR.1, hR.2]; decide) (Nat.le_of_ble_eq_true rfl) dX6_fewestWith_37 (ok_qI fun v10 s11 => ?_)
    refine ok_callV C T [.ref q5, .int (v7 - x2), .int v10] (F := fX4_choose q4 q5 (v7 - x2) v10) (ctX4_choose (C.2.2.2.2.2.2.2.2.1) q4 q5 (v7 - x2) v10) vlX6_318 viX4_choose rfl rfl (by decide) rfl (by rw [hR.1, hR.2]; decide) (Nat.le_of_ble_eq_true rfl) dX6_fewestWith_40 (ok_qI fun v12 s13 => ?_)
    refine ok_istore_n C (i := 3) [(3, .int v12), (0, .ref a0), (1, .ref a1), (2, .int x2)] dX6_fewestWith_43 rfl (by rw [hn]; decide) rfl ?_
    refine ok_iload_n C 0 dX6_fewestWith_44 rfl ?_
    refine ok_if_eq C 58 dX6_fewestWith_45 (by decide) ?_ ?_
    · refine ok_iconst C (v := (-1)) dX6_fewestWith_58 (by decide) ?_
      exact ok_ireturn C dX6_fewestWith_59
    · refine ok_aload_n C 1 dX6_fewestWith_48 rfl ?_
      refine ok_getR C frX6_19_10 dX6_fewestWith_49 (fun q14 => ?_)
      refine ok_getI C frX6_265_8 dX6_fewestWith_52 (fun v15 => ?_)
      refine ok_goto C 59 dX6_fewestWith_55 (by decide) ?_
      exact ok_ireturn C dX6_fewestWith_59
  · refine ok_iconst C (v := (-1)) dX6_fewestWith_12 (by decide) ?_
    exact ok_ireturn C dX6_fewestWith_13
theorem ctX6_fewestWith {l : Launch} (hl : l.stackTraces = false) {D : va_G} {dA : Nat → ClassId} {B0 : Nat} (a0 : Nat) (a1 : Nat) (x2 : Int32) : Ct l D dA B0 yX6_fewestWith (.code yX6_fewestWith cX6_fewestWith 4 (some (.int)) :: ax_ALL) 5 133 [.ref a0, .ref a1, .int x2] (fX6_fewestWith a0 a1 x2) :=
  Ct.of hl (by decide +kernel) (Nat.le_of_ble_eq_true rfl) fun Γ C _ _ _ _ e5 e6 e7 T hin => oX6_fewestWith C T e5 ⟨e6, e7⟩ hin a0 a1 x2 _
/-! ChaseLocker.fewestAt(II)I -/
def fX6_fewestAt (a0 : Nat) (x1 : Int32) (x2 : Int32) (s0 : AS) : Option AR :=
  cV s0 a0 10 (fX6_needRow a0 x1 s0) (qR (fun q1 s2 =>
  cS s2 (fX6_needBlockLength x2 s2) (qV (fun s3 =>
  gR s3 a0 10 1 (fun q4 =>
  gR s3 a0 10 3 (fun q5 =>
  cV s3 q4 8 (fX4_stockFrom q4 q5 s3) (qV (fun s6 =>
  gR s6 a0 10 1 (fun q7 =>
  gR s6 a0 10 8 (fun q8 =>
  cV s6 q7 8 (fX4_study q7 q8 s6) (qV (fun s9 =>
  cV s9 a0 10 (fX6_fewestWith a0 q1 x2 s9) (qI (fun v10 s11 =>
  some (.inl (some (.int v10)), s11)))))))))))))))
set_option maxHeartbeats 4000000 in
theorem oX6_fewestAt {Γ : CX} (C : OKC Γ cX6_fewestAt RX6 (some (.int))) (T : ∀ z ∈ (cx_c Γ).exceptionTable.toList, False) (hn : cx_nL Γ = 4) (hR : cx_fr Γ = 8 ∧ cx_lo Γ = 158) (hin : (cx_meth Γ).name = yX6_fewestAt.name) : ∀ (a0 : Nat) (x1 : Int32) (x2 : Int32) (s0 : AS), OK Γ 0 [(0, .ref a0), (1, .int x1), (2, .int x2)] [] (fX6_fewestAt a0 x1 x2 s0) s0 := by
  intro a0 x1 x2 s0
  unfold fX6_fewestAt
  refine ok_aload_n C 0 dX6_fewestAt_0 rfl ?_
  refine ok_iload_n C 1 dX6_fewestAt_1 rfl ?_
  refine ok_callV C T [.int x1] (F := fX6_needRow a0 x1) (ctX6_needRow (C.2.2.2.2.2.2.2.2.1) a0 x1) vlX6_172 viX6_needRow rfl rfl (by decide) rfl (by rw [hR.1, hR.2]; decide) (Nat.le_of_ble_eq_true rfl) dX6_fewestAt_2 (ok_qR fun q1 s2 => ?_)
  refine ok_astore_n C (i := 3) [(3, .ref q1), (0, .ref a0), (1, .int x1), (2, .int x2)] dX6_fewestAt_5 rfl (by rw [hn]; decide) rfl ?_
  refine ok_iload_n C 3 dX6_fewestAt_6 rfl ?_
  refine ok_callS C T [.int x2] (F := fX6_needBlockLength x2) (ctX6_needBlockLength (C.2.2.2.2.2.2.2.2.1) x2) vlX6_306 kw_619 rfl (by rw [hR.1, hR.2]; decide) (Nat.le_of_ble_eq_true rfl) dX6_fewestAt_7 (ok_qV fun s3 => ?_)
  refine ok_aload_n C 1 dX6_fewestAt_10 rfl ?_
  refine ok_getR C frX6_19_10 dX6_fewestAt_11 (fun q4 => ?_)
  refine ok_aload_n C 1 dX6_fewestAt_14 rfl ?_
  refine ok_getR C frX6_33_10 dX6_fewestAt_15 (fun q5 => ?_)
  refine ok_callV C T [.ref q5] (F := fX4_stockFrom q4 q5) (ctX4_stockFrom (C.2.2.2.2.2.2.2.2.1) q4 q5) vlX6_278 viX4_stockFrom rfl rfl (by decide) rfl (by rw [hR.1, hR.2]; decide) (Nat.le_of_ble_eq_true rfl) dX6_fewestAt_18 (ok_qV fun s6 => ?_)
  refine ok_aload_n C 1 dX6_fewestAt_21 rfl ?_
  refine ok_getR C frX6_19_10 dX6_fewestAt_22 (fun q7 => ?_)
  refine ok_aload_n C 1 dX6_fewestAt_25 rfl ?_
  refine ok_getR C frX6_58_10 dX6_fewestAt_26 (fun q8 => ?_)
  refine ok_callV C T [.ref q8] (F := fX4_study q7 q8) (ctX4_study (C.2.2.2.2.2.2.2.2.1) q7 q8) vlX6_292 viX4_study rfl rfl (by decide) rfl (by rw [hR.1, hR.2]; decide) (Nat.le_of_ble_eq_true rfl) dX6_fewestAt_29 (ok_qV fun s9 => ?_)
  refine ok_aload_n C 1 dX6_fewestAt_32 rfl ?_
  refine ok_aload_n C 0 dX6_fewestAt_33 rfl ?_
  refine ok_iload_n C 3 dX6_fewestAt_34 rfl ?_
  refine ok_callV C T [.ref q1, .int x2] (F := fX6_fewestWith a0 q1 x2) (ctX6_fewestWith (C.2.2.2.2.2.2.2.2.1) a0 q1 x2) vlX6_309 viX6_fewestWith rfl rfl (by decide) rfl (by rw [hR.1, hR.2]; decide) (Nat.le_of_ble_eq_true rfl) dX6_fewestAt_35 (ok_qI fun v10 s11 => ?_)
  exact ok_ireturn C dX6_fewestAt_38
theorem ctX6_fewestAt {l : Launch} (hl : l.stackTraces = false) {D : va_G} {dA : Nat → ClassId} {B0 : Nat} (a0 : Nat) (x1 : Int32) (x2 : Int32) : Ct l D dA B0 yX6_fewestAt (.code yX6_fewestAt cX6_fewestAt 4 (some (.int)) :: ax_ALL) 8 158 [.ref a0, .int x1, .int x2] (fX6_fewestAt a0 x1 x2) :=
  Ct.of hl (by decide +kernel) (Nat.le_of_ble_eq_true rfl) fun Γ C _ _ _ _ e5 e6 e7 T hin => oX6_fewestAt C T e5 ⟨e6, e7⟩ hin a0 x1 x2 _
/-! ChaseLocker.rowFor(I)I -/
def fX6_rowFor_86 (r39 : Nat → Int32 → Int32 → Int32 → Int32 → AS → Option AR) (a0 : Nat) (x1 : Int32) (x2 : Int32) (x3 : Int32) (x4 : Int32) (s0 : AS) : Option AR :=
  lt (x4 + 1) (fun v1 =>
  r39 a0 x1 x2 x3 v1 s0)
def fX6_rowFor_39  : Nat → Nat → Int32 → Int32 → Int32 → Int32 → AS → Option AR
  | 0, _, _, _, _, _, _ => none
  | n + 1, a0, x1, x2, x3, x4, s0 =>
    gR s0 a0 10 8 (fun q1 =>
    gI s0 q1 5 1 (fun v2 =>
    if v2 ≤ x4 then (
      some (.inl (some (.int x2)), s0))
    else (
      gR s0 a0 10 3 (fun q3 =>
      gR s0 q3 9 0 (fun q4 =>
      aR s0 q4 111 x4 (fun q5 =>
      cV s0 a0 10 (fX6_fewestWith a0 q5 x1 s0) (qI (fun v6 s7 =>
      if v6 = (-1 : Int32) then (
        fX6_rowFor_86 (fX6_rowFor_39 n) a0 x1 x2 x3 x4 s7)
      else (
        if x3 ≤ v6 then (
          fX6_rowFor_86 (fX6_rowFor_39 n) a0 x1 x2 x3 x4 s7)
        else (
          fX6_rowFor_86 (fX6_rowFor_39 n) a0 x1 x4 v6 x4 s7))))))))))
def fX6_rowFor (a0 : Nat) (x1 : Int32) (s0 : AS) : Option AR :=
  cV s0 a0 10 (fX6_needChase a0 s0) (qV (fun s1 =>
  cS s1 (fX6_needBlockLength x1 s1) (qV (fun s2 =>
  gR s2 a0 10 1 (fun q3 =>
  gR s2 a0 10 3 (fun q4 =>
  cV s2 q3 8 (fX4_stockFrom q3 q4 s2) (qV (fun s5 =>
  gR s5 a0 10 1 (fun q6 =>
  gR s5 a0 10 8 (fun q7 =>
  cV s5 q6 8 (fX4_study q6 q7 s5) (qV (fun s8 =>
  lt ((-1)) (fun v9 =>
  fX6_rowFor_39 FU a0 x1 v9 1000000 0 s8)))))))))))))
set_option maxHeartbeats 4000000 in
theorem oX6_rowFor_86 {Γ : CX} (C : OKC Γ cX6_rowFor RX6 (some (.int))) (T : ∀ z ∈ (cx_c Γ).exceptionTable.toList, False) (hn : cx_nL Γ = 6) (hR : cx_fr Γ = 7 ∧ cx_lo Γ = 158) (hin : (cx_meth Γ).name = yX6_rowFor.name) {r39 : Nat → Int32 → Int32 → Int32 → Int32 → AS → Option AR} (h39 : ∀ (a0 : Nat) (x1 : Int32) (x2 : Int32) (x3 : Int32) (x4 : Int32) (s0 : AS), OK Γ 39 [(0, .ref a0), (1, .int x1), (2, .int x2), (3, .int x3), (4, .int x4)] [] (r39 a0 x1 x2 x3 x4 s0) s0) : ∀ (a0 : Nat) (x1 : Int32) (x2 : Int32) (x3 : Int32) (x4 : Int32) (s0 : AS), OK Γ 86 [(0, .ref a0), (1, .int x1), (2, .int x2), (3, .int x3), (4, .int x4)] [] (fX6_rowFor_86 r39 a0 x1 x2 x3 x4 s0) s0 := by
  intro a0 x1 x2 x3 x4 s0
  unfold fX6_rowFor_86
  refine ok_iincL C 4 (c := 1) (fun v1 => [(4, .int v1), (0, .ref a0), (1, .int x1), (2, .int x2), (3, .int x3)]) dX6_rowFor_86 rfl rfl (by rw [hn]; decide) (fun _ => rfl) (fun v1 => ?_)
  refine ok_goto C 39 dX6_rowFor_89 (by decide) ?_
  refine OK.sub (lv' := [(0, .ref a0), (1, .int x1), (2, .int x2), (3, .int x3), (4, .int v1)]) [1, 2, 3, 4, 0] rfl ?_
  exact h39 a0 x1 x2 x3 v1 s0
set_option maxHeartbeats 4000000 in
theorem oX6_rowFor_39 {Γ : CX} (C : OKC Γ cX6_rowFor RX6 (some (.int))) (T : ∀ z ∈ (cx_c Γ).exceptionTable.toList, False) (hn : cx_nL Γ = 6) (hR : cx_fr Γ = 7 ∧ cx_lo Γ = 158) (hin : (cx_meth Γ).name = yX6_rowFor.name) : ∀ (n : Nat) (a0 : Nat) (x1 : Int32) (x2 : Int32) (x3 : Int32) (x4 : Int32) (s0 : AS), OK Γ 39 [(0, .ref a0), (1, .int x1), (2, .int x2), (3, .int x3), (4, .int x4)] [] (fX6_rowFor_39 n a0 x1 x2 x3 x4 s0) s0 := by
  intro n
  induction n with
  | zero => intro _ _ _ _ _ s0; exact OK.none
  | succ n ih =>
    intro a0 x1 x2 x3 x4 s0
    rw [fX6_rowFor_39]
    refine ok_iload C 4 dX6_rowFor_39 rfl ?_
    refine ok_aload_n C 0 dX6_rowFor_41 rfl ?_
    refine ok_getR C frX6_58_10 dX6_rowFor_42 (fun q1 => ?_)
    refine ok_getI C frX6_115_5 dX6_rowFor_45 (fun v2 => ?_)
    refine ok_icmp_ge C 92 dX6_rowFor_48 (by decide) ?_ ?_
    · refine ok_iload_n C 2 dX6_rowFor_92 rfl ?_
      exact ok_ireturn C dX6_rowFor_93
    · refine ok_aload_n C 0 dX6_rowFor_51 rfl ?_
      refine ok_aload_n C 0 dX6_rowFor_52 rfl ?_
      refine ok_getR C frX6_33_10 dX6_rowFor_53 (fun q3 => ?_)
      refine ok_getR C frX6_246_9 dX6_rowFor_56 (fun q4 => ?_)
      refine ok_iload C 4 dX6_rowFor_59 rfl ?_
      refine ok_aald C 111 7 (fun _ => rfl) (by decide) dX6_rowFor_61 (fun q5 => ?_)
      refine ok_iload_n C 1 dX6_rowFor_62 rfl ?_
      refine ok_callV C T [.ref q5, .int x1] (F := fX6_fewestWith a0 q5 x1) (ctX6_fewestWith (C.2.2.2.2.2.2.2.2.1) a0 q5 x1) vlX6_309 viX6_fewestWith rfl rfl (by decide) rfl (by rw [hR.1, hR.2]; decide) (Nat.le_of_ble_eq_true rfl) dX6_rowFor_63 (ok_qI fun v6 s7 => ?_)
      refine ok_istore C (i := 5) [(5, .int v6), (0, .ref a0), (1, .int x1), (2, .int x2), (3, .int x3), (4, .int x4)] dX6_rowFor_66 (by rw [hn]; decide) rfl ?_
      refine ok_iload C 0 dX6_rowFor_68 rfl ?_
      refine ok_iconst C (v := (-1)) dX6_rowFor_70 (by decide) ?_
      refine ok_icmp_eq C 86 dX6_rowFor_71 (by decide) ?_ ?_
      · refine OK.sub (lv' := [(0, .ref a0), (1, .int x1), (2, .int x2), (3, .int x3), (4, .int x4)]) [1, 2, 3, 4, 5] rfl ?_
        exact oX6_rowFor_86 C T hn hR hin ih a0 x1 x2 x3 x4 s7
      · refine ok_iload C 0 dX6_rowFor_74 rfl ?_
        refine ok_iload_n C 4 dX6_rowFor_76 rfl ?_
        refine ok_icmp_ge C 86 dX6_rowFor_77 (by decide) ?_ ?_
        · refine OK.sub (lv' := [(0, .ref a0), (1, .int x1), (2, .int x2), (3, .int x3), (4, .int x4)]) [1, 2, 3, 4, 5] rfl ?_
          exact oX6_rowFor_86 C T hn hR hin ih a0 x1 x2 x3 x4 s7
        · refine ok_iload C 5 dX6_rowFor_80 rfl ?_
          refine ok_istore_n C (i := 2) [(2, .int x4), (5, .int v6), (0, .ref a0), (1, .int x1), (3, .int x3), (4, .int x4)] dX6_rowFor_82 rfl (by rw [hn]; decide) rfl ?_
          refine ok_iload C 1 dX6_rowFor_83 rfl ?_
          refine ok_istore_n C (i := 3) [(3, .int v6), (2, .int x4), (5, .int v6), (0, .ref a0), (1, .int x1), (4, .int x4)] dX6_rowFor_85 rfl (by rw [hn]; decide) rfl ?_
          refine OK.sub (lv' := [(0, .ref a0), (1, .int x1), (2, .int x4), (3, .int v6), (4, .int x4)]) [3, 4, 1, 0, 5] rfl ?_
          exact oX6_rowFor_86 C T hn hR hin ih a0 x1 x4 v6 x4 s7
set_option maxHeartbeats 4000000 in
theorem oX6_rowFor {Γ : CX} (C : OKC Γ cX6_rowFor RX6 (some (.int))) (T : ∀ z ∈ (cx_c Γ).exceptionTable.toList, False) (hn : cx_nL Γ = 6) (hR : cx_fr Γ = 7 ∧ cx_lo Γ = 158) (hin : (cx_meth Γ).name = yX6_rowFor.name) : ∀ (a0 : Nat) (x1 : Int32) (s0 : AS), OK Γ 0 [(0, .ref a0), (1, .int x1)] [] (fX6_rowFor a0 x1 s0) s0 := by
  intro a0 x1 s0
  unfold fX6_rowFor
  refine ok_aload_n C 0 dX6_rowFor_0 rfl ?_
  refine ok_callV C T [] (F := fX6_needChase a0) (ctX6_needChase (C.2.2.2.2.2.2.2.2.1) a0) vlX6_112 viX6_needChase rfl rfl (by decide) rfl (by rw [hR.1, hR.2]; decide) (Nat.le_of_ble_eq_true rfl) dX6_rowFor_1 (ok_qV fun s1 => ?_)
  refine ok_iload_n C 1 dX6_rowFor_4 rfl ?_
  refine ok_callS C T [.int x1] (F := fX6_needBlockLength x1) (ctX6_needBlockLength (C.2.2.2.2.2.2.2.2.1) x1) vlX6_306 kw_619 rfl (by rw [hR.1, hR.2]; decide) (Nat.le_of_ble_eq_true rfl) dX6_rowFor_5 (ok_qV fun s2 => ?_)
  refine ok_aload_n C 0 dX6_rowFor_8 rfl ?_
  refine ok_getR C frX6_19_10 dX6_rowFor_9 (fun q3 => ?_)
  refine ok_aload_n C 0 dX6_rowFor_12 rfl ?_
  refine ok_getR C frX6_33_10 dX6_rowFor_13 (fun q4 => ?_)
  refine ok_callV C T [.ref q4] (F := fX4_stockFrom q3 q4) (ctX4_stockFrom (C.2.2.2.2.2.2.2.2.1) q3 q4) vlX6_278 viX4_stockFrom rfl rfl (by decide) rfl (by rw [hR.1, hR.2]; decide) (Nat.le_of_ble_eq_true rfl) dX6_rowFor_16 (ok_qV fun s5 => ?_)
  refine ok_aload_n C 0 dX6_rowFor_19 rfl ?_
  refine ok_getR C frX6_19_10 dX6_rowFor_20 (fun q6 => ?_)
  refine ok_aload_n C 0 dX6_rowFor_23 rfl ?_
  refine ok_getR C frX6_58_10 dX6_rowFor_24 (fun q7 => ?_)
  refine ok_callV C T [.ref q7] (F := fX4_study q6 q7) (ctX4_study (C.2.2.2.2.2.2.2.2.1) q6 q7) vlX6_292 viX4_study rfl rfl (by decide) rfl (by rw [hR.1, hR.2]; decide) (Nat.le_of_ble_eq_true rfl) dX6_rowFor_27 (ok_qV fun s8 => ?_)
  refine ok_iconst C (v := (-1)) dX6_rowFor_30 (by decide) ?_
  refine ok_lt (fun v9 => ?_)
  refine ok_istore_n C (i := 2) [(2, .int v9), (0, .ref a0), (1, .int x1)] dX6_rowFor_31 rfl (by rw [hn]; decide) rfl ?_
  refine ok_ldcw C (v := 1000000) kw_628 dX6_rowFor_32 ?_
  refine ok_istore_n C (i := 3) [(3, .int 1000000), (2, .int v9), (0, .ref a0), (1, .int x1)] dX6_rowFor_35 rfl (by rw [hn]; decide) rfl ?_
  refine ok_iconst C (v := 0) dX6_rowFor_36 (by decide) ?_
  refine ok_istore C (i := 4) [(4, .int 0), (3, .int 1000000), (2, .int v9), (0, .ref a0), (1, .int x1)] dX6_rowFor_37 (by rw [hn]; decide) rfl ?_
  refine OK.sub (lv' := [(0, .ref a0), (1, .int x1), (2, .int v9), (3, .int 1000000), (4, .int 0)]) [3, 4, 2, 1, 0] rfl ?_
  exact oX6_rowFor_39 C T hn hR hin FU a0 x1 v9 1000000 0 s8
theorem ctX6_rowFor {l : Launch} (hl : l.stackTraces = false) {D : va_G} {dA : Nat → ClassId} {B0 : Nat} (a0 : Nat) (x1 : Int32) : Ct l D dA B0 yX6_rowFor (.code yX6_rowFor cX6_rowFor 6 (some (.int)) :: ax_ALL) 7 158 [.ref a0, .int x1] (fX6_rowFor a0 x1) :=
  Ct.of hl (by decide +kernel) (Nat.le_of_ble_eq_true rfl) fun Γ C _ _ _ _ e5 e6 e7 T hin => oX6_rowFor C T e5 ⟨e6, e7⟩ hin a0 x1 _
/-! ChaseLocker.takesPiece(LChaseLocker$Row;I)Z -/
def fX6_takesPiece (a0 : Nat) (a1 : Nat) (x2 : Int32) (s0 : AS) : Option AR :=
  gR s0 a0 10 3 (fun q1 =>
  gR s0 q1 9 1 (fun q2 =>
  aI s0 q2 100 x2 (fun v3 =>
  if v3 ≤ 0 then (
    rZ 0 s0)
  else (
    gR s0 a0 10 8 (fun q4 =>
    gR s0 q4 5 9 (fun q5 =>
    aI s0 q5 100 x2 (fun v6 =>
    gR s0 a0 10 8 (fun q7 =>
    cV s0 a1 7 (fX3_gapIn a1 q7 s0) (qI (fun v8 s9 =>
    if v8 < v6 then (
      rZ 0 s9)
    else (
      rZ 1 s9)))))))))))
set_option maxHeartbeats 4000000 in
theorem oX6_takesPiece {Γ : CX} (C : OKC Γ cX6_takesPiece RX6 (some (.boolean))) (T : ∀ z ∈ (cx_c Γ).exceptionTable.toList, False) (hn : cx_nL Γ = 3) (hR : cx_fr Γ = 3 ∧ cx_lo Γ = 102) (hin : (cx_meth Γ).name = yX6_takesPiece.name) : ∀ (a0 : Nat) (a1 : Nat) (x2 : Int32) (s0 : AS), OK Γ 0 [(0, .ref a0), (1, .ref a1), (2, .int x2)] [] (fX6_takesPiece a0 a1 x2 s0) s0 := by
  intro a0 a1 x2 s0
  unfold fX6_takesPiece
  refine ok_aload_n C 0 dX6_takesPiece_0 rfl ?_
  refine ok_getR C frX6_33_10 dX6_takesPiece_1 (fun q1 => ?_)
  refine ok_getR C frX6_230_9 dX6_takesPiece_4 (fun q2 => ?_)
  refine ok_iload_n C 2 dX6_takesPiece_7 rfl ?_
  refine ok_iald C dX6_takesPiece_8 (fun v3 => ?_)
  refine ok_if_le C 36 dX6_takesPiece_9 (by decide) ?_ ?_
  · refine ok_iconst C (v := 0) dX6_takesPiece_36 (by decide) ?_
    exact ok_zreturn C dX6_takesPiece_37
  · refine ok_aload_n C 0 dX6_takesPiece_12 rfl ?_
    refine ok_getR C frX6_58_10 dX6_takesPiece_13 (fun q4 => ?_)
    refine ok_getR C frX6_226_5 dX6_takesPiece_16 (fun q5 => ?_)
    refine ok_iload_n C 2 dX6_takesPiece_19 rfl ?_
    refine ok_iald C dX6_takesPiece_20 (fun v6 => ?_)
    refine ok_aload_n C 1 dX6_takesPiece_21 rfl ?_
    refine ok_aload_n C 0 dX6_takesPiece_22 rfl ?_
    refine ok_getR C frX6_58_10 dX6_takesPiece_23 (fun q7 => ?_)
    refine ok_callV C T [.ref q7] (F := fX3_gapIn a1 q7) (ctX3_gapIn (C.2.2.2.2.2.2.2.2.1) a1 q7) vlX6_184 viX3_gapIn rfl rfl (by decide) rfl (by rw [hR.1, hR.2]; decide) (Nat.le_of_ble_eq_true rfl) dX6_takesPiece_26 (ok_qI fun v8 s9 => ?_)
    refine ok_icmp_gt C 36 dX6_takesPiece_29 (by decide) ?_ ?_
    · refine ok_iconst C (v := 0) dX6_takesPiece_36 (by decide) ?_
      exact ok_zreturn C dX6_takesPiece_37
    · refine ok_iconst C (v := 1) dX6_takesPiece_32 (by decide) ?_
      refine ok_goto C 37 dX6_takesPiece_33 (by decide) ?_
      exact ok_zreturn C dX6_takesPiece_37
theorem ctX6_takesPiece {l : Launch} (hl : l.stackTraces = false) {D : va_G} {dA : Nat → ClassId} {B0 : Nat} (a0 : Nat) (a1 : Nat) (x2 : Int32) : Ct l D dA B0 yX6_takesPiece (.code yX6_takesPiece cX6_takesPiece 3 (some (.boolean)) :: ax_ALL) 3 102 [.ref a0, .ref a1, .int x2] (fX6_takesPiece a0 a1 x2) :=
  Ct.of hl (by decide +kernel) (Nat.le_of_ble_eq_true rfl) fun Γ C _ _ _ _ e5 e6 e7 T hin => oX6_takesPiece C T e5 ⟨e6, e7⟩ hin a0 a1 x2 _
/-! ChaseLocker.canPut(II)Z -/
def fX6_canPut (a0 : Nat) (x1 : Int32) (x2 : Int32) (s0 : AS) : Option AR :=
  cV s0 a0 10 (fX6_needRow a0 x1 s0) (qR (fun q1 s2 =>
  cV s2 a0 10 (fX6_needKind a0 x2 s2) (qV (fun s3 =>
  cV s3 a0 10 (fX6_takesPiece a0 q1 x2 s3) (qI (fun v4 s5 =>
  rZ v4 s5))))))
set_option maxHeartbeats 4000000 in
theorem oX6_canPut {Γ : CX} (C : OKC Γ cX6_canPut RX6 (some (.boolean))) (T : ∀ z ∈ (cx_c Γ).exceptionTable.toList, False) (hn : cx_nL Γ = 4) (hR : cx_fr Γ = 8 ∧ cx_lo Γ = 131) (hin : (cx_meth Γ).name = yX6_canPut.name) : ∀ (a0 : Nat) (x1 : Int32) (x2 : Int32) (s0 : AS), OK Γ 0 [(0, .ref a0), (1, .int x1), (2, .int x2)] [] (fX6_canPut a0 x1 x2 s0) s0 := by
  intro a0 x1 x2 s0
  unfold fX6_canPut
  refine ok_aload_n C 0 dX6_canPut_0 rfl ?_
  refine ok_iload_n C 1 dX6_canPut_1 rfl ?_
  refine ok_callV C T [.int x1] (F := fX6_needRow a0 x1) (ctX6_needRow (C.2.2.2.2.2.2.2.2.1) a0 x1) vlX6_172 viX6_needRow rfl rfl (by decide) rfl (by rw [hR.1, hR.2]; decide) (Nat.le_of_ble_eq_true rfl) dX6_canPut_2 (ok_qR fun q1 s2 => ?_)
  refine ok_astore_n C (i := 3) [(3, .ref q1), (0, .ref a0), (1, .int x1), (2, .int x2)] dX6_canPut_5 rfl (by rw [hn]; decide) rfl ?_
  refine ok_aload_n C 1 dX6_canPut_6 rfl ?_
  refine ok_iload_n C 3 dX6_canPut_7 rfl ?_
  refine ok_callV C T [.int x2] (F := fX6_needKind a0 x2) (ctX6_needKind (C.2.2.2.2.2.2.2.2.1) a0 x2) vlX6_219 viX6_needKind rfl rfl (by decide) rfl (by rw [hR.1, hR.2]; decide) (Nat.le_of_ble_eq_true rfl) dX6_canPut_8 (ok_qV fun s3 => ?_)
  refine ok_aload_n C 1 dX6_canPut_11 rfl ?_
  refine ok_aload_n C 0 dX6_canPut_12 rfl ?_
  refine ok_iload_n C 3 dX6_canPut_13 rfl ?_
  refine ok_callV C T [.ref q1, .int x2] (F := fX6_takesPiece a0 q1 x2) (ctX6_takesPiece (C.2.2.2.2.2.2.2.2.1) a0 q1 x2) vlX6_325 viX6_takesPiece rfl rfl (by decide) rfl (by rw [hR.1, hR.2]; decide) (Nat.le_of_ble_eq_true rfl) dX6_canPut_14 (ok_qI fun v4 s5 => ?_)
  exact ok_zreturn C dX6_canPut_17
theorem ctX6_canPut {l : Launch} (hl : l.stackTraces = false) {D : va_G} {dA : Nat → ClassId} {B0 : Nat} (a0 : Nat) (x1 : Int32) (x2 : Int32) : Ct l D dA B0 yX6_canPut (.code yX6_canPut cX6_canPut 4 (some (.boolean)) :: ax_ALL) 8 131 [.ref a0, .int x1, .int x2] (fX6_canPut a0 x1 x2) :=
  Ct.of hl (by decide +kernel) (Nat.le_of_ble_eq_true rfl) fun Γ C _ _ _ _ e5 e6 e7 T hin => oX6_canPut C T e5 ⟨e6, e7⟩ hin a0 x1 x2 _
/-! ChaseLocker.fillable(I)I -/
def fX6_fillable_75 (r56 : Nat → Int32 → Int32 → Int32 → AS → Option AR) (a0 : Nat) (x1 : Int32) (x2 : Int32) (x3 : Int32) (s0 : AS) : Option AR :=
  lt (x3 + 1) (fun v1 =>
  r56 a0 x1 x2 v1 s0)
def fX6_fillable_56  : Nat → Nat → Int32 → Int32 → Int32 → AS → Option AR
  | 0, _, _, _, _, _ => none
  | n + 1, a0, x1, x2, x3, s0 =>
    if x1 < x3 then (
      some (.inl (some (.int x2)), s0))
    else (
      gR s0 a0 10 1 (fun q1 =>
      cV s0 q1 8 (fX4_canMake q1 x3 s0) (qI (fun v2 s3 =>
      if v2 = 0 then (
        fX6_fillable_75 (fX6_fillable_56 n) a0 x1 x2 x3 s3)
      else (
        lt (x2 + 1) (fun v4 =>
        fX6_fillable_75 (fX6_fillable_56 n) a0 x1 v4 x3 s3))))))
def fX6_fillable (a0 : Nat) (x1 : Int32) (s0 : AS) : Option AR :=
  cV s0 a0 10 (fX6_needChase a0 s0) (qV (fun s1 =>
  if x1 < 0 then (
    tE "java/lang/IllegalArgumentException" s1)
  else (
    gR s1 a0 10 8 (fun q2 =>
    gI s1 q2 5 0 (fun v3 =>
    if x1 ≤ v3 then (
      gR s1 a0 10 1 (fun q4 =>
      gR s1 a0 10 3 (fun q5 =>
      cV s1 q4 8 (fX4_stockFrom q4 q5 s1) (qV (fun s6 =>
      gR s6 a0 10 1 (fun q7 =>
      gR s6 a0 10 8 (fun q8 =>
      cV s6 q7 8 (fX4_study q7 q8 s6) (qV (fun s9 =>
      fX6_fillable_56 FU a0 x1 0 0 s9)))))))))
    else (
      tE "java/lang/IllegalArgumentException" s1))))))
set_option maxHeartbeats 4000000 in
theorem oX6_fillable_75 {Γ : CX} (C : OKC Γ cX6_fillable RX6 (some (.int))) (T : ∀ z ∈ (cx_c Γ).exceptionTable.toList, False) (hn : cx_nL Γ = 4) (hR : cx_fr Γ = 7 ∧ cx_lo Γ = 158) (hin : (cx_meth Γ).name = yX6_fillable.name) {r56 : Nat → Int32 → Int32 → Int32 → AS → Option AR} (h56 : ∀ (a0 : Nat) (x1 : Int32) (x2 : Int32) (x3 : Int32) (s0 : AS), OK Γ 56 [(0, .ref a0), (1, .int x1), (2, .int x2), (3, .int x3)] [] (r56 a0 x1 x2 x3 s0) s0) : ∀ (a0 : Nat) (x1 : Int32) (x2 : Int32) (x3 : Int32) (s0 : AS), OK Γ 75 [(0, .ref a0), (1, .int x1), (2, .int x2), (3, .int x3)] [] (fX6_fillable_75 r56 a0 x1 x2 x3 s0) s0 := by
  intro a0 x1 x2 x3 s0
  unfold fX6_fillable_75
  refine ok_iincL C 3 (c := 1) (fun v1 => [(3, .int v1), (0, .ref a0), (1, .int x1), (2, .int x2)]) dX6_fillable_75 rfl rfl (by rw [hn]; decide) (fun _ => rfl) (fun v1 => ?_)
  refine ok_goto C 56 dX6_fillable_78 (by decide) ?_
  refine OK.sub (lv' := [(0, .ref a0), (1, .int x1), (2, .int x2), (3, .int v1)]) [1, 2, 3, 0] rfl ?_
  exact h56 a0 x1 x2 v1 s0
set_option maxHeartbeats 4000000 in
theorem oX6_fillable_56 {Γ : CX} (C : OKC Γ cX6_fillable RX6 (some (.int))) (T : ∀ z ∈ (cx_c Γ).exceptionTable.toList, False) (hn : cx_nL Γ = 4) (hR : cx_fr Γ = 7 ∧ cx_lo Γ = 158) (hin : (cx_meth Γ).name = yX6_fillable.name) : ∀ (n : Nat) (a0 : Nat) (x1 : Int32) (x2 : Int32) (x3 : Int32) (s0 : AS), OK Γ 56 [(0, .ref a0), (1, .int x1), (2, .int x2), (3, .int x3)] [] (fX6_fillable_56 n a0 x1 x2 x3 s0) s0 := by
  intro n
  induction n with
  | zero => intro _ _ _ _ s0; exact OK.none
  | succ n ih =>
    intro a0 x1 x2 x3 s0
    rw [fX6_fillable_56]
    refine ok_iload_n C 3 dX6_fillable_56 rfl ?_
    refine ok_iload_n C 1 dX6_fillable_57 rfl ?_
    refine ok_icmp_gt C 81 dX6_fillable_58 (by decide) ?_ ?_
    · refine ok_iload_n C 2 dX6_fillable_81 rfl ?_
      exact ok_ireturn C dX6_fillable_82
    · refine ok_aload_n C 0 dX6_fillable_61 rfl ?_
      refine ok_getR C frX6_19_10 dX6_fillable_62 (fun q1 => ?_)
      refine ok_iload_n C 3 dX6_fillable_65 rfl ?_
      refine ok_callV C T [.int x3] (F := fX4_canMake q1 x3) (ctX4_canMake (C.2.2.2.2.2.2.2.2.1) q1 x3) vlX6_296 viX4_canMake rfl rfl (by decide) rfl (by rw [hR.1, hR.2]; decide) (Nat.le_of_ble_eq_true rfl) dX6_fillable_66 (ok_qI fun v2 s3 => ?_)
      refine ok_if_eq C 75 dX6_fillable_69 (by decide) ?_ ?_
      · exact oX6_fillable_75 C T hn hR hin ih a0 x1 x2 x3 s3
      · refine ok_iincL C 2 (c := 1) (fun v4 => [(2, .int v4), (0, .ref a0), (1, .int x1), (3, .int x3)]) dX6_fillable_72 rfl rfl (by rw [hn]; decide) (fun _ => rfl) (fun v4 => ?_)
        refine OK.sub (lv' := [(0, .ref a0), (1, .int x1), (2, .int v4), (3, .int x3)]) [1, 2, 0, 3] rfl ?_
        exact oX6_fillable_75 C T hn hR hin ih a0 x1 v4 x3 s3
set_option maxHeartbeats 4000000 in
theorem oX6_fillable {Γ : CX} (C : OKC Γ cX6_fillable RX6 (some (.int))) (T : ∀ z ∈ (cx_c Γ).exceptionTable.toList, False) (hn : cx_nL Γ = 4) (hR : cx_fr Γ = 7 ∧ cx_lo Γ = 158) (hin : (cx_meth Γ).name = yX6_fillable.name) : ∀ (a0 : Nat) (x1 : Int32) (s0 : AS), OK Γ 0 [(0, .ref a0), (1, .int x1)] [] (fX6_fillable a0 x1 s0) s0 := by
  intro a0 x1 s0
  unfold fX6_fillable
  refine ok_aload_n C 0 dX6_fillable_0 rfl ?_
  refine ok_callV C T [] (F := fX6_needChase a0) (ctX6_needChase (C.2.2.2.2.2.2.2.2.1) a0) vlX6_112 viX6_needChase rfl rfl (by decide) rfl (by rw [hR.1, hR.2]; decide) (Nat.le_of_ble_eq_true rfl) dX6_fillable_1 (ok_qV fun s1 => ?_)
  refine ok_iload_n C 1 dX6_fillable_4 rfl ?_
  refine ok_if_lt C 19 dX6_fillable_5 (by decide) ?_ ?_
  · exact ok_throwSW C T tlX6_84_88 (i := 7) rfl dX6_fillable_19 dX6_fillable_22 dX6_fillable_23 dX6_fillable_26 dX6_fillable_29 (by rw [hR.1]; decide) (by rw [hR.2]; exact Nat.le_of_ble_eq_true rfl)
  · refine ok_iload_n C 1 dX6_fillable_8 rfl ?_
    refine ok_aload_n C 0 dX6_fillable_9 rfl ?_
    refine ok_getR C frX6_58_10 dX6_fillable_10 (fun q2 => ?_)
    refine ok_getI C frX6_152_5 dX6_fillable_13 (fun v3 => ?_)
    refine ok_icmp_le C 30 dX6_fillable_16 (by decide) ?_ ?_
    · refine ok_aload_n C 0 dX6_fillable_30 rfl ?_
      refine ok_getR C frX6_19_10 dX6_fillable_31 (fun q4 => ?_)
      refine ok_aload_n C 0 dX6_fillable_34 rfl ?_
      refine ok_getR C frX6_33_10 dX6_fillable_35 (fun q5 => ?_)
      refine ok_callV C T [.ref q5] (F := fX4_stockFrom q4 q5) (ctX4_stockFrom (C.2.2.2.2.2.2.2.2.1) q4 q5) vlX6_278 viX4_stockFrom rfl rfl (by decide) rfl (by rw [hR.1, hR.2]; decide) (Nat.le_of_ble_eq_true rfl) dX6_fillable_38 (ok_qV fun s6 => ?_)
      refine ok_aload_n C 0 dX6_fillable_41 rfl ?_
      refine ok_getR C frX6_19_10 dX6_fillable_42 (fun q7 => ?_)
      refine ok_aload_n C 0 dX6_fillable_45 rfl ?_
      refine ok_getR C frX6_58_10 dX6_fillable_46 (fun q8 => ?_)
      refine ok_callV C T [.ref q8] (F := fX4_study q7 q8) (ctX4_study (C.2.2.2.2.2.2.2.2.1) q7 q8) vlX6_292 viX4_study rfl rfl (by decide) rfl (by rw [hR.1, hR.2]; decide) (Nat.le_of_ble_eq_true rfl) dX6_fillable_49 (ok_qV fun s9 => ?_)
      refine ok_iconst C (v := 0) dX6_fillable_52 (by decide) ?_
      refine ok_istore_n C (i := 2) [(2, .int 0), (0, .ref a0), (1, .int x1)] dX6_fillable_53 rfl (by rw [hn]; decide) rfl ?_
      refine ok_iconst C (v := 0) dX6_fillable_54 (by decide) ?_
      refine ok_istore_n C (i := 3) [(3, .int 0), (2, .int 0), (0, .ref a0), (1, .int x1)] dX6_fillable_55 rfl (by rw [hn]; decide) rfl ?_
      refine OK.sub (lv' := [(0, .ref a0), (1, .int x1), (2, .int 0), (3, .int 0)]) [2, 3, 1, 0] rfl ?_
      exact oX6_fillable_56 C T hn hR hin FU a0 x1 0 0 s9
    · exact ok_throwSW C T tlX6_84_88 (i := 7) rfl dX6_fillable_19 dX6_fillable_22 dX6_fillable_23 dX6_fillable_26 dX6_fillable_29 (by rw [hR.1]; decide) (by rw [hR.2]; exact Nat.le_of_ble_eq_true rfl)
theorem ctX6_fillable {l : Launch} (hl : l.stackTraces = false) {D : va_G} {dA : Nat → ClassId} {B0 : Nat} (a0 : Nat) (x1 : Int32) : Ct l D dA B0 yX6_fillable (.code yX6_fillable cX6_fillable 4 (some (.int)) :: ax_ALL) 7 158 [.ref a0, .int x1] (fX6_fillable a0 x1) :=
  Ct.of hl (by decide +kernel) (Nat.le_of_ble_eq_true rfl) fun Γ C _ _ _ _ e5 e6 e7 T hin => oX6_fillable C T e5 ⟨e6, e7⟩ hin a0 x1 _
/-! ChaseLocker.goodIn(I)I -/
def fX6_goodIn (a0 : Nat) (x1 : Int32) (s0 : AS) : Option AR :=
  cV s0 a0 10 (fX6_needChase a0 s0) (qV (fun s1 =>
  if x1 < 0 then (
    tE "java/lang/IllegalArgumentException" s1)
  else (
    if x1 ≤ (200 : Int32) then (
      gR s1 a0 10 4 (fun q2 =>
      gR s1 a0 10 3 (fun q3 =>
      cV s1 q2 9 (fX5_copyFrom q2 q3 s1) (qV (fun s4 =>
      gR s4 a0 10 4 (fun q5 =>
      gR s4 a0 10 8 (fun q6 =>
      cV s4 q5 9 (fX5_impressOften q5 q6 x1 s4) (qI (fun v7 s8 =>
      some (.inl (some (.int v7)), s8))))))))))
    else (
      tE "java/lang/IllegalArgumentException" s1))))
set_option maxHeartbeats 4000000 in
theorem oX6_goodIn {Γ : CX} (C : OKC Γ cX6_goodIn RX6 (some (.int))) (T : ∀ z ∈ (cx_c Γ).exceptionTable.toList, False) (hn : cx_nL Γ = 2) (hR : cx_fr Γ = 7 ∧ cx_lo Γ = 193) (hin : (cx_meth Γ).name = yX6_goodIn.name) : ∀ (a0 : Nat) (x1 : Int32) (s0 : AS), OK Γ 0 [(0, .ref a0), (1, .int x1)] [] (fX6_goodIn a0 x1 s0) s0 := by
  intro a0 x1 s0
  unfold fX6_goodIn
  refine ok_aload_n C 0 dX6_goodIn_0 rfl ?_
  refine ok_callV C T [] (F := fX6_needChase a0) (ctX6_needChase (C.2.2.2.2.2.2.2.2.1) a0) vlX6_112 viX6_needChase rfl rfl (by decide) rfl (by rw [hR.1, hR.2]; decide) (Nat.le_of_ble_eq_true rfl) dX6_goodIn_1 (ok_qV fun s1 => ?_)
  refine ok_iload_n C 1 dX6_goodIn_4 rfl ?_
  refine ok_if_lt C 15 dX6_goodIn_5 (by decide) ?_ ?_
  · exact ok_throwSW C T tlX6_84_88 (i := 8) rfl dX6_goodIn_15 dX6_goodIn_18 dX6_goodIn_19 dX6_goodIn_22 dX6_goodIn_25 (by rw [hR.1]; decide) (by rw [hR.2]; exact Nat.le_of_ble_eq_true rfl)
  · refine ok_iload_n C 1 dX6_goodIn_8 rfl ?_
    refine ok_sipush C (v := 200) dX6_goodIn_9 (by decide) ?_
    refine ok_icmp_le C 26 dX6_goodIn_12 (by decide) ?_ ?_
    · refine ok_aload_n C 0 dX6_goodIn_26 rfl ?_
      refine ok_getR C frX6_37_10 dX6_goodIn_27 (fun q2 => ?_)
      refine ok_aload_n C 0 dX6_goodIn_30 rfl ?_
      refine ok_getR C frX6_33_10 dX6_goodIn_31 (fun q3 => ?_)
      refine ok_callV C T [.ref q3] (F := fX5_copyFrom q2 q3) (ctX5_copyFrom (C.2.2.2.2.2.2.2.2.1) q2 q3) vlX6_95 viX5_copyFrom rfl rfl (by decide) rfl (by rw [hR.1, hR.2]; decide) (Nat.le_of_ble_eq_true rfl) dX6_goodIn_34 (ok_qV fun s4 => ?_)
      refine ok_aload_n C 0 dX6_goodIn_37 rfl ?_
      refine ok_getR C frX6_37_10 dX6_goodIn_38 (fun q5 => ?_)
      refine ok_aload_n C 0 dX6_goodIn_41 rfl ?_
      refine ok_getR C frX6_58_10 dX6_goodIn_42 (fun q6 => ?_)
      refine ok_iload_n C 1 dX6_goodIn_45 rfl ?_
      refine ok_callV C T [.ref q6, .int x1] (F := fX5_impressOften q5 q6 x1) (ctX5_impressOften (C.2.2.2.2.2.2.2.2.1) q5 q6 x1) vlX6_342 viX5_impressOften rfl rfl (by decide) rfl (by rw [hR.1, hR.2]; decide) (Nat.le_of_ble_eq_true rfl) dX6_goodIn_46 (ok_qI fun v7 s8 => ?_)
      exact ok_ireturn C dX6_goodIn_49
    · exact ok_throwSW C T tlX6_84_88 (i := 8) rfl dX6_goodIn_15 dX6_goodIn_18 dX6_goodIn_19 dX6_goodIn_22 dX6_goodIn_25 (by rw [hR.1]; decide) (by rw [hR.2]; exact Nat.le_of_ble_eq_true rfl)
theorem ctX6_goodIn {l : Launch} (hl : l.stackTraces = false) {D : va_G} {dA : Nat → ClassId} {B0 : Nat} (a0 : Nat) (x1 : Int32) : Ct l D dA B0 yX6_goodIn (.code yX6_goodIn cX6_goodIn 2 (some (.int)) :: ax_ALL) 7 193 [.ref a0, .int x1] (fX6_goodIn a0 x1) :=
  Ct.of hl (by decide +kernel) (Nat.le_of_ble_eq_true rfl) fun Γ C _ _ _ _ e5 e6 e7 T hin => oX6_goodIn C T e5 ⟨e6, e7⟩ hin a0 x1 _
/-! ChaseLocker.writeGapBefore()V -/
def fX6_writeGapBefore (a0 : Nat) (s0 : AS) : Option AR :=
  gR s0 a0 10 7 (fun q1 =>
  cV s0 q1 1 (fJ4_length_8abf5 q1 s0) (qI (fun v2 s3 =>
  if v2 ≤ 0 then (
    some (.inl none, s3))
  else (
    gR s3 a0 10 7 (fun q4 =>
    cV s3 q4 1 (fJ4_append_cf468 q4 32 s3) (qR (fun q5 s6 =>
    some (.inl none, s6))))))))
set_option maxHeartbeats 4000000 in
theorem oX6_writeGapBefore {Γ : CX} (C : OKC Γ cX6_writeGapBefore RX6 none) (T : ∀ z ∈ (cx_c Γ).exceptionTable.toList, False) (hn : cx_nL Γ = 1) (hR : cx_fr Γ = 7 ∧ cx_lo Γ = 186) (hin : (cx_meth Γ).name = yX6_writeGapBefore.name) : ∀ (a0 : Nat) (s0 : AS), OK Γ 0 [(0, .ref a0)] [] (fX6_writeGapBefore a0 s0) s0 := by
  intro a0 s0
  unfold fX6_writeGapBefore
  refine ok_aload_n C 0 dX6_writeGapBefore_0 rfl ?_
  refine ok_getR C frX6_51_10 dX6_writeGapBefore_1 (fun q1 => ?_)
  refine ok_callV C T [] (F := fJ4_length_8abf5 q1) (ctJ4_length_8abf5 (C.2.2.2.2.2.2.2.2.1) q1) vlX6_369 viJ4_length_8abf5 rfl rfl (by decide) rfl (by rw [hR.1, hR.2]; decide) (Nat.le_of_ble_eq_true rfl) dX6_writeGapBefore_4 (ok_qI fun v2 s3 => ?_)
  refine ok_if_le C 20 dX6_writeGapBefore_7 (by decide) ?_ ?_
  · exact ok_vreturn C dX6_writeGapBefore_20
  · refine ok_aload_n C 0 dX6_writeGapBefore_10 rfl ?_
    refine ok_getR C frX6_51_10 dX6_writeGapBefore_11 (fun q4 => ?_)
    refine ok_bipush C (v := 32) dX6_writeGapBefore_14 (by decide) ?_
    refine ok_callV C T [.int 32] (F := fJ4_append_cf468 q4 32) (ctJ4_append_cf468 (C.2.2.2.2.2.2.2.2.1) q4 32) vlX6_356 viJ4_append_cf468 rfl rfl (by decide) rfl (by rw [hR.1, hR.2]; decide) (Nat.le_of_ble_eq_true rfl) dX6_writeGapBefore_16 (ok_qR fun q5 s6 => ?_)
    refine ok_pop C dX6_writeGapBefore_19 rfl ?_
    exact ok_vreturn C dX6_writeGapBefore_20
theorem ctX6_writeGapBefore {l : Launch} (hl : l.stackTraces = false) {D : va_G} {dA : Nat → ClassId} {B0 : Nat} (a0 : Nat) : Ct l D dA B0 yX6_writeGapBefore (.code yX6_writeGapBefore cX6_writeGapBefore 1 (none) :: ax_ALL) 7 186 [.ref a0] (fX6_writeGapBefore a0) :=
  Ct.of hl (by decide +kernel) (Nat.le_of_ble_eq_true rfl) fun Γ C _ _ _ _ e5 e6 e7 T hin => oX6_writeGapBefore C T e5 ⟨e6, e7⟩ hin a0 _
/-! ChaseLocker.writeOpening(I)V -/
def fX6_writeOpening (a0 : Nat) (x1 : Int32) (s0 : AS) : Option AR :=
  cV s0 a0 10 (fX6_writeGapBefore a0 s0) (qV (fun s1 =>
  gR s1 a0 10 7 (fun q2 =>
  cV s1 q2 1 (fJ4_append_cf468 q2 113 s1) (qR (fun q3 s4 =>
  gR s4 a0 10 7 (fun q5 =>
  cV s4 q5 1 (fJ4_append_bf812 q5 x1 s4) (qR (fun q6 s7 =>
  some (.inl none, s7)))))))))
set_option maxHeartbeats 4000000 in
theorem oX6_writeOpening {Γ : CX} (C : OKC Γ cX6_writeOpening RX6 none) (T : ∀ z ∈ (cx_c Γ).exceptionTable.toList, False) (hn : cx_nL Γ = 2) (hR : cx_fr Γ = 8 ∧ cx_lo Γ = 206) (hin : (cx_meth Γ).name = yX6_writeOpening.name) : ∀ (a0 : Nat) (x1 : Int32) (s0 : AS), OK Γ 0 [(0, .ref a0), (1, .int x1)] [] (fX6_writeOpening a0 x1 s0) s0 := by
  intro a0 x1 s0
  unfold fX6_writeOpening
  refine ok_aload_n C 0 dX6_writeOpening_0 rfl ?_
  refine ok_callV C T [] (F := fX6_writeGapBefore a0) (ctX6_writeGapBefore (C.2.2.2.2.2.2.2.2.1) a0) vlX6_353 viX6_writeGapBefore rfl rfl (by decide) rfl (by rw [hR.1, hR.2]; decide) (Nat.le_of_ble_eq_true rfl) dX6_writeOpening_1 (ok_qV fun s1 => ?_)
  refine ok_aload_n C 0 dX6_writeOpening_4 rfl ?_
  refine ok_getR C frX6_51_10 dX6_writeOpening_5 (fun q2 => ?_)
  refine ok_bipush C (v := 113) dX6_writeOpening_8 (by decide) ?_
  refine ok_callV C T [.int 113] (F := fJ4_append_cf468 q2 113) (ctJ4_append_cf468 (C.2.2.2.2.2.2.2.2.1) q2 113) vlX6_356 viJ4_append_cf468 rfl rfl (by decide) rfl (by rw [hR.1, hR.2]; decide) (Nat.le_of_ble_eq_true rfl) dX6_writeOpening_10 (ok_qR fun q3 s4 => ?_)
  refine ok_pop C dX6_writeOpening_13 rfl ?_
  refine ok_aload_n C 0 dX6_writeOpening_14 rfl ?_
  refine ok_getR C frX6_51_10 dX6_writeOpening_15 (fun q5 => ?_)
  refine ok_iload_n C 1 dX6_writeOpening_18 rfl ?_
  refine ok_callV C T [.int x1] (F := fJ4_append_bf812 q5 x1) (ctJ4_append_bf812 (C.2.2.2.2.2.2.2.2.1) q5 x1) vlX6_360 viJ4_append_bf812 rfl rfl (by decide) rfl (by rw [hR.1, hR.2]; decide) (Nat.le_of_ble_eq_true rfl) dX6_writeOpening_19 (ok_qR fun q6 s7 => ?_)
  refine ok_pop C dX6_writeOpening_22 rfl ?_
  exact ok_vreturn C dX6_writeOpening_23
theorem ctX6_writeOpening {l : Launch} (hl : l.stackTraces = false) {D : va_G} {dA : Nat → ClassId} {B0 : Nat} (a0 : Nat) (x1 : Int32) : Ct l D dA B0 yX6_writeOpening (.code yX6_writeOpening cX6_writeOpening 2 (none) :: ax_ALL) 8 206 [.ref a0, .int x1] (fX6_writeOpening a0 x1) :=
  Ct.of hl (by decide +kernel) (Nat.le_of_ble_eq_true rfl) fun Γ C _ _ _ _ e5 e6 e7 T hin => oX6_writeOpening C T e5 ⟨e6, e7⟩ hin a0 x1 _
/-! ChaseLocker.writeKind(I)V -/
def fX6_writeKind_38  (a0 : Nat) (x1 : Int32) (t0 : Nat) (t1 : Int32) (s0 : AS) : Option AR :=
  cV s0 t0 1 (fJ4_append_cf468 t0 t1 s0) (qR (fun q1 s2 =>
  gR s2 a0 10 7 (fun q3 =>
  gR s2 a0 10 8 (fun q4 =>
  gR s2 q4 5 9 (fun q5 =>
  aI s2 q5 100 x1 (fun v6 =>
  cV s2 q3 1 (fJ4_append_bf812 q3 v6 s2) (qR (fun q7 s8 =>
  some (.inl none, s8)))))))))
def fX6_writeKind (a0 : Nat) (x1 : Int32) (s0 : AS) : Option AR :=
  if x1 < 0 then (
    some (.inl none, s0))
  else (
    gR s0 a0 10 8 (fun q1 =>
    gI s0 q1 5 7 (fun v2 =>
    if v2 ≤ x1 then (
      some (.inl none, s0))
    else (
      gR s0 a0 10 7 (fun q3 =>
      gR s0 a0 10 8 (fun q4 =>
      gR s0 q4 5 8 (fun q5 =>
      aI s0 q5 101 x1 (fun v6 =>
      if v6 = 0 then (
        fX6_writeKind_38 a0 x1 q3 119 s0)
      else (
        fX6_writeKind_38 a0 x1 q3 109 s0)))))))))
set_option maxHeartbeats 4000000 in
theorem oX6_writeKind_38 {Γ : CX} (C : OKC Γ cX6_writeKind RX6 none) (T : ∀ z ∈ (cx_c Γ).exceptionTable.toList, False) (hn : cx_nL Γ = 2) (hR : cx_fr Γ = 7 ∧ cx_lo Γ = 188) (hin : (cx_meth Γ).name = yX6_writeKind.name) : ∀ (a0 : Nat) (x1 : Int32) (t0 : Nat) (t1 : Int32) (s0 : AS), OK Γ 38 [(0, .ref a0), (1, .int x1)] [.int t1, .ref t0] (fX6_writeKind_38  a0 x1 t0 t1 s0) s0 := by
  intro a0 x1 t0 t1 s0
  unfold fX6_writeKind_38
  refine ok_callV C T [.int t1] (F := fJ4_append_cf468 t0 t1) (ctJ4_append_cf468 (C.2.2.2.2.2.2.2.2.1) t0 t1) vlX6_356 viJ4_append_cf468 rfl rfl (by decide) rfl (by rw [hR.1, hR.2]; decide) (Nat.le_of_ble_eq_true rfl) dX6_writeKind_38 (ok_qR fun q1 s2 => ?_)
  refine ok_pop C dX6_writeKind_41 rfl ?_
  refine ok_aload_n C 0 dX6_writeKind_42 rfl ?_
  refine ok_getR C frX6_51_10 dX6_writeKind_43 (fun q3 => ?_)
  refine ok_aload_n C 0 dX6_writeKind_46 rfl ?_
  refine ok_getR C frX6_58_10 dX6_writeKind_47 (fun q4 => ?_)
  refine ok_getR C frX6_226_5 dX6_writeKind_50 (fun q5 => ?_)
  refine ok_iload_n C 1 dX6_writeKind_53 rfl ?_
  refine ok_iald C dX6_writeKind_54 (fun v6 => ?_)
  refine ok_callV C T [.int v6] (F := fJ4_append_bf812 q3 v6) (ctJ4_append_bf812 (C.2.2.2.2.2.2.2.2.1) q3 v6) vlX6_360 viJ4_append_bf812 rfl rfl (by decide) rfl (by rw [hR.1, hR.2]; decide) (Nat.le_of_ble_eq_true rfl) dX6_writeKind_55 (ok_qR fun q7 s8 => ?_)
  refine ok_pop C dX6_writeKind_58 rfl ?_
  exact ok_vreturn C dX6_writeKind_59
set_option maxHeartbeats 4000000 in
theorem oX6_writeKind {Γ : CX} (C : OKC Γ cX6_writeKind RX6 none) (T : ∀ z ∈ (cx_c Γ).exceptionTable.toList, False) (hn : cx_nL Γ = 2) (hR : cx_fr Γ = 7 ∧ cx_lo Γ = 188) (hin : (cx_meth Γ).name = yX6_writeKind.name) : ∀ (a0 : Nat) (x1 : Int32) (s0 : AS), OK Γ 0 [(0, .ref a0), (1, .int x1)] [] (fX6_writeKind a0 x1 s0) s0 := by
  intro a0 x1 s0
  unfold fX6_writeKind
  refine ok_iload_n C 1 dX6_writeKind_0 rfl ?_
  refine ok_if_lt C 59 dX6_writeKind_1 (by decide) ?_ ?_
  · exact ok_vreturn C dX6_writeKind_59
  · refine ok_iload_n C 1 dX6_writeKind_4 rfl ?_
    refine ok_aload_n C 0 dX6_writeKind_5 rfl ?_
    refine ok_getR C frX6_58_10 dX6_writeKind_6 (fun q1 => ?_)
    refine ok_getI C frX6_92_5 dX6_writeKind_9 (fun v2 => ?_)
    refine ok_icmp_ge C 59 dX6_writeKind_12 (by decide) ?_ ?_
    · exact ok_vreturn C dX6_writeKind_59
    · refine ok_aload_n C 0 dX6_writeKind_15 rfl ?_
      refine ok_getR C frX6_51_10 dX6_writeKind_16 (fun q3 => ?_)
      refine ok_aload_n C 0 dX6_writeKind_19 rfl ?_
      refine ok_getR C frX6_58_10 dX6_writeKind_20 (fun q4 => ?_)
      refine ok_getR C frX6_223_5 dX6_writeKind_23 (fun q5 => ?_)
      refine ok_iload_n C 1 dX6_writeKind_26 rfl ?_
      refine ok_zald C dX6_writeKind_27 (fun v6 => ?_)
      refine ok_if_eq C 36 dX6_writeKind_28 (by decide) ?_ ?_
      · refine ok_bipush C (v := 119) dX6_writeKind_36 (by decide) ?_
        exact oX6_writeKind_38 C T hn hR hin a0 x1 q3 119 s0
      · refine ok_bipush C (v := 109) dX6_writeKind_31 (by decide) ?_
        refine ok_goto C 38 dX6_writeKind_33 (by decide) ?_
        exact oX6_writeKind_38 C T hn hR hin a0 x1 q3 109 s0
theorem ctX6_writeKind {l : Launch} (hl : l.stackTraces = false) {D : va_G} {dA : Nat → ClassId} {B0 : Nat} (a0 : Nat) (x1 : Int32) : Ct l D dA B0 yX6_writeKind (.code yX6_writeKind cX6_writeKind 2 (none) :: ax_ALL) 7 188 [.ref a0, .int x1] (fX6_writeKind a0 x1) :=
  Ct.of hl (by decide +kernel) (Nat.le_of_ble_eq_true rfl) fun Γ C _ _ _ _ e5 e6 e7 T hin => oX6_writeKind C T e5 ⟨e6, e7⟩ hin a0 x1 _
/-! ChaseLocker.writeRow(I)I -/
def fX6_writeRow_111  (a0 : Nat) (s0 : AS) : Option AR :=
  gR s0 a0 10 7 (fun q1 =>
  cV s0 q1 1 (fJ4_length_8abf5 q1 s0) (qI (fun v2 s3 =>
  some (.inl (some (.int v2)), s3))))
def fX6_writeRow_96  (a0 : Nat) (a2 : Nat) (s0 : AS) : Option AR :=
  cV s0 a2 7 (fX3_hasQuoin a2 s0) (qI (fun v1 s2 =>
  if v1 = 0 then (
    fX6_writeRow_111 a0 s2)
  else (
    gI s2 a2 7 7 (fun v3 =>
    cV s2 a0 10 (fX6_writeOpening a0 v3 s2) (qV (fun s4 =>
    fX6_writeRow_111 a0 s4))))))
def fX6_writeRow_69  : Nat → Nat → Nat → Int32 → AS → Option AR
  | 0, _, _, _, _ => none
  | n + 1, a0, a2, x3, s0 =>
    gI s0 a2 7 4 (fun v1 =>
    if v1 ≤ x3 then (
      fX6_writeRow_96 a0 a2 s0)
    else (
      cV s0 a0 10 (fX6_writeGapBefore a0 s0) (qV (fun s2 =>
      cV s2 a2 7 (fX3_pieceAt a2 x3 s2) (qI (fun v3 s4 =>
      cV s4 a0 10 (fX6_writeKind a0 v3 s4) (qV (fun s5 =>
      lt (x3 + 1) (fun v6 =>
      fX6_writeRow_69 n a0 a2 v6 s5)))))))))
def fX6_writeRow_67  (a0 : Nat) (a2 : Nat) (s0 : AS) : Option AR :=
  fX6_writeRow_69 FU a0 a2 0 s0
def fX6_writeRow_16  : Nat → Nat → Nat → Int32 → AS → Option AR
  | 0, _, _, _, _ => none
  | n + 1, a0, a2, x3, s0 =>
    gI s0 a2 7 1 (fun v1 =>
    if v1 ≤ x3 then (
      fX6_writeRow_67 a0 a2 s0)
    else (
      cV s0 a0 10 (fX6_writeGapBefore a0 s0) (qV (fun s2 =>
      gR s2 a0 10 7 (fun q3 =>
      cV s2 q3 1 (fJ4_append_cf468 q3 91 s2) (qR (fun q4 s5 =>
      gR s5 a0 10 7 (fun q6 =>
      cV s5 a2 7 (fX3_blockAt a2 x3 s5) (qI (fun v7 s8 =>
      cV s8 q6 1 (fJ4_append_bf812 q6 v7 s8) (qR (fun q9 s10 =>
      gR s10 a0 10 7 (fun q11 =>
      cV s10 q11 1 (fJ4_append_cf468 q11 93 s10) (qR (fun q12 s13 =>
      lt (x3 + 1) (fun v14 =>
      fX6_writeRow_16 n a0 a2 v14 s13))))))))))))))))
def fX6_writeRow (a0 : Nat) (x1 : Int32) (s0 : AS) : Option AR :=
  cV s0 a0 10 (fX6_needRow a0 x1 s0) (qR (fun q1 s2 =>
  gR s2 a0 10 7 (fun q3 =>
  cV s2 q3 1 (fJ4_setLength_d00df q3 0 s2) (qV (fun s4 =>
  fX6_writeRow_16 FU a0 q1 0 s4)))))
set_option maxHeartbeats 4000000 in
theorem oX6_writeRow_111 {Γ : CX} (C : OKC Γ cX6_writeRow RX6 (some (.int))) (T : ∀ z ∈ (cx_c Γ).exceptionTable.toList, False) (hn : cx_nL Γ = 4) (hR : cx_fr Γ = 9 ∧ cx_lo Γ = 227) (hin : (cx_meth Γ).name = yX6_writeRow.name) : ∀ (a0 : Nat) (s0 : AS), OK Γ 111 [(0, .ref a0)] [] (fX6_writeRow_111  a0 s0) s0 := by
  intro a0 s0
  unfold fX6_writeRow_111
  refine ok_aload_n C 0 dX6_writeRow_111 rfl ?_
  refine ok_getR C frX6_51_10 dX6_writeRow_112 (fun q1 => ?_)
  refine ok_callV C T [] (F := fJ4_length_8abf5 q1) (ctJ4_length_8abf5 (C.2.2.2.2.2.2.2.2.1) q1) vlX6_369 viJ4_length_8abf5 rfl rfl (by decide) rfl (by rw [hR.1, hR.2]; decide) (Nat.le_of_ble_eq_true rfl) dX6_writeRow_115 (ok_qI fun v2 s3 => ?_)
  exact ok_ireturn C dX6_writeRow_118
set_option maxHeartbeats 4000000 in
theorem oX6_writeRow_96 {Γ : CX} (C : OKC Γ cX6_writeRow RX6 (some (.int))) (T : ∀ z ∈ (cx_c Γ).exceptionTable.toList, False) (hn : cx_nL Γ = 4) (hR : cx_fr Γ = 9 ∧ cx_lo Γ = 227) (hin : (cx_meth Γ).name = yX6_writeRow.name) : ∀ (a0 : Nat) (a2 : Nat) (s0 : AS), OK Γ 96 [(0, .ref a0), (2, .ref a2)] [] (fX6_writeRow_96  a0 a2 s0) s0 := by
  intro a0 a2 s0
  unfold fX6_writeRow_96
  refine ok_aload_n C 1 dX6_writeRow_96 rfl ?_
  refine ok_callV C T [] (F := fX3_hasQuoin a2) (ctX3_hasQuoin (C.2.2.2.2.2.2.2.2.1) a2) vlX6_199 viX3_hasQuoin rfl rfl (by decide) rfl (by rw [hR.1, hR.2]; decide) (Nat.le_of_ble_eq_true rfl) dX6_writeRow_97 (ok_qI fun v1 s2 => ?_)
  refine ok_if_eq C 111 dX6_writeRow_100 (by decide) ?_ ?_
  · refine OK.sub (lv' := [(0, .ref a0)]) [0] rfl ?_
    exact oX6_writeRow_111 C T hn hR hin a0 s2
  · refine ok_aload_n C 0 dX6_writeRow_103 rfl ?_
    refine ok_aload_n C 1 dX6_writeRow_104 rfl ?_
    refine ok_getI C frX6_187_7 dX6_writeRow_105 (fun v3 => ?_)
    refine ok_callV C T [.int v3] (F := fX6_writeOpening a0 v3) (ctX6_writeOpening (C.2.2.2.2.2.2.2.2.1) a0 v3) vlX6_366 viX6_writeOpening rfl rfl (by decide) rfl (by rw [hR.1, hR.2]; decide) (Nat.le_of_ble_eq_true rfl) dX6_writeRow_108 (ok_qV fun s4 => ?_)
    refine OK.sub (lv' := [(0, .ref a0)]) [0] rfl ?_
    exact oX6_writeRow_111 C T hn hR hin a0 s4
set_option maxHeartbeats 4000000 in
theorem oX6_writeRow_69 {Γ : CX} (C : OKC Γ cX6_writeRow RX6 (some (.int))) (T : ∀ z ∈ (cx_c Γ).exceptionTable.toList, False) (hn : cx_nL Γ = 4) (hR : cx_fr Γ = 9 ∧ cx_lo Γ = 227) (hin : (cx_meth Γ).name = yX6_writeRow.name) : ∀ (n : Nat) (a0 : Nat) (a2 : Nat) (x3 : Int32) (s0 : AS), OK Γ 69 [(0, .ref a0), (2, .ref a2), (3, .int x3)] [] (fX6_writeRow_69 n a0 a2 x3 s0) s0 := by
  intro n
  induction n with
  | zero => intro _ _ _ s0; exact OK.none
  | succ n ih =>
    intro a0 a2 x3 s0
    rw [fX6_writeRow_69]
    refine ok_iload_n C 2 dX6_writeRow_69 rfl ?_
    refine ok_aload_n C 1 dX6_writeRow_70 rfl ?_
    refine ok_getI C frX6_181_7 dX6_writeRow_71 (fun v1 => ?_)
    refine ok_icmp_ge C 96 dX6_writeRow_74 (by decide) ?_ ?_
    · refine OK.sub (lv' := [(0, .ref a0), (2, .ref a2)]) [0, 1] rfl ?_
      exact oX6_writeRow_96 C T hn hR hin a0 a2 s0
    · refine ok_aload_n C 0 dX6_writeRow_77 rfl ?_
      refine ok_callV C T [] (F := fX6_writeGapBefore a0) (ctX6_writeGapBefore (C.2.2.2.2.2.2.2.2.1) a0) vlX6_353 viX6_writeGapBefore rfl rfl (by decide) rfl (by rw [hR.1, hR.2]; decide) (Nat.le_of_ble_eq_true rfl) dX6_writeRow_78 (ok_qV fun s2 => ?_)
      refine ok_aload_n C 0 dX6_writeRow_81 rfl ?_
      refine ok_aload_n C 1 dX6_writeRow_82 rfl ?_
      refine ok_iload_n C 2 dX6_writeRow_83 rfl ?_
      refine ok_callV C T [.int x3] (F := fX3_pieceAt a2 x3) (ctX3_pieceAt (C.2.2.2.2.2.2.2.2.1) a2 x3) vlX6_216 viX3_pieceAt rfl rfl (by decide) rfl (by rw [hR.1, hR.2]; decide) (Nat.le_of_ble_eq_true rfl) dX6_writeRow_84 (ok_qI fun v3 s4 => ?_)
      refine ok_callV C T [.int v3] (F := fX6_writeKind a0 v3) (ctX6_writeKind (C.2.2.2.2.2.2.2.2.1) a0 v3) vlX6_363 viX6_writeKind rfl rfl (by decide) rfl (by rw [hR.1, hR.2]; decide) (Nat.le_of_ble_eq_true rfl) dX6_writeRow_87 (ok_qV fun s5 => ?_)
      refine ok_iincL C 2 (c := 1) (fun v6 => [(3, .int v6), (0, .ref a0), (2, .ref a2)]) dX6_writeRow_90 rfl rfl (by rw [hn]; decide) (fun _ => rfl) (fun v6 => ?_)
      refine ok_goto C 69 dX6_writeRow_93 (by decide) ?_
      refine OK.sub (lv' := [(0, .ref a0), (2, .ref a2), (3, .int v6)]) [1, 2, 0] rfl ?_
      exact ih a0 a2 v6 s5
set_option maxHeartbeats 4000000 in
theorem oX6_writeRow_67 {Γ : CX} (C : OKC Γ cX6_writeRow RX6 (some (.int))) (T : ∀ z ∈ (cx_c Γ).exceptionTable.toList, False) (hn : cx_nL Γ = 4) (hR : cx_fr Γ = 9 ∧ cx_lo Γ = 227) (hin : (cx_meth Γ).name = yX6_writeRow.name) : ∀ (a0 : Nat) (a2 : Nat) (s0 : AS), OK Γ 67 [(0, .ref a0), (2, .ref a2)] [] (fX6_writeRow_67  a0 a2 s0) s0 := by
  intro a0 a2 s0
  unfold fX6_writeRow_67
  refine ok_iconst C (v := 0) dX6_writeRow_67 (by decide) ?_
  refine ok_istore_n C (i := 3) [(3, .int 0), (0, .ref a0), (2, .ref a2)] dX6_writeRow_68 rfl (by rw [hn]; decide) rfl ?_
  refine OK.sub (lv' := [(0, .ref a0), (2, .ref a2), (3, .int 0)]) [1, 2, 0] rfl ?_
  exact oX6_writeRow_69 C T hn hR hin FU a0 a2 0 s0
set_option maxHeartbeats 4000000 in
theorem oX6_writeRow_16 {Γ : CX} (C : OKC Γ cX6_writeRow RX6 (some (.int))) (T : ∀ z ∈ (cx_c Γ).exceptionTable.toList, False) (hn : cx_nL Γ = 4) (hR : cx_fr Γ = 9 ∧ cx_lo Γ = 227) (hin : (cx_meth Γ).name = yX6_writeRow.name) : ∀ (n : Nat) (a0 : Nat) (a2 : Nat) (x3 : Int32) (s0 : AS), OK Γ 16 [(0, .ref a0), (2, .ref a2), (3, .int x3)] [] (fX6_writeRow_16 n a0 a2 x3 s0) s0 := by
  intro n
  induction n with
  | zero => intro _ _ _ s0; exact OK.none
  | succ n ih =>
    intro a0 a2 x3 s0
    rw [fX6_writeRow_16]
    refine ok_iload_n C 2 dX6_writeRow_16 rfl ?_
    refine ok_aload_n C 1 dX6_writeRow_17 rfl ?_
    refine ok_getI C frX6_176_7 dX6_writeRow_18 (fun v1 => ?_)
    refine ok_icmp_ge C 67 dX6_writeRow_21 (by decide) ?_ ?_
    · refine OK.sub (lv' := [(0, .ref a0), (2, .ref a2)]) [0, 1] rfl ?_
      exact oX6_writeRow_67 C T hn hR hin a0 a2 s0
    · refine ok_aload_n C 0 dX6_writeRow_24 rfl ?_
      refine ok_callV C T [] (F := fX6_writeGapBefore a0) (ctX6_writeGapBefore (C.2.2.2.2.2.2.2.2.1) a0) vlX6_353 viX6_writeGapBefore rfl rfl (by decide) rfl (by rw [hR.1, hR.2]; decide) (Nat.le_of_ble_eq_true rfl) dX6_writeRow_25 (ok_qV fun s2 => ?_)
      refine ok_aload_n C 0 dX6_writeRow_28 rfl ?_
      refine ok_getR C frX6_51_10 dX6_writeRow_29 (fun q3 => ?_)
      refine ok_bipush C (v := 91) dX6_writeRow_32 (by decide) ?_
      refine ok_callV C T [.int 91] (F := fJ4_append_cf468 q3 91) (ctJ4_append_cf468 (C.2.2.2.2.2.2.2.2.1) q3 91) vlX6_356 viJ4_append_cf468 rfl rfl (by decide) rfl (by rw [hR.1, hR.2]; decide) (Nat.le_of_ble_eq_true rfl) dX6_writeRow_34 (ok_qR fun q4 s5 => ?_)
      refine ok_pop C dX6_writeRow_37 rfl ?_
      refine ok_aload_n C 0 dX6_writeRow_38 rfl ?_
      refine ok_getR C frX6_51_10 dX6_writeRow_39 (fun q6 => ?_)
      refine ok_aload_n C 1 dX6_writeRow_42 rfl ?_
      refine ok_iload_n C 2 dX6_writeRow_43 rfl ?_
      refine ok_callV C T [.int x3] (F := fX3_blockAt a2 x3) (ctX3_blockAt (C.2.2.2.2.2.2.2.2.1) a2 x3) vlX6_212 viX3_blockAt rfl rfl (by decide) rfl (by rw [hR.1, hR.2]; decide) (Nat.le_of_ble_eq_true rfl) dX6_writeRow_44 (ok_qI fun v7 s8 => ?_)
      refine ok_callV C T [.int v7] (F := fJ4_append_bf812 q6 v7) (ctJ4_append_bf812 (C.2.2.2.2.2.2.2.2.1) q6 v7) vlX6_360 viJ4_append_bf812 rfl rfl (by decide) rfl (by rw [hR.1, hR.2]; decide) (Nat.le_of_ble_eq_true rfl) dX6_writeRow_47 (ok_qR fun q9 s10 => ?_)
      refine ok_pop C dX6_writeRow_50 rfl ?_
      refine ok_aload_n C 0 dX6_writeRow_51 rfl ?_
      refine ok_getR C frX6_51_10 dX6_writeRow_52 (fun q11 => ?_)
      refine ok_bipush C (v := 93) dX6_writeRow_55 (by decide) ?_
      refine ok_callV C T [.int 93] (F := fJ4_append_cf468 q11 93) (ctJ4_append_cf468 (C.2.2.2.2.2.2.2.2.1) q11 93) vlX6_356 viJ4_append_cf468 rfl rfl (by decide) rfl (by rw [hR.1, hR.2]; decide) (Nat.le_of_ble_eq_true rfl) dX6_writeRow_57 (ok_qR fun q12 s13 => ?_)
      refine ok_pop C dX6_writeRow_60 rfl ?_
      refine ok_iincL C 2 (c := 1) (fun v14 => [(3, .int v14), (0, .ref a0), (2, .ref a2)]) dX6_writeRow_61 rfl rfl (by rw [hn]; decide) (fun _ => rfl) (fun v14 => ?_)
      refine ok_goto C 16 dX6_writeRow_64 (by decide) ?_
      refine OK.sub (lv' := [(0, .ref a0), (2, .ref a2), (3, .int v14)]) [1, 2, 0] rfl ?_
      exact ih a0 a2 v14 s13
set_option maxHeartbeats 4000000 in
theorem oX6_writeRow {Γ : CX} (C : OKC Γ cX6_writeRow RX6 (some (.int))) (T : ∀ z ∈ (cx_c Γ).exceptionTable.toList, False) (hn : cx_nL Γ = 4) (hR : cx_fr Γ = 9 ∧ cx_lo Γ = 227) (hin : (cx_meth Γ).name = yX6_writeRow.name) : ∀ (a0 : Nat) (x1 : Int32) (s0 : AS), OK Γ 0 [(0, .ref a0), (1, .int x1)] [] (fX6_writeRow a0 x1 s0) s0 := by
  intro a0 x1 s0
  unfold fX6_writeRow
  refine ok_aload_n C 0 dX6_writeRow_0 rfl ?_
  refine ok_iload_n C 1 dX6_writeRow_1 rfl ?_
  refine ok_callV C T [.int x1] (F := fX6_needRow a0 x1) (ctX6_needRow (C.2.2.2.2.2.2.2.2.1) a0 x1) vlX6_172 viX6_needRow rfl rfl (by decide) rfl (by rw [hR.1, hR.2]; decide) (Nat.le_of_ble_eq_true rfl) dX6_writeRow_2 (ok_qR fun q1 s2 => ?_)
  refine ok_astore_n C (i := 2) [(2, .ref q1), (0, .ref a0), (1, .int x1)] dX6_writeRow_5 rfl (by rw [hn]; decide) rfl ?_
  refine ok_aload_n C 1 dX6_writeRow_6 rfl ?_
  refine ok_getR C frX6_51_10 dX6_writeRow_7 (fun q3 => ?_)
  refine ok_iconst C (v := 0) dX6_writeRow_10 (by decide) ?_
  refine ok_callV C T [.int 0] (F := fJ4_setLength_d00df q3 0) (ctJ4_setLength_d00df (C.2.2.2.2.2.2.2.2.1) q3 0) vlX6_350 viJ4_setLength_d00df rfl rfl (by decide) rfl (by rw [hR.1, hR.2]; decide) (Nat.le_of_ble_eq_true rfl) dX6_writeRow_11 (ok_qV fun s4 => ?_)
  refine ok_iconst C (v := 0) dX6_writeRow_14 (by decide) ?_
  refine ok_istore_n C (i := 3) [(3, .int 0), (2, .ref q1), (0, .ref a0), (1, .int x1)] dX6_writeRow_15 rfl (by rw [hn]; decide) rfl ?_
  refine OK.sub (lv' := [(0, .ref a0), (2, .ref q1), (3, .int 0)]) [2, 1, 0] rfl ?_
  exact oX6_writeRow_16 C T hn hR hin FU a0 q1 0 s4
theorem ctX6_writeRow {l : Launch} (hl : l.stackTraces = false) {D : va_G} {dA : Nat → ClassId} {B0 : Nat} (a0 : Nat) (x1 : Int32) : Ct l D dA B0 yX6_writeRow (.code yX6_writeRow cX6_writeRow 4 (some (.int)) :: ax_ALL) 9 227 [.ref a0, .int x1] (fX6_writeRow a0 x1) :=
  Ct.of hl (by decide +kernel) (Nat.le_of_ble_eq_true rfl) fun Γ C _ _ _ _ e5 e6 e7 T hin => oX6_writeRow C T e5 ⟨e6, e7⟩ hin a0 x1 _
/-! ChaseLocker.writeStock()I -/
def fX6_writeStock_77  (a0 : Nat) (s0 : AS) : Option AR :=
  gR s0 a0 10 7 (fun q1 =>
  cV s0 q1 1 (fJ4_length_8abf5 q1 s0) (qI (fun v2 s3 =>
  some (.inl (some (.int v2)), s3))))
def fX6_writeStock_39 (r14 : Nat → Int32 → AS → Option AR) (a0 : Nat) (x1 : Int32) (s0 : AS) : Option AR :=
  cV s0 a0 10 (fX6_writeKind a0 x1 s0) (qV (fun s1 =>
  gR s1 a0 10 7 (fun q2 =>
  cV s1 q2 1 (fJ4_append_cf468 q2 58 s1) (qR (fun q3 s4 =>
  gR s4 a0 10 7 (fun q5 =>
  gR s4 a0 10 3 (fun q6 =>
  gR s4 q6 9 1 (fun q7 =>
  aI s4 q7 100 x1 (fun v8 =>
  cV s4 q5 1 (fJ4_append_bf812 q5 v8 s4) (qR (fun q9 s10 =>
  lt (x1 + 1) (fun v11 =>
  r14 a0 v11 s10))))))))))))
def fX6_writeStock_14  : Nat → Nat → Int32 → AS → Option AR
  | 0, _, _, _ => none
  | n + 1, a0, x1, s0 =>
    gR s0 a0 10 8 (fun q1 =>
    gI s0 q1 5 7 (fun v2 =>
    if v2 ≤ x1 then (
      fX6_writeStock_77 a0 s0)
    else (
      if x1 ≤ 0 then (
        fX6_writeStock_39 (fX6_writeStock_14 n) a0 x1 s0)
      else (
        gR s0 a0 10 7 (fun q3 =>
        cV s0 q3 1 (fJ4_append_cf468 q3 44 s0) (qR (fun q4 s5 =>
        fX6_writeStock_39 (fX6_writeStock_14 n) a0 x1 s5)))))))
def fX6_writeStock (a0 : Nat) (s0 : AS) : Option AR :=
  cV s0 a0 10 (fX6_needChase a0 s0) (qV (fun s1 =>
  gR s1 a0 10 7 (fun q2 =>
  cV s1 q2 1 (fJ4_setLength_d00df q2 0 s1) (qV (fun s3 =>
  fX6_writeStock_14 FU a0 0 s3)))))
set_option maxHeartbeats 4000000 in
theorem oX6_writeStock_77 {Γ : CX} (C : OKC Γ cX6_writeStock RX6 (some (.int))) (T : ∀ z ∈ (cx_c Γ).exceptionTable.toList, False) (hn : cx_nL Γ = 2) (hR : cx_fr Γ = 8 ∧ cx_lo Γ = 209) (hin : (cx_meth Γ).name = yX6_writeStock.name) : ∀ (a0 : Nat) (s0 : AS), OK Γ 77 [(0, .ref a0)] [] (fX6_writeStock_77  a0 s0) s0 := by
  intro a0 s0
  unfold fX6_writeStock_77
  refine ok_aload_n C 0 dX6_writeStock_77 rfl ?_
  refine ok_getR C frX6_51_10 dX6_writeStock_78 (fun q1 => ?_)
  refine ok_callV C T [] (F := fJ4_length_8abf5 q1) (ctJ4_length_8abf5 (C.2.2.2.2.2.2.2.2.1) q1) vlX6_369 viJ4_length_8abf5 rfl rfl (by decide) rfl (by rw [hR.1, hR.2]; decide) (Nat.le_of_ble_eq_true rfl) dX6_writeStock_81 (ok_qI fun v2 s3 => ?_)
  exact ok_ireturn C dX6_writeStock_84
set_option maxHeartbeats 4000000 in
theorem oX6_writeStock_39 {Γ : CX} (C : OKC Γ cX6_writeStock RX6 (some (.int))) (T : ∀ z ∈ (cx_c Γ).exceptionTable.toList, False) (hn : cx_nL Γ = 2) (hR : cx_fr Γ = 8 ∧ cx_lo Γ = 209) (hin : (cx_meth Γ).name = yX6_writeStock.name) {r14 : Nat → Int32 → AS → Option AR} (h14 : ∀ (a0 : Nat) (x1 : Int32) (s0 : AS), OK Γ 14 [(0, .ref a0), (1, .int x1)] [] (r14 a0 x1 s0) s0) : ∀ (a0 : Nat) (x1 : Int32) (s0 : AS), OK Γ 39 [(0, .ref a0), (1, .int x1)] [] (fX6_writeStock_39 r14 a0 x1 s0) s0 := by
  intro a0 x1 s0
  unfold fX6_writeStock_39
  refine ok_aload_n C 0 dX6_writeStock_39 rfl ?_
  refine ok_iload_n C 1 dX6_writeStock_40 rfl ?_
  refine ok_callV C T [.int x1] (F := fX6_writeKind a0 x1) (ctX6_writeKind (C.2.2.2.2.2.2.2.2.1) a0 x1) vlX6_363 viX6_writeKind rfl rfl (by decide) rfl (by rw [hR.1, hR.2]; decide) (Nat.le_of_ble_eq_true rfl) dX6_writeStock_41 (ok_qV fun s1 => ?_)
  refine ok_aload_n C 0 dX6_writeStock_44 rfl ?_
  refine ok_getR C frX6_51_10 dX6_writeStock_45 (fun q2 => ?_)
  refine ok_bipush C (v := 58) dX6_writeStock_48 (by decide) ?_
  refine ok_callV C T [.int 58] (F := fJ4_append_cf468 q2 58) (ctJ4_append_cf468 (C.2.2.2.2.2.2.2.2.1) q2 58) vlX6_356 viJ4_append_cf468 rfl rfl (by decide) rfl (by rw [hR.1, hR.2]; decide) (Nat.le_of_ble_eq_true rfl) dX6_writeStock_50 (ok_qR fun q3 s4 => ?_)
  refine ok_pop C dX6_writeStock_53 rfl ?_
  refine ok_aload_n C 0 dX6_writeStock_54 rfl ?_
  refine ok_getR C frX6_51_10 dX6_writeStock_55 (fun q5 => ?_)
  refine ok_aload_n C 0 dX6_writeStock_58 rfl ?_
  refine ok_getR C frX6_33_10 dX6_writeStock_59 (fun q6 => ?_)
  refine ok_getR C frX6_230_9 dX6_writeStock_62 (fun q7 => ?_)
  refine ok_iload_n C 1 dX6_writeStock_65 rfl ?_
  refine ok_iald C dX6_writeStock_66 (fun v8 => ?_)
  refine ok_callV C T [.int v8] (F := fJ4_append_bf812 q5 v8) (ctJ4_append_bf812 (C.2.2.2.2.2.2.2.2.1) q5 v8) vlX6_360 viJ4_append_bf812 rfl rfl (by decide) rfl (by rw [hR.1, hR.2]; decide) (Nat.le_of_ble_eq_true rfl) dX6_writeStock_67 (ok_qR fun q9 s10 => ?_)
  refine ok_pop C dX6_writeStock_70 rfl ?_
  refine ok_iincL C 1 (c := 1) (fun v11 => [(1, .int v11), (0, .ref a0)]) dX6_writeStock_71 rfl rfl (by rw [hn]; decide) (fun _ => rfl) (fun v11 => ?_)
  refine ok_goto C 14 dX6_writeStock_74 (by decide) ?_
  refine OK.sub (lv' := [(0, .ref a0), (1, .int v11)]) [1, 0] rfl ?_
  exact h14 a0 v11 s10
set_option maxHeartbeats 4000000 in
theorem oX6_writeStock_14 {Γ : CX} (C : OKC Γ cX6_writeStock RX6 (some (.int))) (T : ∀ z ∈ (cx_c Γ).exceptionTable.toList, False) (hn : cx_nL Γ = 2) (hR : cx_fr Γ = 8 ∧ cx_lo Γ = 209) (hin : (cx_meth Γ).name = yX6_writeStock.name) : ∀ (n : Nat) (a0 : Nat) (x1 : Int32) (s0 : AS), OK Γ 14 [(0, .ref a0), (1, .int x1)] [] (fX6_writeStock_14 n a0 x1 s0) s0 := by
  intro n
  induction n with
  | zero => intro _ _ s0; exact OK.none
  | succ n ih =>
    intro a0 x1 s0
    rw [fX6_writeStock_14]
    refine ok_iload_n C 1 dX6_writeStock_14 rfl ?_
    refine ok_aload_n C 0 dX6_writeStock_15 rfl ?_
    refine ok_getR C frX6_58_10 dX6_writeStock_16 (fun q1 => ?_)
    refine ok_getI C frX6_92_5 dX6_writeStock_19 (fun v2 => ?_)
    refine ok_icmp_ge C 77 dX6_writeStock_22 (by decide) ?_ ?_
    · refine OK.sub (lv' := [(0, .ref a0)]) [0] rfl ?_
      exact oX6_writeStock_77 C T hn hR hin a0 s0
    · refine ok_iload_n C 1 dX6_writeStock_25 rfl ?_
      refine ok_if_le C 39 dX6_writeStock_26 (by decide) ?_ ?_
      · exact oX6_writeStock_39 C T hn hR hin ih a0 x1 s0
      · refine ok_aload_n C 0 dX6_writeStock_29 rfl ?_
        refine ok_getR C frX6_51_10 dX6_writeStock_30 (fun q3 => ?_)
        refine ok_bipush C (v := 44) dX6_writeStock_33 (by decide) ?_
        refine ok_callV C T [.int 44] (F := fJ4_append_cf468 q3 44) (ctJ4_append_cf468 (C.2.2.2.2.2.2.2.2.1) q3 44) vlX6_356 viJ4_append_cf468 rfl rfl (by decide) rfl (by rw [hR.1, hR.2]; decide) (Nat.le_of_ble_eq_true rfl) dX6_writeStock_35 (ok_qR fun q4 s5 => ?_)
        refine ok_pop C dX6_writeStock_38 rfl ?_
        exact oX6_writeStock_39 C T hn hR hin ih a0 x1 s5
set_option maxHeartbeats 4000000 in
theorem oX6_writeStock {Γ : CX} (C : OKC Γ cX6_writeStock RX6 (some (.int))) (T : ∀ z ∈ (cx_c Γ).exceptionTable.toList, False) (hn : cx_nL Γ = 2) (hR : cx_fr Γ = 8 ∧ cx_lo Γ = 209) (hin : (cx_meth Γ).name = yX6_writeStock.name) : ∀ (a0 : Nat) (s0 : AS), OK Γ 0 [(0, .ref a0)] [] (fX6_writeStock a0 s0) s0 := by
  intro a0 s0
  unfold fX6_writeStock
  refine ok_aload_n C 0 dX6_writeStock_0 rfl ?_
  refine ok_callV C T [] (F := fX6_needChase a0) (ctX6_needChase (C.2.2.2.2.2.2.2.2.1) a0) vlX6_112 viX6_needChase rfl rfl (by decide) rfl (by rw [hR.1, hR.2]; decide) (Nat.le_of_ble_eq_true rfl) dX6_writeStock_1 (ok_qV fun s1 => ?_)
  refine ok_aload_n C 0 dX6_writeStock_4 rfl ?_
  refine ok_getR C frX6_51_10 dX6_writeStock_5 (fun q2 => ?_)
  refine ok_iconst C (v := 0) dX6_writeStock_8 (by decide) ?_
  refine ok_callV C T [.int 0] (F := fJ4_setLength_d00df q2 0) (ctJ4_setLength_d00df (C.2.2.2.2.2.2.2.2.1) q2 0) vlX6_350 viJ4_setLength_d00df rfl rfl (by decide) rfl (by rw [hR.1, hR.2]; decide) (Nat.le_of_ble_eq_true rfl) dX6_writeStock_9 (ok_qV fun s3 => ?_)
  refine ok_iconst C (v := 0) dX6_writeStock_12 (by decide) ?_
  refine ok_istore_n C (i := 1) [(1, .int 0), (0, .ref a0)] dX6_writeStock_13 rfl (by rw [hn]; decide) rfl ?_
  refine OK.sub (lv' := [(0, .ref a0), (1, .int 0)]) [1, 0] rfl ?_
  exact oX6_writeStock_14 C T hn hR hin FU a0 0 s3
theorem ctX6_writeStock {l : Launch} (hl : l.stackTraces = false) {D : va_G} {dA : Nat → ClassId} {B0 : Nat} (a0 : Nat) : Ct l D dA B0 yX6_writeStock (.code yX6_writeStock cX6_writeStock 2 (some (.int)) :: ax_ALL) 8 209 [.ref a0] (fX6_writeStock a0) :=
  Ct.of hl (by decide +kernel) (Nat.le_of_ble_eq_true rfl) fun Γ C _ _ _ _ e5 e6 e7 T hin => oX6_writeStock C T e5 ⟨e6, e7⟩ hin a0 _
/-! ChaseLocker.textByte(I)I -/
def fX6_textByte (a0 : Nat) (x1 : Int32) (s0 : AS) : Option AR :=
  gR s0 a0 10 7 (fun q1 =>
  cV s0 q1 1 (fJ4_length_8abf5 q1 s0) (qI (fun v2 s3 =>
  cS s3 (fX6_needIndex x1 v2 s3) (qV (fun s4 =>
  gR s4 a0 10 7 (fun q5 =>
  cV s4 q5 1 (fJ4_charAt_5068e q5 x1 s4) (qI (fun v6 s7 =>
  some (.inl (some (.int v6)), s7)))))))))
set_option maxHeartbeats 4000000 in
theorem oX6_textByte {Γ : CX} (C : OKC Γ cX6_textByte RX6 (some (.int))) (T : ∀ z ∈ (cx_c Γ).exceptionTable.toList, False) (hn : cx_nL Γ = 2) (hR : cx_fr Γ = 7 ∧ cx_lo Γ = 148) (hin : (cx_meth Γ).name = yX6_textByte.name) : ∀ (a0 : Nat) (x1 : Int32) (s0 : AS), OK Γ 0 [(0, .ref a0), (1, .int x1)] [] (fX6_textByte a0 x1 s0) s0 := by
  intro a0 x1 s0
  unfold fX6_textByte
  refine ok_iload_n C 1 dX6_textByte_0 rfl ?_
  refine ok_aload_n C 0 dX6_textByte_1 rfl ?_
  refine ok_getR C frX6_51_10 dX6_textByte_2 (fun q1 => ?_)
  refine ok_callV C T [] (F := fJ4_length_8abf5 q1) (ctJ4_length_8abf5 (C.2.2.2.2.2.2.2.2.1) q1) vlX6_369 viJ4_length_8abf5 rfl rfl (by decide) rfl (by rw [hR.1, hR.2]; decide) (Nat.le_of_ble_eq_true rfl) dX6_textByte_5 (ok_qI fun v2 s3 => ?_)
  refine ok_callS C T [.int x1, .int v2] (F := fX6_needIndex x1 v2) (ctX6_needIndex (C.2.2.2.2.2.2.2.2.1) x1 v2) vlX6_208 kw_568 rfl (by rw [hR.1, hR.2]; decide) (Nat.le_of_ble_eq_true rfl) dX6_textByte_8 (ok_qV fun s4 => ?_)
  refine ok_aload_n C 0 dX6_textByte_11 rfl ?_
  refine ok_getR C frX6_51_10 dX6_textByte_12 (fun q5 => ?_)
  refine ok_iload_n C 1 dX6_textByte_15 rfl ?_
  refine ok_callV C T [.int x1] (F := fJ4_charAt_5068e q5 x1) (ctJ4_charAt_5068e (C.2.2.2.2.2.2.2.2.1) q5 x1) vlX6_372 viJ4_charAt_5068e rfl rfl (by decide) rfl (by rw [hR.1, hR.2]; decide) (Nat.le_of_ble_eq_true rfl) dX6_textByte_16 (ok_qI fun v6 s7 => ?_)
  exact ok_ireturn C dX6_textByte_19
theorem ctX6_textByte {l : Launch} (hl : l.stackTraces = false) {D : va_G} {dA : Nat → ClassId} {B0 : Nat} (a0 : Nat) (x1 : Int32) : Ct l D dA B0 yX6_textByte (.code yX6_textByte cX6_textByte 2 (some (.int)) :: ax_ALL) 7 148 [.ref a0, .int x1] (fX6_textByte a0 x1) :=
  Ct.of hl (by decide +kernel) (Nat.le_of_ble_eq_true rfl) fun Γ C _ _ _ _ e5 e6 e7 T hin => oX6_textByte C T e5 ⟨e6, e7⟩ hin a0 x1 _
/-! ChaseLocker.place(II)I -/
def fX6_place (a0 : Nat) (x1 : Int32) (x2 : Int32) (s0 : AS) : Option AR :=
  cV s0 a0 10 (fX6_needRow a0 x1 s0) (qR (fun q1 s2 =>
  cS s2 (fX6_needBlockLength x2 s2) (qV (fun s3 =>
  gR s3 a0 10 8 (fun q4 =>
  cV s3 q1 7 (fX3_takesBlock q1 q4 x2 s3) (qI (fun v5 s6 =>
  if v5 = 0 then (
    tE "java/lang/IllegalArgumentException" s6)
  else (
    gR s6 a0 10 2 (fun q7 =>
    gR s6 a0 10 3 (fun q8 =>
    cV s6 q7 4 (fX0_remember q7 q8 s6) (qV (fun s9 =>
    cV s9 q1 7 (fX3_addBlock q1 x2 s9) (qV (fun s10 =>
    gR s10 a0 10 8 (fun q11 =>
    cV s10 q1 7 (fX3_gapIn q1 q11 s10) (qI (fun v12 s13 =>
    some (.inl (some (.int v12)), s13))))))))))))))))))
set_option maxHeartbeats 4000000 in
theorem oX6_place {Γ : CX} (C : OKC Γ cX6_place RX6 (some (.int))) (T : ∀ z ∈ (cx_c Γ).exceptionTable.toList, False) (hn : cx_nL Γ = 4) (hR : cx_fr Γ = 8 ∧ cx_lo Γ = 164) (hin : (cx_meth Γ).name = yX6_place.name) : ∀ (a0 : Nat) (x1 : Int32) (x2 : Int32) (s0 : AS), OK Γ 0 [(0, .ref a0), (1, .int x1), (2, .int x2)] [] (fX6_place a0 x1 x2 s0) s0 := by
  intro a0 x1 x2 s0
  unfold fX6_place
  refine ok_aload_n C 0 dX6_place_0 rfl ?_
  refine ok_iload_n C 1 dX6_place_1 rfl ?_
  refine ok_callV C T [.int x1] (F := fX6_needRow a0 x1) (ctX6_needRow (C.2.2.2.2.2.2.2.2.1) a0 x1) vlX6_172 viX6_needRow rfl rfl (by decide) rfl (by rw [hR.1, hR.2]; decide) (Nat.le_of_ble_eq_true rfl) dX6_place_2 (ok_qR fun q1 s2 => ?_)
  refine ok_astore_n C (i := 3) [(3, .ref q1), (0, .ref a0), (1, .int x1), (2, .int x2)] dX6_place_5 rfl (by rw [hn]; decide) rfl ?_
  refine ok_iload_n C 3 dX6_place_6 rfl ?_
  refine ok_callS C T [.int x2] (F := fX6_needBlockLength x2) (ctX6_needBlockLength (C.2.2.2.2.2.2.2.2.1) x2) vlX6_306 kw_619 rfl (by rw [hR.1, hR.2]; decide) (Nat.le_of_ble_eq_true rfl) dX6_place_7 (ok_qV fun s3 => ?_)
  refine ok_aload_n C 0 dX6_place_10 rfl ?_
  refine ok_aload_n C 1 dX6_place_11 rfl ?_
  refine ok_getR C frX6_58_10 dX6_place_12 (fun q4 => ?_)
  refine ok_iload_n C 3 dX6_place_15 rfl ?_
  refine ok_callV C T [.ref q4, .int x2] (F := fX3_takesBlock q1 q4 x2) (ctX3_takesBlock (C.2.2.2.2.2.2.2.2.1) q1 q4 x2) vlX6_314 viX3_takesBlock rfl rfl (by decide) rfl (by rw [hR.1, hR.2]; decide) (Nat.le_of_ble_eq_true rfl) dX6_place_16 (ok_qI fun v5 s6 => ?_)
  refine ok_if_ne C 33 dX6_place_19 (by decide) ?_ ?_
  · refine ok_aload_n C 1 dX6_place_33 rfl ?_
    refine ok_getR C frX6_26_10 dX6_place_34 (fun q7 => ?_)
    refine ok_aload_n C 1 dX6_place_37 rfl ?_
    refine ok_getR C frX6_33_10 dX6_place_38 (fun q8 => ?_)
    refine ok_callV C T [.ref q8] (F := fX0_remember q7 q8) (ctX0_remember (C.2.2.2.2.2.2.2.2.1) q7 q8) vlX6_378 viX0_remember rfl rfl (by decide) rfl (by rw [hR.1, hR.2]; decide) (Nat.le_of_ble_eq_true rfl) dX6_place_41 (ok_qV fun s9 => ?_)
    refine ok_aload_n C 0 dX6_place_44 rfl ?_
    refine ok_iload_n C 3 dX6_place_45 rfl ?_
    refine ok_callV C T [.int x2] (F := fX3_addBlock q1 x2) (ctX3_addBlock (C.2.2.2.2.2.2.2.2.1) q1 x2) vlX6_381 viX3_addBlock rfl rfl (by decide) rfl (by rw [hR.1, hR.2]; decide) (Nat.le_of_ble_eq_true rfl) dX6_place_46 (ok_qV fun s10 => ?_)
    refine ok_aload_n C 0 dX6_place_49 rfl ?_
    refine ok_aload_n C 1 dX6_place_50 rfl ?_
    refine ok_getR C frX6_58_10 dX6_place_51 (fun q11 => ?_)
    refine ok_callV C T [.ref q11] (F := fX3_gapIn q1 q11) (ctX3_gapIn (C.2.2.2.2.2.2.2.2.1) q1 q11) vlX6_184 viX3_gapIn rfl rfl (by decide) rfl (by rw [hR.1, hR.2]; decide) (Nat.le_of_ble_eq_true rfl) dX6_place_54 (ok_qI fun v12 s13 => ?_)
    exact ok_ireturn C dX6_place_57
  · exact ok_throwSW C T tlX6_84_88 (i := 9) rfl dX6_place_22 dX6_place_25 dX6_place_26 dX6_place_29 dX6_place_32 (by rw [hR.1]; decide) (by rw [hR.2]; exact Nat.le_of_ble_eq_true rfl)
theorem ctX6_place {l : Launch} (hl : l.stackTraces = false) {D : va_G} {dA : Nat → ClassId} {B0 : Nat} (a0 : Nat) (x1 : Int32) (x2 : Int32) : Ct l D dA B0 yX6_place (.code yX6_place cX6_place 4 (some (.int)) :: ax_ALL) 8 164 [.ref a0, .int x1, .int x2] (fX6_place a0 x1 x2) :=
  Ct.of hl (by decide +kernel) (Nat.le_of_ble_eq_true rfl) fun Γ C _ _ _ _ e5 e6 e7 T hin => oX6_place C T e5 ⟨e6, e7⟩ hin a0 x1 x2 _
/-! ChaseLocker.lift(II)I -/
def fX6_lift (a0 : Nat) (x1 : Int32) (x2 : Int32) (s0 : AS) : Option AR :=
  cV s0 a0 10 (fX6_needRow a0 x1 s0) (qR (fun q1 s2 =>
  gI s2 q1 7 1 (fun v3 =>
  cS s2 (fX6_needIndex x2 v3 s2) (qV (fun s4 =>
  gR s4 a0 10 2 (fun q5 =>
  gR s4 a0 10 3 (fun q6 =>
  cV s4 q5 4 (fX0_remember q5 q6 s4) (qV (fun s7 =>
  cV s7 q1 7 (fX3_removeBlock q1 x2 s7) (qI (fun v8 s9 =>
  some (.inl (some (.int v8)), s9))))))))))))
set_option maxHeartbeats 4000000 in
theorem oX6_lift {Γ : CX} (C : OKC Γ cX6_lift RX6 (some (.int))) (T : ∀ z ∈ (cx_c Γ).exceptionTable.toList, False) (hn : cx_nL Γ = 4) (hR : cx_fr Γ = 8 ∧ cx_lo Γ = 164) (hin : (cx_meth Γ).name = yX6_lift.name) : ∀ (a0 : Nat) (x1 : Int32) (x2 : Int32) (s0 : AS), OK Γ 0 [(0, .ref a0), (1, .int x1), (2, .int x2)] [] (fX6_lift a0 x1 x2 s0) s0 := by
  intro a0 x1 x2 s0
  unfold fX6_lift
  refine ok_aload_n C 0 dX6_lift_0 rfl ?_
  refine ok_iload_n C 1 dX6_lift_1 rfl ?_
  refine ok_callV C T [.int x1] (F := fX6_needRow a0 x1) (ctX6_needRow (C.2.2.2.2.2.2.2.2.1) a0 x1) vlX6_172 viX6_needRow rfl rfl (by decide) rfl (by rw [hR.1, hR.2]; decide) (Nat.le_of_ble_eq_true rfl) dX6_lift_2 (ok_qR fun q1 s2 => ?_)
  refine ok_astore_n C (i := 3) [(3, .ref q1), (0, .ref a0), (1, .int x1), (2, .int x2)] dX6_lift_5 rfl (by rw [hn]; decide) rfl ?_
  refine ok_iload_n C 3 dX6_lift_6 rfl ?_
  refine ok_aload_n C 0 dX6_lift_7 rfl ?_
  refine ok_getI C frX6_176_7 dX6_lift_8 (fun v3 => ?_)
  refine ok_callS C T [.int x2, .int v3] (F := fX6_needIndex x2 v3) (ctX6_needIndex (C.2.2.2.2.2.2.2.2.1) x2 v3) vlX6_208 kw_568 rfl (by rw [hR.1, hR.2]; decide) (Nat.le_of_ble_eq_true rfl) dX6_lift_11 (ok_qV fun s4 => ?_)
  refine ok_aload_n C 1 dX6_lift_14 rfl ?_
  refine ok_getR C frX6_26_10 dX6_lift_15 (fun q5 => ?_)
  refine ok_aload_n C 1 dX6_lift_18 rfl ?_
  refine ok_getR C frX6_33_10 dX6_lift_19 (fun q6 => ?_)
  refine ok_callV C T [.ref q6] (F := fX0_remember q5 q6) (ctX0_remember (C.2.2.2.2.2.2.2.2.1) q5 q6) vlX6_378 viX0_remember rfl rfl (by decide) rfl (by rw [hR.1, hR.2]; decide) (Nat.le_of_ble_eq_true rfl) dX6_lift_22 (ok_qV fun s7 => ?_)
  refine ok_aload_n C 0 dX6_lift_25 rfl ?_
  refine ok_iload_n C 3 dX6_lift_26 rfl ?_
  refine ok_callV C T [.int x2] (F := fX3_removeBlock q1 x2) (ctX3_removeBlock (C.2.2.2.2.2.2.2.2.1) q1 x2) vlX6_384 viX3_removeBlock rfl rfl (by decide) rfl (by rw [hR.1, hR.2]; decide) (Nat.le_of_ble_eq_true rfl) dX6_lift_27 (ok_qI fun v8 s9 => ?_)
  exact ok_ireturn C dX6_lift_30
theorem ctX6_lift {l : Launch} (hl : l.stackTraces = false) {D : va_G} {dA : Nat → ClassId} {B0 : Nat} (a0 : Nat) (x1 : Int32) (x2 : Int32) : Ct l D dA B0 yX6_lift (.code yX6_lift cX6_lift 4 (some (.int)) :: ax_ALL) 8 164 [.ref a0, .int x1, .int x2] (fX6_lift a0 x1 x2) :=
  Ct.of hl (by decide +kernel) (Nat.le_of_ble_eq_true rfl) fun Γ C _ _ _ _ e5 e6 e7 T hin => oX6_lift C T e5 ⟨e6, e7⟩ hin a0 x1 x2 _
/-! ChaseLocker.put(II)I -/
def fX6_put (a0 : Nat) (x1 : Int32) (x2 : Int32) (s0 : AS) : Option AR :=
  cV s0 a0 10 (fX6_needRow a0 x1 s0) (qR (fun q1 s2 =>
  cV s2 a0 10 (fX6_needKind a0 x2 s2) (qV (fun s3 =>
  cV s3 a0 10 (fX6_takesPiece a0 q1 x2 s3) (qI (fun v4 s5 =>
  if v4 = 0 then (
    tE "java/lang/IllegalArgumentException" s5)
  else (
    gR s5 a0 10 2 (fun q6 =>
    gR s5 a0 10 3 (fun q7 =>
    cV s5 q6 4 (fX0_remember q6 q7 s5) (qV (fun s8 =>
    gR s8 a0 10 3 (fun q9 =>
    gR s8 a0 10 8 (fun q10 =>
    cV s8 q9 9 (fX5_movePieceIn q9 q10 q1 x2 s8) (qV (fun s11 =>
    gR s11 a0 10 8 (fun q12 =>
    cV s11 q1 7 (fX3_gapIn q1 q12 s11) (qI (fun v13 s14 =>
    some (.inl (some (.int v13)), s14)))))))))))))))))))
set_option maxHeartbeats 4000000 in
theorem oX6_put {Γ : CX} (C : OKC Γ cX6_put RX6 (some (.int))) (T : ∀ z ∈ (cx_c Γ).exceptionTable.toList, False) (hn : cx_nL Γ = 4) (hR : cx_fr Γ = 8 ∧ cx_lo Γ = 164) (hin : (cx_meth Γ).name = yX6_put.name) : ∀ (a0 : Nat) (x1 : Int32) (x2 : Int32) (s0 : AS), OK Γ 0 [(0, .ref a0), (1, .int x1), (2, .int x2)] [] (fX6_put a0 x1 x2 s0) s0 := by
  intro a0 x1 x2 s0
  unfold fX6_put
  refine ok_aload_n C 0 dX6_put_0 rfl ?_
  refine ok_iload_n C 1 dX6_put_1 rfl ?_
  refine ok_callV C T [.int x1] (F := fX6_needRow a0 x1) (ctX6_needRow (C.2.2.2.2.2.2.2.2.1) a0 x1) vlX6_172 viX6_needRow rfl rfl (by decide) rfl (by rw [hR.1, hR.2]; decide) (Nat.le_of_ble_eq_true rfl) dX6_put_2 (ok_qR fun q1 s2 => ?_)
  refine ok_astore_n C (i := 3) [(3, .ref q1), (0, .ref a0), (1, .int x1), (2, .int x2)] dX6_put_5 rfl (by rw [hn]; decide) rfl ?_
  refine ok_aload_n C 1 dX6_put_6 rfl ?_
  refine ok_iload_n C 3 dX6_put_7 rfl ?_
  refine ok_callV C T [.int x2] (F := fX6_needKind a0 x2) (ctX6_needKind (C.2.2.2.2.2.2.2.2.1) a0 x2) vlX6_219 viX6_needKind rfl rfl (by decide) rfl (by rw [hR.1, hR.2]; decide) (Nat.le_of_ble_eq_true rfl) dX6_put_8 (ok_qV fun s3 => ?_)
  refine ok_aload_n C 1 dX6_put_11 rfl ?_
  refine ok_aload_n C 0 dX6_put_12 rfl ?_
  refine ok_iload_n C 3 dX6_put_13 rfl ?_
  refine ok_callV C T [.ref q1, .int x2] (F := fX6_takesPiece a0 q1 x2) (ctX6_takesPiece (C.2.2.2.2.2.2.2.2.1) a0 q1 x2) vlX6_325 viX6_takesPiece rfl rfl (by decide) rfl (by rw [hR.1, hR.2]; decide) (Nat.le_of_ble_eq_true rfl) dX6_put_14 (ok_qI fun v4 s5 => ?_)
  refine ok_if_ne C 31 dX6_put_17 (by decide) ?_ ?_
  · refine ok_aload_n C 1 dX6_put_31 rfl ?_
    refine ok_getR C frX6_26_10 dX6_put_32 (fun q6 => ?_)
    refine ok_aload_n C 1 dX6_put_35 rfl ?_
    refine ok_getR C frX6_33_10 dX6_put_36 (fun q7 => ?_)
    refine ok_callV C T [.ref q7] (F := fX0_remember q6 q7) (ctX0_remember (C.2.2.2.2.2.2.2.2.1) q6 q7) vlX6_378 viX0_remember rfl rfl (by decide) rfl (by rw [hR.1, hR.2]; decide) (Nat.le_of_ble_eq_true rfl) dX6_put_39 (ok_qV fun s8 => ?_)
    refine ok_aload_n C 1 dX6_put_42 rfl ?_
    refine ok_getR C frX6_33_10 dX6_put_43 (fun q9 => ?_)
    refine ok_aload_n C 1 dX6_put_46 rfl ?_
    refine ok_getR C frX6_58_10 dX6_put_47 (fun q10 => ?_)
    refine ok_aload_n C 0 dX6_put_50 rfl ?_
    refine ok_iload_n C 3 dX6_put_51 rfl ?_
    refine ok_callV C T [.ref q10, .ref q1, .int x2] (F := fX5_movePieceIn q9 q10 q1 x2) (ctX5_movePieceIn (C.2.2.2.2.2.2.2.2.1) q9 q10 q1 x2) vlX6_389 viX5_movePieceIn rfl rfl (by decide) rfl (by rw [hR.1, hR.2]; decide) (Nat.le_of_ble_eq_true rfl) dX6_put_52 (ok_qV fun s11 => ?_)
    refine ok_aload_n C 0 dX6_put_55 rfl ?_
    refine ok_aload_n C 1 dX6_put_56 rfl ?_
    refine ok_getR C frX6_58_10 dX6_put_57 (fun q12 => ?_)
    refine ok_callV C T [.ref q12] (F := fX3_gapIn q1 q12) (ctX3_gapIn (C.2.2.2.2.2.2.2.2.1) q1 q12) vlX6_184 viX3_gapIn rfl rfl (by decide) rfl (by rw [hR.1, hR.2]; decide) (Nat.le_of_ble_eq_true rfl) dX6_put_60 (ok_qI fun v13 s14 => ?_)
    exact ok_ireturn C dX6_put_63
  · exact ok_throwSW C T tlX6_84_88 (i := 10) rfl dX6_put_20 dX6_put_23 dX6_put_24 dX6_put_27 dX6_put_30 (by rw [hR.1]; decide) (by rw [hR.2]; exact Nat.le_of_ble_eq_true rfl)
theorem ctX6_put {l : Launch} (hl : l.stackTraces = false) {D : va_G} {dA : Nat → ClassId} {B0 : Nat} (a0 : Nat) (x1 : Int32) (x2 : Int32) : Ct l D dA B0 yX6_put (.code yX6_put cX6_put 4 (some (.int)) :: ax_ALL) 8 164 [.ref a0, .int x1, .int x2] (fX6_put a0 x1 x2) :=
  Ct.of hl (by decide +kernel) (Nat.le_of_ble_eq_true rfl) fun Γ C _ _ _ _ e5 e6 e7 T hin => oX6_put C T e5 ⟨e6, e7⟩ hin a0 x1 x2 _
/-! ChaseLocker.take(II)I -/
def fX6_take (a0 : Nat) (x1 : Int32) (x2 : Int32) (s0 : AS) : Option AR :=
  cV s0 a0 10 (fX6_needRow a0 x1 s0) (qR (fun q1 s2 =>
  gI s2 q1 7 4 (fun v3 =>
  cS s2 (fX6_needIndex x2 v3 s2) (qV (fun s4 =>
  gR s4 a0 10 2 (fun q5 =>
  gR s4 a0 10 3 (fun q6 =>
  cV s4 q5 4 (fX0_remember q5 q6 s4) (qV (fun s7 =>
  gR s7 a0 10 3 (fun q8 =>
  gR s7 a0 10 8 (fun q9 =>
  cV s7 q8 9 (fX5_movePieceOut q8 q9 q1 x2 s7) (qI (fun v10 s11 =>
  some (.inl (some (.int v10)), s11))))))))))))))
set_option maxHeartbeats 4000000 in
theorem oX6_take {Γ : CX} (C : OKC Γ cX6_take RX6 (some (.int))) (T : ∀ z ∈ (cx_c Γ).exceptionTable.toList, False) (hn : cx_nL Γ = 4) (hR : cx_fr Γ = 8 ∧ cx_lo Γ = 164) (hin : (cx_meth Γ).name = yX6_take.name) : ∀ (a0 : Nat) (x1 : Int32) (x2 : Int32) (s0 : AS), OK Γ 0 [(0, .ref a0), (1, .int x1), (2, .int x2)] [] (fX6_take a0 x1 x2 s0) s0 := by
  intro a0 x1 x2 s0
  unfold fX6_take
  refine ok_aload_n C 0 dX6_take_0 rfl ?_
  refine ok_iload_n C 1 dX6_take_1 rfl ?_
  refine ok_callV C T [.int x1] (F := fX6_needRow a0 x1) (ctX6_needRow (C.2.2.2.2.2.2.2.2.1) a0 x1) vlX6_172 viX6_needRow rfl rfl (by decide) rfl (by rw [hR.1, hR.2]; decide) (Nat.le_of_ble_eq_true rfl) dX6_take_2 (ok_qR fun q1 s2 => ?_)
  refine ok_astore_n C (i := 3) [(3, .ref q1), (0, .ref a0), (1, .int x1), (2, .int x2)] dX6_take_5 rfl (by rw [hn]; decide) rfl ?_
  refine ok_iload_n C 3 dX6_take_6 rfl ?_
  refine ok_aload_n C 0 dX6_take_7 rfl ?_
  refine ok_getI C frX6_181_7 dX6_take_8 (fun v3 => ?_)
  refine ok_callS C T [.int x2, .int v3] (F := fX6_needIndex x2 v3) (ctX6_needIndex (C.2.2.2.2.2.2.2.2.1) x2 v3) vlX6_208 kw_568 rfl (by rw [hR.1, hR.2]; decide) (Nat.le_of_ble_eq_true rfl) dX6_take_11 (ok_qV fun s4 => ?_)
  refine ok_aload_n C 1 dX6_take_14 rfl ?_
  refine ok_getR C frX6_26_10 dX6_take_15 (fun q5 => ?_)
  refine ok_aload_n C 1 dX6_take_18 rfl ?_
  refine ok_getR C frX6_33_10 dX6_take_19 (fun q6 => ?_)
  refine ok_callV C T [.ref q6] (F := fX0_remember q5 q6) (ctX0_remember (C.2.2.2.2.2.2.2.2.1) q5 q6) vlX6_378 viX0_remember rfl rfl (by decide) rfl (by rw [hR.1, hR.2]; decide) (Nat.le_of_ble_eq_true rfl) dX6_take_22 (ok_qV fun s7 => ?_)
  refine ok_aload_n C 1 dX6_take_25 rfl ?_
  refine ok_getR C frX6_33_10 dX6_take_26 (fun q8 => ?_)
  refine ok_aload_n C 1 dX6_take_29 rfl ?_
  refine ok_getR C frX6_58_10 dX6_take_30 (fun q9 => ?_)
  refine ok_aload_n C 0 dX6_take_33 rfl ?_
  refine ok_iload_n C 3 dX6_take_34 rfl ?_
  refine ok_callV C T [.ref q9, .ref q1, .int x2] (F := fX5_movePieceOut q8 q9 q1 x2) (ctX5_movePieceOut (C.2.2.2.2.2.2.2.2.1) q8 q9 q1 x2) vlX6_393 viX5_movePieceOut rfl rfl (by decide) rfl (by rw [hR.1, hR.2]; decide) (Nat.le_of_ble_eq_true rfl) dX6_take_35 (ok_qI fun v10 s11 => ?_)
  exact ok_ireturn C dX6_take_38
theorem ctX6_take {l : Launch} (hl : l.stackTraces = false) {D : va_G} {dA : Nat → ClassId} {B0 : Nat} (a0 : Nat) (x1 : Int32) (x2 : Int32) : Ct l D dA B0 yX6_take (.code yX6_take cX6_take 4 (some (.int)) :: ax_ALL) 8 164 [.ref a0, .int x1, .int x2] (fX6_take a0 x1 x2) :=
  Ct.of hl (by decide +kernel) (Nat.le_of_ble_eq_true rfl) fun Γ C _ _ _ _ e5 e6 e7 T hin => oX6_take C T e5 ⟨e6, e7⟩ hin a0 x1 x2 _
/-! ChaseLocker.quoin(IZ)I -/
def fX6_quoin_103  (a0 : Nat) (a3 : Nat) (s0 : AS) : Option AR :=
  gR s0 a0 10 8 (fun q1 =>
  cV s0 a3 7 (fX3_gapIn a3 q1 s0) (qI (fun v2 s3 =>
  some (.inl (some (.int v2)), s3))))
def fX6_quoin_68  (a0 : Nat) (x2 : Int32) (a3 : Nat) (s0 : AS) : Option AR :=
  gR s0 a0 10 2 (fun q1 =>
  gR s0 a0 10 3 (fun q2 =>
  cV s0 q1 4 (fX0_remember q1 q2 s0) (qV (fun s3 =>
  if x2 = 0 then (
    gR s3 a0 10 3 (fun q4 =>
    cV s3 q4 9 (fX5_removeQuoin q4 a3 s3) (qV (fun s5 =>
    fX6_quoin_103 a0 a3 s5))))
  else (
    gR s3 a0 10 3 (fun q6 =>
    cV s3 q6 9 (fX5_setQuoin q6 a3 0 s3) (qV (fun s7 =>
    fX6_quoin_103 a0 a3 s7))))))))
def fX6_quoin (a0 : Nat) (x1 : Int32) (x2 : Int32) (s0 : AS) : Option AR :=
  cV s0 a0 10 (fX6_needRow a0 x1 s0) (qR (fun q1 s2 =>
  cV s2 q1 7 (fX3_hasQuoin q1 s2) (qI (fun v3 s4 =>
  if v3 = x2 then (
    tE "java/lang/IllegalArgumentException" s4)
  else (
    if x2 = 0 then (
      fX6_quoin_68 a0 x2 q1 s4)
    else (
      gR s4 a0 10 3 (fun q5 =>
      gI s4 q5 9 2 (fun v6 =>
      if v6 = 0 then (
        tE "java/lang/IllegalArgumentException" s4)
      else (
        gR s4 a0 10 8 (fun q7 =>
        gI s4 q7 5 2 (fun v8 =>
        gR s4 a0 10 8 (fun q9 =>
        cV s4 q1 7 (fX3_gapIn q1 q9 s4) (qI (fun v10 s11 =>
        if v8 ≤ v10 then (
          fX6_quoin_68 a0 x2 q1 s11)
        else (
          tE "java/lang/IllegalArgumentException" s11)))))))))))))))
set_option maxHeartbeats 4000000 in
theorem oX6_quoin_103 {Γ : CX} (C : OKC Γ cX6_quoin RX6 (some (.int))) (T : ∀ z ∈ (cx_c Γ).exceptionTable.toList, False) (hn : cx_nL Γ = 4) (hR : cx_fr Γ = 8 ∧ cx_lo Γ = 164) (hin : (cx_meth Γ).name = yX6_quoin.name) : ∀ (a0 : Nat) (a3 : Nat) (s0 : AS), OK Γ 103 [(0, .ref a0), (3, .ref a3)] [] (fX6_quoin_103  a0 a3 s0) s0 := by
  intro a0 a3 s0
  unfold fX6_quoin_103
  refine ok_aload_n C 1 dX6_quoin_103 rfl ?_
  refine ok_aload_n C 0 dX6_quoin_104 rfl ?_
  refine ok_getR C frX6_58_10 dX6_quoin_105 (fun q1 => ?_)
  refine ok_callV C T [.ref q1] (F := fX3_gapIn a3 q1) (ctX3_gapIn (C.2.2.2.2.2.2.2.2.1) a3 q1) vlX6_184 viX3_gapIn rfl rfl (by decide) rfl (by rw [hR.1, hR.2]; decide) (Nat.le_of_ble_eq_true rfl) dX6_quoin_108 (ok_qI fun v2 s3 => ?_)
  exact ok_ireturn C dX6_quoin_111
set_option maxHeartbeats 4000000 in
theorem oX6_quoin_68 {Γ : CX} (C : OKC Γ cX6_quoin RX6 (some (.int))) (T : ∀ z ∈ (cx_c Γ).exceptionTable.toList, False) (hn : cx_nL Γ = 4) (hR : cx_fr Γ = 8 ∧ cx_lo Γ = 164) (hin : (cx_meth Γ).name = yX6_quoin.name) : ∀ (a0 : Nat) (x2 : Int32) (a3 : Nat) (s0 : AS), OK Γ 68 [(0, .ref a0), (2, .int x2), (3, .ref a3)] [] (fX6_quoin_68  a0 x2 a3 s0) s0 := by
  intro a0 x2 a3 s0
  unfold fX6_quoin_68
  refine ok_aload_n C 0 dX6_quoin_68 rfl ?_
  refine ok_getR C frX6_26_10 dX6_quoin_69 (fun q1 => ?_)
  refine ok_aload_n C 0 dX6_quoin_72 rfl ?_
  refine ok_getR C frX6_33_10 dX6_quoin_73 (fun q2 => ?_)
  refine ok_callV C T [.ref q2] (F := fX0_remember q1 q2) (ctX0_remember (C.2.2.2.2.2.2.2.2.1) q1 q2) vlX6_378 viX0_remember rfl rfl (by decide) rfl (by rw [hR.1, hR.2]; decide) (Nat.le_of_ble_eq_true rfl) dX6_quoin_76 (ok_qV fun s3 => ?_)
  refine ok_iload_n C 1 dX6_quoin_79 rfl ?_
  refine ok_if_eq C 95 dX6_quoin_80 (by decide) ?_ ?_
  · refine ok_aload_n C 0 dX6_quoin_95 rfl ?_
    refine ok_getR C frX6_33_10 dX6_quoin_96 (fun q4 => ?_)
    refine ok_aload_n C 2 dX6_quoin_99 rfl ?_
    refine ok_callV C T [.ref a3] (F := fX5_removeQuoin q4 a3) (ctX5_removeQuoin (C.2.2.2.2.2.2.2.2.1) q4 a3) vlX6_405 viX5_removeQuoin rfl rfl (by decide) rfl (by rw [hR.1, hR.2]; decide) (Nat.le_of_ble_eq_true rfl) dX6_quoin_100 (ok_qV fun s5 => ?_)
    refine OK.sub (lv' := [(0, .ref a0), (3, .ref a3)]) [0, 2] rfl ?_
    exact oX6_quoin_103 C T hn hR hin a0 a3 s5
  · refine ok_aload_n C 0 dX6_quoin_83 rfl ?_
    refine ok_getR C frX6_33_10 dX6_quoin_84 (fun q6 => ?_)
    refine ok_aload_n C 2 dX6_quoin_87 rfl ?_
    refine ok_iconst C (v := 0) dX6_quoin_88 (by decide) ?_
    refine ok_callV C T [.ref a3, .int 0] (F := fX5_setQuoin q6 a3 0) (ctX5_setQuoin (C.2.2.2.2.2.2.2.2.1) q6 a3 0) vlX6_401 viX5_setQuoin rfl rfl (by decide) rfl (by rw [hR.1, hR.2]; decide) (Nat.le_of_ble_eq_true rfl) dX6_quoin_89 (ok_qV fun s7 => ?_)
    refine ok_goto C 103 dX6_quoin_92 (by decide) ?_
    refine OK.sub (lv' := [(0, .ref a0), (3, .ref a3)]) [0, 2] rfl ?_
    exact oX6_quoin_103 C T hn hR hin a0 a3 s7
set_option maxHeartbeats 4000000 in
theorem oX6_quoin {Γ : CX} (C : OKC Γ cX6_quoin RX6 (some (.int))) (T : ∀ z ∈ (cx_c Γ).exceptionTable.toList, False) (hn : cx_nL Γ = 4) (hR : cx_fr Γ = 8 ∧ cx_lo Γ = 164) (hin : (cx_meth Γ).name = yX6_quoin.name) : ∀ (a0 : Nat) (x1 : Int32) (x2 : Int32) (s0 : AS), OK Γ 0 [(0, .ref a0), (1, .int x1), (2, .int x2)] [] (fX6_quoin a0 x1 x2 s0) s0 := by
  intro a0 x1 x2 s0
  unfold fX6_quoin
  refine ok_aload_n C 0 dX6_quoin_0 rfl ?_
  refine ok_iload_n C 1 dX6_quoin_1 rfl ?_
  refine ok_callV C T [.int x1] (F := fX6_needRow a0 x1) (ctX6_needRow (C.2.2.2.2.2.2.2.2.1) a0 x1) vlX6_172 viX6_needRow rfl rfl (by decide) rfl (by rw [hR.1, hR.2]; decide) (Nat.le_of_ble_eq_true rfl) dX6_quoin_2 (ok_qR fun q1 s2 => ?_)
  refine ok_astore_n C (i := 3) [(3, .ref q1), (0, .ref a0), (1, .int x1), (2, .int x2)] dX6_quoin_5 rfl (by rw [hn]; decide) rfl ?_
  refine ok_aload_n C 0 dX6_quoin_6 rfl ?_
  refine ok_callV C T [] (F := fX3_hasQuoin q1) (ctX3_hasQuoin (C.2.2.2.2.2.2.2.2.1) q1) vlX6_199 viX3_hasQuoin rfl rfl (by decide) rfl (by rw [hR.1, hR.2]; decide) (Nat.le_of_ble_eq_true rfl) dX6_quoin_7 (ok_qI fun v3 s4 => ?_)
  refine ok_iload_n C 3 dX6_quoin_10 rfl ?_
  refine ok_icmp_ne C 25 dX6_quoin_11 (by decide) ?_ ?_
  · refine ok_iload_n C 3 dX6_quoin_25 rfl ?_
    refine ok_if_eq C 68 dX6_quoin_26 (by decide) ?_ ?_
    · refine OK.sub (lv' := [(0, .ref a0), (2, .int x2), (3, .ref q1)]) [1, 3, 0] rfl ?_
      exact oX6_quoin_68 C T hn hR hin a0 x2 q1 s4
    · refine ok_aload_n C 1 dX6_quoin_29 rfl ?_
      refine ok_getR C frX6_33_10 dX6_quoin_30 (fun q5 => ?_)
      refine ok_getI C frX6_118_9 dX6_quoin_33 (fun v6 => ?_)
      refine ok_if_eq C 57 dX6_quoin_36 (by decide) ?_ ?_
      · exact ok_throwSW C T tlX6_84_88 (i := 12) rfl dX6_quoin_57 dX6_quoin_60 dX6_quoin_61 dX6_quoin_64 dX6_quoin_67 (by rw [hR.1]; decide) (by rw [hR.2]; exact Nat.le_of_ble_eq_true rfl)
      · refine ok_aload_n C 1 dX6_quoin_39 rfl ?_
        refine ok_getR C frX6_58_10 dX6_quoin_40 (fun q7 => ?_)
        refine ok_getI C frX6_155_5 dX6_quoin_43 (fun v8 => ?_)
        refine ok_aload_n C 0 dX6_quoin_46 rfl ?_
        refine ok_aload_n C 1 dX6_quoin_47 rfl ?_
        refine ok_getR C frX6_58_10 dX6_quoin_48 (fun q9 => ?_)
        refine ok_callV C T [.ref q9] (F := fX3_gapIn q1 q9) (ctX3_gapIn (C.2.2.2.2.2.2.2.2.1) q1 q9) vlX6_184 viX3_gapIn rfl rfl (by decide) rfl (by rw [hR.1, hR.2]; decide) (Nat.le_of_ble_eq_true rfl) dX6_quoin_51 (ok_qI fun v10 s11 => ?_)
        refine ok_icmp_le C 68 dX6_quoin_54 (by decide) ?_ ?_
        · refine OK.sub (lv' := [(0, .ref a0), (2, .int x2), (3, .ref q1)]) [1, 3, 0] rfl ?_
          exact oX6_quoin_68 C T hn hR hin a0 x2 q1 s11
        · exact ok_throwSW C T tlX6_84_88 (i := 12) rfl dX6_quoin_57 dX6_quoin_60 dX6_quoin_61 dX6_quoin_64 dX6_quoin_67 (by rw [hR.1]; decide) (by rw [hR.2]; exact Nat.le_of_ble_eq_true rfl)
  · exact ok_throwSW C T tlX6_84_88 (i := 11) rfl dX6_quoin_14 dX6_quoin_17 dX6_quoin_18 dX6_quoin_21 dX6_quoin_24 (by rw [hR.1]; decide) (by rw [hR.2]; exact Nat.le_of_ble_eq_true rfl)
theorem ctX6_quoin {l : Launch} (hl : l.stackTraces = false) {D : va_G} {dA : Nat → ClassId} {B0 : Nat} (a0 : Nat) (x1 : Int32) (x2 : Int32) : Ct l D dA B0 yX6_quoin (.code yX6_quoin cX6_quoin 4 (some (.int)) :: ax_ALL) 8 164 [.ref a0, .int x1, .int x2] (fX6_quoin a0 x1 x2) :=
  Ct.of hl (by decide +kernel) (Nat.le_of_ble_eq_true rfl) fun Γ C _ _ _ _ e5 e6 e7 T hin => oX6_quoin C T e5 ⟨e6, e7⟩ hin a0 x1 x2 _
/-! ChaseLocker.open(II)I -/
def fX6_open (a0 : Nat) (x1 : Int32) (x2 : Int32) (s0 : AS) : Option AR :=
  cV s0 a0 10 (fX6_needRow a0 x1 s0) (qR (fun q1 s2 =>
  cV s2 q1 7 (fX3_hasQuoin q1 s2) (qI (fun v3 s4 =>
  if v3 = 0 then (
    tE "java/lang/IllegalArgumentException" s4)
  else (
    if x2 < 0 then (
      tE "java/lang/IllegalArgumentException" s4)
    else (
      gR s4 a0 10 8 (fun q5 =>
      gI s4 q5 5 3 (fun v6 =>
      if x2 ≤ v6 then (
        gR s4 a0 10 8 (fun q7 =>
        gI s4 q7 5 2 (fun v8 =>
        gR s4 a0 10 8 (fun q9 =>
        cV s4 q1 7 (fX3_roomIn q1 q9 s4) (qI (fun v10 s11 =>
        if (v8 + x2) ≤ v10 then (
          gR s11 a0 10 2 (fun q12 =>
          gR s11 a0 10 3 (fun q13 =>
          cV s11 q12 4 (fX0_remember q12 q13 s11) (qV (fun s14 =>
          gR s14 a0 10 3 (fun q15 =>
          cV s14 q15 9 (fX5_setQuoin q15 q1 x2 s14) (qV (fun s16 =>
          gR s16 a0 10 8 (fun q17 =>
          cV s16 q1 7 (fX3_gapIn q1 q17 s16) (qI (fun v18 s19 =>
          some (.inl (some (.int v18)), s19))))))))))))
        else (
          tE "java/lang/IllegalArgumentException" s11)))))))
      else (
        tE "java/lang/IllegalArgumentException" s4)))))))))
set_option maxHeartbeats 4000000 in
theorem oX6_open {Γ : CX} (C : OKC Γ cX6_open RX6 (some (.int))) (T : ∀ z ∈ (cx_c Γ).exceptionTable.toList, False) (hn : cx_nL Γ = 4) (hR : cx_fr Γ = 8 ∧ cx_lo Γ = 164) (hin : (cx_meth Γ).name = yX6_open.name) : ∀ (a0 : Nat) (x1 : Int32) (x2 : Int32) (s0 : AS), OK Γ 0 [(0, .ref a0), (1, .int x1), (2, .int x2)] [] (fX6_open a0 x1 x2 s0) s0 := by
  intro a0 x1 x2 s0
  unfold fX6_open
  refine ok_aload_n C 0 dX6_open_0 rfl ?_
  refine ok_iload_n C 1 dX6_open_1 rfl ?_
  refine ok_callV C T [.int x1] (F := fX6_needRow a0 x1) (ctX6_needRow (C.2.2.2.2.2.2.2.2.1) a0 x1) vlX6_172 viX6_needRow rfl rfl (by decide) rfl (by rw [hR.1, hR.2]; decide) (Nat.le_of_ble_eq_true rfl) dX6_open_2 (ok_qR fun q1 s2 => ?_)
  refine ok_astore_n C (i := 3) [(3, .ref q1), (0, .ref a0), (1, .int x1), (2, .int x2)] dX6_open_5 rfl (by rw [hn]; decide) rfl ?_
  refine ok_aload_n C 0 dX6_open_6 rfl ?_
  refine ok_callV C T [] (F := fX3_hasQuoin q1) (ctX3_hasQuoin (C.2.2.2.2.2.2.2.2.1) q1) vlX6_199 viX3_hasQuoin rfl rfl (by decide) rfl (by rw [hR.1, hR.2]; decide) (Nat.le_of_ble_eq_true rfl) dX6_open_7 (ok_qI fun v3 s4 => ?_)
  refine ok_if_eq C 28 dX6_open_10 (by decide) ?_ ?_
  · exact ok_throwSW C T tlX6_84_88 (i := 13) rfl dX6_open_28 dX6_open_31 dX6_open_32 dX6_open_35 dX6_open_38 (by rw [hR.1]; decide) (by rw [hR.2]; exact Nat.le_of_ble_eq_true rfl)
  · refine ok_iload_n C 3 dX6_open_13 rfl ?_
    refine ok_if_lt C 28 dX6_open_14 (by decide) ?_ ?_
    · exact ok_throwSW C T tlX6_84_88 (i := 13) rfl dX6_open_28 dX6_open_31 dX6_open_32 dX6_open_35 dX6_open_38 (by rw [hR.1]; decide) (by rw [hR.2]; exact Nat.le_of_ble_eq_true rfl)
    · refine ok_iload_n C 3 dX6_open_17 rfl ?_
      refine ok_aload_n C 1 dX6_open_18 rfl ?_
      refine ok_getR C frX6_58_10 dX6_open_19 (fun q5 => ?_)
      refine ok_getI C frX6_158_5 dX6_open_22 (fun v6 => ?_)
      refine ok_icmp_le C 39 dX6_open_25 (by decide) ?_ ?_
      · refine ok_aload_n C 1 dX6_open_39 rfl ?_
        refine ok_getR C frX6_58_10 dX6_open_40 (fun q7 => ?_)
        refine ok_getI C frX6_155_5 dX6_open_43 (fun v8 => ?_)
        refine ok_iload_n C 3 dX6_open_46 rfl ?_
        refine ok_iadd C dX6_open_47 ?_
        refine ok_aload_n C 0 dX6_open_48 rfl ?_
        refine ok_aload_n C 1 dX6_open_49 rfl ?_
        refine ok_getR C frX6_58_10 dX6_open_50 (fun q9 => ?_)
        refine ok_callV C T [.ref q9] (F := fX3_roomIn q1 q9) (ctX3_roomIn (C.2.2.2.2.2.2.2.2.1) q1 q9) vlX6_281 viX3_roomIn rfl rfl (by decide) rfl (by rw [hR.1, hR.2]; decide) (Nat.le_of_ble_eq_true rfl) dX6_open_53 (ok_qI fun v10 s11 => ?_)
        refine ok_icmp_le C 70 dX6_open_56 (by decide) ?_ ?_
        · refine ok_aload_n C 1 dX6_open_70 rfl ?_
          refine ok_getR C frX6_26_10 dX6_open_71 (fun q12 => ?_)
          refine ok_aload_n C 1 dX6_open_74 rfl ?_
          refine ok_getR C frX6_33_10 dX6_open_75 (fun q13 => ?_)
          refine ok_callV C T [.ref q13] (F := fX0_remember q12 q13) (ctX0_remember (C.2.2.2.2.2.2.2.2.1) q12 q13) vlX6_378 viX0_remember rfl rfl (by decide) rfl (by rw [hR.1, hR.2]; decide) (Nat.le_of_ble_eq_true rfl) dX6_open_78 (ok_qV fun s14 => ?_)
          refine ok_aload_n C 1 dX6_open_81 rfl ?_
          refine ok_getR C frX6_33_10 dX6_open_82 (fun q15 => ?_)
          refine ok_aload_n C 0 dX6_open_85 rfl ?_
          refine ok_iload_n C 3 dX6_open_86 rfl ?_
          refine ok_callV C T [.ref q1, .int x2] (F := fX5_setQuoin q15 q1 x2) (ctX5_setQuoin (C.2.2.2.2.2.2.2.2.1) q15 q1 x2) vlX6_401 viX5_setQuoin rfl rfl (by decide) rfl (by rw [hR.1, hR.2]; decide) (Nat.le_of_ble_eq_true rfl) dX6_open_87 (ok_qV fun s16 => ?_)
          refine ok_aload_n C 0 dX6_open_90 rfl ?_
          refine ok_aload_n C 1 dX6_open_91 rfl ?_
          refine ok_getR C frX6_58_10 dX6_open_92 (fun q17 => ?_)
          refine ok_callV C T [.ref q17] (F := fX3_gapIn q1 q17) (ctX3_gapIn (C.2.2.2.2.2.2.2.2.1) q1 q17) vlX6_184 viX3_gapIn rfl rfl (by decide) rfl (by rw [hR.1, hR.2]; decide) (Nat.le_of_ble_eq_true rfl) dX6_open_95 (ok_qI fun v18 s19 => ?_)
          exact ok_ireturn C dX6_open_98
        · exact ok_throwSW C T tlX6_84_88 (i := 14) rfl dX6_open_59 dX6_open_62 dX6_open_63 dX6_open_66 dX6_open_69 (by rw [hR.1]; decide) (by rw [hR.2]; exact Nat.le_of_ble_eq_true rfl)
      · exact ok_throwSW C T tlX6_84_88 (i := 13) rfl dX6_open_28 dX6_open_31 dX6_open_32 dX6_open_35 dX6_open_38 (by rw [hR.1]; decide) (by rw [hR.2]; exact Nat.le_of_ble_eq_true rfl)
theorem ctX6_open {l : Launch} (hl : l.stackTraces = false) {D : va_G} {dA : Nat → ClassId} {B0 : Nat} (a0 : Nat) (x1 : Int32) (x2 : Int32) : Ct l D dA B0 yX6_open (.code yX6_open cX6_open 4 (some (.int)) :: ax_ALL) 8 164 [.ref a0, .int x1, .int x2] (fX6_open a0 x1 x2) :=
  Ct.of hl (by decide +kernel) (Nat.le_of_ble_eq_true rfl) fun Γ C _ _ _ _ e5 e6 e7 T hin => oX6_open C T e5 ⟨e6, e7⟩ hin a0 x1 x2 _
/-! ChaseLocker.lock(I)I -/
def fX6_lock (a0 : Nat) (x1 : Int32) (s0 : AS) : Option AR :=
  cV s0 a0 10 (fX6_needRow a0 x1 s0) (qR (fun q1 s2 =>
  gR s2 a0 10 3 (fun q3 =>
  cV s2 a0 10 (fX6_solve a0 q3 q1 s2) (qI (fun v4 s5 =>
  if v4 = 0 then (
    tE "java/lang/IllegalArgumentException" s5)
  else (
    gR s5 a0 10 2 (fun q6 =>
    gR s5 a0 10 3 (fun q7 =>
    cV s5 q6 4 (fX0_remember q6 q7 s5) (qV (fun s8 =>
    gR s8 a0 10 3 (fun q9 =>
    gR s8 a0 10 8 (fun q10 =>
    gR s8 a0 10 1 (fun q11 =>
    cV s8 q9 9 (fX5_fill q9 q10 x1 q11 s8) (qV (fun s12 =>
    gR s12 a0 10 1 (fun q13 =>
    gI s12 q13 8 5 (fun v14 =>
    some (.inl (some (.int v14)), s12))))))))))))))))))
set_option maxHeartbeats 4000000 in
theorem oX6_lock {Γ : CX} (C : OKC Γ cX6_lock RX6 (some (.int))) (T : ∀ z ∈ (cx_c Γ).exceptionTable.toList, False) (hn : cx_nL Γ = 3) (hR : cx_fr Γ = 8 ∧ cx_lo Γ = 180) (hin : (cx_meth Γ).name = yX6_lock.name) : ∀ (a0 : Nat) (x1 : Int32) (s0 : AS), OK Γ 0 [(0, .ref a0), (1, .int x1)] [] (fX6_lock a0 x1 s0) s0 := by
  intro a0 x1 s0
  unfold fX6_lock
  refine ok_aload_n C 0 dX6_lock_0 rfl ?_
  refine ok_iload_n C 1 dX6_lock_1 rfl ?_
  refine ok_callV C T [.int x1] (F := fX6_needRow a0 x1) (ctX6_needRow (C.2.2.2.2.2.2.2.2.1) a0 x1) vlX6_172 viX6_needRow rfl rfl (by decide) rfl (by rw [hR.1, hR.2]; decide) (Nat.le_of_ble_eq_true rfl) dX6_lock_2 (ok_qR fun q1 s2 => ?_)
  refine ok_astore_n C (i := 2) [(2, .ref q1), (0, .ref a0), (1, .int x1)] dX6_lock_5 rfl (by rw [hn]; decide) rfl ?_
  refine ok_aload_n C 1 dX6_lock_6 rfl ?_
  refine ok_aload_n C 1 dX6_lock_7 rfl ?_
  refine ok_getR C frX6_33_10 dX6_lock_8 (fun q3 => ?_)
  refine ok_aload_n C 0 dX6_lock_11 rfl ?_
  refine ok_callV C T [.ref q3, .ref q1] (F := fX6_solve a0 q3 q1) (ctX6_solve (C.2.2.2.2.2.2.2.2.1) a0 q3 q1) vlX6_261 viX6_solve rfl rfl (by decide) rfl (by rw [hR.1, hR.2]; decide) (Nat.le_of_ble_eq_true rfl) dX6_lock_12 (ok_qI fun v4 s5 => ?_)
  refine ok_if_ne C 29 dX6_lock_15 (by decide) ?_ ?_
  · refine ok_aload_n C 1 dX6_lock_29 rfl ?_
    refine ok_getR C frX6_26_10 dX6_lock_30 (fun q6 => ?_)
    refine ok_aload_n C 1 dX6_lock_33 rfl ?_
    refine ok_getR C frX6_33_10 dX6_lock_34 (fun q7 => ?_)
    refine ok_callV C T [.ref q7] (F := fX0_remember q6 q7) (ctX0_remember (C.2.2.2.2.2.2.2.2.1) q6 q7) vlX6_378 viX0_remember rfl rfl (by decide) rfl (by rw [hR.1, hR.2]; decide) (Nat.le_of_ble_eq_true rfl) dX6_lock_37 (ok_qV fun s8 => ?_)
    refine ok_aload_n C 1 dX6_lock_40 rfl ?_
    refine ok_getR C frX6_33_10 dX6_lock_41 (fun q9 => ?_)
    refine ok_aload_n C 1 dX6_lock_44 rfl ?_
    refine ok_getR C frX6_58_10 dX6_lock_45 (fun q10 => ?_)
    refine ok_iload_n C 2 dX6_lock_48 rfl ?_
    refine ok_aload_n C 1 dX6_lock_49 rfl ?_
    refine ok_getR C frX6_19_10 dX6_lock_50 (fun q11 => ?_)
    refine ok_callV C T [.ref q10, .int x1, .ref q11] (F := fX5_fill q9 q10 x1 q11) (ctX5_fill (C.2.2.2.2.2.2.2.2.1) q9 q10 x1 q11) vlX6_346 viX5_fill rfl rfl (by decide) rfl (by rw [hR.1, hR.2]; decide) (Nat.le_of_ble_eq_true rfl) dX6_lock_53 (ok_qV fun s12 => ?_)
    refine ok_aload_n C 1 dX6_lock_56 rfl ?_
    refine ok_getR C frX6_19_10 dX6_lock_57 (fun q13 => ?_)
    refine ok_getI C frX6_265_8 dX6_lock_60 (fun v14 => ?_)
    exact ok_ireturn C dX6_lock_63
  · exact ok_throwSW C T tlX6_84_88 (i := 15) rfl dX6_lock_18 dX6_lock_21 dX6_lock_22 dX6_lock_25 dX6_lock_28 (by rw [hR.1]; decide) (by rw [hR.2]; exact Nat.le_of_ble_eq_true rfl)
theorem ctX6_lock {l : Launch} (hl : l.stackTraces = false) {D : va_G} {dA : Nat → ClassId} {B0 : Nat} (a0 : Nat) (x1 : Int32) : Ct l D dA B0 yX6_lock (.code yX6_lock cX6_lock 3 (some (.int)) :: ax_ALL) 8 180 [.ref a0, .int x1] (fX6_lock a0 x1) :=
  Ct.of hl (by decide +kernel) (Nat.le_of_ble_eq_true rfl) fun Γ C _ _ _ _ e5 e6 e7 T hin => oX6_lock C T e5 ⟨e6, e7⟩ hin a0 x1 _
/-! ChaseLocker.unlock(I)I -/
def fX6_unlock (a0 : Nat) (x1 : Int32) (s0 : AS) : Option AR :=
  cV s0 a0 10 (fX6_needRow a0 x1 s0) (qR (fun q1 s2 =>
  gI s2 q1 7 4 (fun v3 =>
  gR s2 a0 10 2 (fun q4 =>
  gR s2 a0 10 3 (fun q5 =>
  cV s2 q4 4 (fX0_remember q4 q5 s2) (qV (fun s6 =>
  gR s6 a0 10 3 (fun q7 =>
  cV s6 q7 9 (fX5_empty q7 x1 s6) (qV (fun s8 =>
  some (.inl (some (.int v3)), s8)))))))))))
set_option maxHeartbeats 4000000 in
theorem oX6_unlock {Γ : CX} (C : OKC Γ cX6_unlock RX6 (some (.int))) (T : ∀ z ∈ (cx_c Γ).exceptionTable.toList, False) (hn : cx_nL Γ = 4) (hR : cx_fr Γ = 8 ∧ cx_lo Γ = 164) (hin : (cx_meth Γ).name = yX6_unlock.name) : ∀ (a0 : Nat) (x1 : Int32) (s0 : AS), OK Γ 0 [(0, .ref a0), (1, .int x1)] [] (fX6_unlock a0 x1 s0) s0 := by
  intro a0 x1 s0
  unfold fX6_unlock
  refine ok_aload_n C 0 dX6_unlock_0 rfl ?_
  refine ok_iload_n C 1 dX6_unlock_1 rfl ?_
  refine ok_callV C T [.int x1] (F := fX6_needRow a0 x1) (ctX6_needRow (C.2.2.2.2.2.2.2.2.1) a0 x1) vlX6_172 viX6_needRow rfl rfl (by decide) rfl (by rw [hR.1, hR.2]; decide) (Nat.le_of_ble_eq_true rfl) dX6_unlock_2 (ok_qR fun q1 s2 => ?_)
  refine ok_astore_n C (i := 2) [(2, .ref q1), (0, .ref a0), (1, .int x1)] dX6_unlock_5 rfl (by rw [hn]; decide) rfl ?_
  refine ok_aload_n C 0 dX6_unlock_6 rfl ?_
  refine ok_getI C frX6_181_7 dX6_unlock_7 (fun v3 => ?_)
  refine ok_istore_n C (i := 3) [(3, .int v3), (2, .ref q1), (0, .ref a0), (1, .int x1)] dX6_unlock_10 rfl (by rw [hn]; decide) rfl ?_
  refine ok_aload_n C 2 dX6_unlock_11 rfl ?_
  refine ok_getR C frX6_26_10 dX6_unlock_12 (fun q4 => ?_)
  refine ok_aload_n C 2 dX6_unlock_15 rfl ?_
  refine ok_getR C frX6_33_10 dX6_unlock_16 (fun q5 => ?_)
  refine ok_callV C T [.ref q5] (F := fX0_remember q4 q5) (ctX0_remember (C.2.2.2.2.2.2.2.2.1) q4 q5) vlX6_378 viX0_remember rfl rfl (by decide) rfl (by rw [hR.1, hR.2]; decide) (Nat.le_of_ble_eq_true rfl) dX6_unlock_19 (ok_qV fun s6 => ?_)
  refine ok_aload_n C 2 dX6_unlock_22 rfl ?_
  refine ok_getR C frX6_33_10 dX6_unlock_23 (fun q7 => ?_)
  refine ok_iload_n C 3 dX6_unlock_26 rfl ?_
  refine ok_callV C T [.int x1] (F := fX5_empty q7 x1) (ctX5_empty (C.2.2.2.2.2.2.2.2.1) q7 x1) vlX6_329 viX5_empty rfl rfl (by decide) rfl (by rw [hR.1, hR.2]; decide) (Nat.le_of_ble_eq_true rfl) dX6_unlock_27 (ok_qV fun s8 => ?_)
  refine ok_iload_n C 0 dX6_unlock_30 rfl ?_
  exact ok_ireturn C dX6_unlock_31
theorem ctX6_unlock {l : Launch} (hl : l.stackTraces = false) {D : va_G} {dA : Nat → ClassId} {B0 : Nat} (a0 : Nat) (x1 : Int32) : Ct l D dA B0 yX6_unlock (.code yX6_unlock cX6_unlock 4 (some (.int)) :: ax_ALL) 8 164 [.ref a0, .int x1] (fX6_unlock a0 x1) :=
  Ct.of hl (by decide +kernel) (Nat.le_of_ble_eq_true rfl) fun Γ C _ _ _ _ e5 e6 e7 T hin => oX6_unlock C T e5 ⟨e6, e7⟩ hin a0 x1 _
/-! ChaseLocker.relock(I)I -/
def fX6_relock (a0 : Nat) (x1 : Int32) (s0 : AS) : Option AR :=
  cV s0 a0 10 (fX6_needRow a0 x1 s0) (qR (fun q1 s2 =>
  gR s2 a0 10 4 (fun q3 =>
  gR s2 a0 10 3 (fun q4 =>
  cV s2 q3 9 (fX5_copyFrom q3 q4 s2) (qV (fun s5 =>
  gR s5 a0 10 4 (fun q6 =>
  cV s5 q6 9 (fX5_empty q6 x1 s5) (qV (fun s7 =>
  gR s7 a0 10 4 (fun q8 =>
  gR s7 a0 10 4 (fun q9 =>
  gR s7 q9 9 0 (fun q10 =>
  aR s7 q10 111 x1 (fun q11 =>
  cV s7 a0 10 (fX6_solve a0 q8 q11 s7) (qI (fun v12 s13 =>
  if v12 = 0 then (
    tE "java/lang/IllegalArgumentException" s13)
  else (
    gR s13 a0 10 2 (fun q14 =>
    gR s13 a0 10 3 (fun q15 =>
    cV s13 q14 4 (fX0_remember q14 q15 s13) (qV (fun s16 =>
    gR s16 a0 10 3 (fun q17 =>
    cV s16 q17 9 (fX5_empty q17 x1 s16) (qV (fun s18 =>
    gR s18 a0 10 3 (fun q19 =>
    gR s18 a0 10 8 (fun q20 =>
    gR s18 a0 10 1 (fun q21 =>
    cV s18 q19 9 (fX5_fill q19 q20 x1 q21 s18) (qV (fun s22 =>
    gR s22 a0 10 1 (fun q23 =>
    gI s22 q23 8 5 (fun v24 =>
    some (.inl (some (.int v24)), s22)))))))))))))))))))))))))))))))
set_option maxHeartbeats 4000000 in
theorem oX6_relock {Γ : CX} (C : OKC Γ cX6_relock RX6 (some (.int))) (T : ∀ z ∈ (cx_c Γ).exceptionTable.toList, False) (hn : cx_nL Γ = 2) (hR : cx_fr Γ = 8 ∧ cx_lo Γ = 180) (hin : (cx_meth Γ).name = yX6_relock.name) : ∀ (a0 : Nat) (x1 : Int32) (s0 : AS), OK Γ 0 [(0, .ref a0), (1, .int x1)] [] (fX6_relock a0 x1 s0) s0 := by
  intro a0 x1 s0
  unfold fX6_relock
  refine ok_aload_n C 0 dX6_relock_0 rfl ?_
  refine ok_iload_n C 1 dX6_relock_1 rfl ?_
  refine ok_callV C T [.int x1] (F := fX6_needRow a0 x1) (ctX6_needRow (C.2.2.2.2.2.2.2.2.1) a0 x1) vlX6_172 viX6_needRow rfl rfl (by decide) rfl (by rw [hR.1, hR.2]; decide) (Nat.le_of_ble_eq_true rfl) dX6_relock_2 (ok_qR fun q1 s2 => ?_)
  refine ok_pop C dX6_relock_5 rfl ?_
  refine ok_aload_n C 0 dX6_relock_6 rfl ?_
  refine ok_getR C frX6_37_10 dX6_relock_7 (fun q3 => ?_)
  refine ok_aload_n C 0 dX6_relock_10 rfl ?_
  refine ok_getR C frX6_33_10 dX6_relock_11 (fun q4 => ?_)
  refine ok_callV C T [.ref q4] (F := fX5_copyFrom q3 q4) (ctX5_copyFrom (C.2.2.2.2.2.2.2.2.1) q3 q4) vlX6_95 viX5_copyFrom rfl rfl (by decide) rfl (by rw [hR.1, hR.2]; decide) (Nat.le_of_ble_eq_true rfl) dX6_relock_14 (ok_qV fun s5 => ?_)
  refine ok_aload_n C 0 dX6_relock_17 rfl ?_
  refine ok_getR C frX6_37_10 dX6_relock_18 (fun q6 => ?_)
  refine ok_iload_n C 1 dX6_relock_21 rfl ?_
  refine ok_callV C T [.int x1] (F := fX5_empty q6 x1) (ctX5_empty (C.2.2.2.2.2.2.2.2.1) q6 x1) vlX6_329 viX5_empty rfl rfl (by decide) rfl (by rw [hR.1, hR.2]; decide) (Nat.le_of_ble_eq_true rfl) dX6_relock_22 (ok_qV fun s7 => ?_)
  refine ok_aload_n C 0 dX6_relock_25 rfl ?_
  refine ok_aload_n C 0 dX6_relock_26 rfl ?_
  refine ok_getR C frX6_37_10 dX6_relock_27 (fun q8 => ?_)
  refine ok_aload_n C 0 dX6_relock_30 rfl ?_
  refine ok_getR C frX6_37_10 dX6_relock_31 (fun q9 => ?_)
  refine ok_getR C frX6_246_9 dX6_relock_34 (fun q10 => ?_)
  refine ok_iload_n C 1 dX6_relock_37 rfl ?_
  refine ok_aald C 111 7 (fun _ => rfl) (by decide) dX6_relock_38 (fun q11 => ?_)
  refine ok_callV C T [.ref q8, .ref q11] (F := fX6_solve a0 q8 q11) (ctX6_solve (C.2.2.2.2.2.2.2.2.1) a0 q8 q11) vlX6_261 viX6_solve rfl rfl (by decide) rfl (by rw [hR.1, hR.2]; decide) (Nat.le_of_ble_eq_true rfl) dX6_relock_39 (ok_qI fun v12 s13 => ?_)
  refine ok_if_ne C 56 dX6_relock_42 (by decide) ?_ ?_
  · refine ok_aload_n C 0 dX6_relock_56 rfl ?_
    refine ok_getR C frX6_26_10 dX6_relock_57 (fun q14 => ?_)
    refine ok_aload_n C 0 dX6_relock_60 rfl ?_
    refine ok_getR C frX6_33_10 dX6_relock_61 (fun q15 => ?_)
    refine ok_callV C T [.ref q15] (F := fX0_remember q14 q15) (ctX0_remember (C.2.2.2.2.2.2.2.2.1) q14 q15) vlX6_378 viX0_remember rfl rfl (by decide) rfl (by rw [hR.1, hR.2]; decide) (Nat.le_of_ble_eq_true rfl) dX6_relock_64 (ok_qV fun s16 => ?_)
    refine ok_aload_n C 0 dX6_relock_67 rfl ?_
    refine ok_getR C frX6_33_10 dX6_relock_68 (fun q17 => ?_)
    refine ok_iload_n C 1 dX6_relock_71 rfl ?_
    refine ok_callV C T [.int x1] (F := fX5_empty q17 x1) (ctX5_empty (C.2.2.2.2.2.2.2.2.1) q17 x1) vlX6_329 viX5_empty rfl rfl (by decide) rfl (by rw [hR.1, hR.2]; decide) (Nat.le_of_ble_eq_true rfl) dX6_relock_72 (ok_qV fun s18 => ?_)
    refine ok_aload_n C 0 dX6_relock_75 rfl ?_
    refine ok_getR C frX6_33_10 dX6_relock_76 (fun q19 => ?_)
    refine ok_aload_n C 0 dX6_relock_79 rfl ?_
    refine ok_getR C frX6_58_10 dX6_relock_80 (fun q20 => ?_)
    refine ok_iload_n C 1 dX6_relock_83 rfl ?_
    refine ok_aload_n C 0 dX6_relock_84 rfl ?_
    refine ok_getR C frX6_19_10 dX6_relock_85 (fun q21 => ?_)
    refine ok_callV C T [.ref q20, .int x1, .ref q21] (F := fX5_fill q19 q20 x1 q21) (ctX5_fill (C.2.2.2.2.2.2.2.2.1) q19 q20 x1 q21) vlX6_346 viX5_fill rfl rfl (by decide) rfl (by rw [hR.1, hR.2]; decide) (Nat.le_of_ble_eq_true rfl) dX6_relock_88 (ok_qV fun s22 => ?_)
    refine ok_aload_n C 0 dX6_relock_91 rfl ?_
    refine ok_getR C frX6_19_10 dX6_relock_92 (fun q23 => ?_)
    refine ok_getI C frX6_265_8 dX6_relock_95 (fun v24 => ?_)
    exact ok_ireturn C dX6_relock_98
  · exact ok_throwSW C T tlX6_84_88 (i := 15) rfl dX6_relock_45 dX6_relock_48 dX6_relock_49 dX6_relock_52 dX6_relock_55 (by rw [hR.1]; decide) (by rw [hR.2]; exact Nat.le_of_ble_eq_true rfl)
theorem ctX6_relock {l : Launch} (hl : l.stackTraces = false) {D : va_G} {dA : Nat → ClassId} {B0 : Nat} (a0 : Nat) (x1 : Int32) : Ct l D dA B0 yX6_relock (.code yX6_relock cX6_relock 2 (some (.int)) :: ax_ALL) 8 180 [.ref a0, .int x1] (fX6_relock a0 x1) :=
  Ct.of hl (by decide +kernel) (Nat.le_of_ble_eq_true rfl) fun Γ C _ _ _ _ e5 e6 e7 T hin => oX6_relock C T e5 ⟨e6, e7⟩ hin a0 x1 _
/-! ChaseLocker.tighten(I)I -/
def fX6_tighten_35  : Nat → Nat → Nat → AS → Option AR
  | 0, _, _, _ => none
  | n + 1, a0, a2, s0 =>
    gI s0 a2 7 7 (fun v1 =>
    gR s0 a0 10 8 (fun q2 =>
    gI s0 q2 5 3 (fun v3 =>
    if v3 ≤ v1 then (
      gI s0 a2 7 9 (fun v4 =>
      some (.inl (some (.int v4)), s0)))
    else (
      gI s0 a2 7 9 (fun v5 =>
      if v5 ≤ 0 then (
        gI s0 a2 7 9 (fun v6 =>
        some (.inl (some (.int v6)), s0)))
      else (
        gI s0 a2 7 7 (fun v7 =>
        sI s0 a2 7 7 (v7 + 1) (fun s8 =>
        gI s8 a2 7 8 (fun v9 =>
        sI s8 a2 7 8 (v9 + 1) (fun s10 =>
        gI s10 a2 7 9 (fun v11 =>
        lt (if (0 : Int32) < (v11 - 10) then (v11 - 10) else (0 : Int32)) (fun v12 =>
        sI s10 a2 7 9 v12 (fun s13 =>
        fX6_tighten_35 n a0 a2 s13)))))))))))))
def fX6_tighten (a0 : Nat) (x1 : Int32) (s0 : AS) : Option AR :=
  cV s0 a0 10 (fX6_needRow a0 x1 s0) (qR (fun q1 s2 =>
  cV s2 q1 7 (fX3_hasQuoin q1 s2) (qI (fun v3 s4 =>
  if v3 = 0 then (
    tE "java/lang/IllegalArgumentException" s4)
  else (
    gR s4 a0 10 2 (fun q5 =>
    gR s4 a0 10 3 (fun q6 =>
    cV s4 q5 4 (fX0_remember q5 q6 s4) (qV (fun s7 =>
    fX6_tighten_35 FU a0 q1 s7)))))))))
set_option maxHeartbeats 4000000 in
theorem oX6_tighten_35 {Γ : CX} (C : OKC Γ cX6_tighten RX6 (some (.int))) (T : ∀ z ∈ (cx_c Γ).exceptionTable.toList, False) (hn : cx_nL Γ = 3) (hR : cx_fr Γ = 8 ∧ cx_lo Γ = 164) (hin : (cx_meth Γ).name = yX6_tighten.name) : ∀ (n : Nat) (a0 : Nat) (a2 : Nat) (s0 : AS), OK Γ 35 [(0, .ref a0), (2, .ref a2)] [] (fX6_tighten_35 n a0 a2 s0) s0 := by
  intro n
  induction n with
  | zero => intro _ _ s0; exact OK.none
  | succ n ih =>
    intro a0 a2 s0
    rw [fX6_tighten_35]
    refine ok_aload_n C 1 dX6_tighten_35 rfl ?_
    refine ok_getI C frX6_187_7 dX6_tighten_36 (fun v1 => ?_)
    refine ok_aload_n C 0 dX6_tighten_39 rfl ?_
    refine ok_getR C frX6_58_10 dX6_tighten_40 (fun q2 => ?_)
    refine ok_getI C frX6_158_5 dX6_tighten_43 (fun v3 => ?_)
    refine ok_icmp_ge C 94 dX6_tighten_46 (by decide) ?_ ?_
    · refine ok_aload_n C 1 dX6_tighten_94 rfl ?_
      refine ok_getI C frX6_190_7 dX6_tighten_95 (fun v4 => ?_)
      exact ok_ireturn C dX6_tighten_98
    · refine ok_aload_n C 1 dX6_tighten_49 rfl ?_
      refine ok_getI C frX6_190_7 dX6_tighten_50 (fun v5 => ?_)
      refine ok_if_le C 94 dX6_tighten_53 (by decide) ?_ ?_
      · refine ok_aload_n C 1 dX6_tighten_94 rfl ?_
        refine ok_getI C frX6_190_7 dX6_tighten_95 (fun v6 => ?_)
        exact ok_ireturn C dX6_tighten_98
      · refine ok_aload_n C 1 dX6_tighten_56 rfl ?_
        refine ok_dup C dX6_tighten_57 rfl ?_
        refine ok_getI C frX6_187_7 dX6_tighten_58 (fun v7 => ?_)
        refine ok_iconst C (v := 1) dX6_tighten_61 (by decide) ?_
        refine ok_iadd C dX6_tighten_62 ?_
        refine ok_putI C flX6_187_7 dX6_tighten_63 (fun s8 _ => ?_)
        refine ok_aload_n C 1 dX6_tighten_66 rfl ?_
        refine ok_dup C dX6_tighten_67 rfl ?_
        refine ok_getI C frX6_203_7 dX6_tighten_68 (fun v9 => ?_)
        refine ok_iconst C (v := 1) dX6_tighten_71 (by decide) ?_
        refine ok_iadd C dX6_tighten_72 ?_
        refine ok_putI C flX6_203_7 dX6_tighten_73 (fun s10 _ => ?_)
        refine ok_aload_n C 1 dX6_tighten_76 rfl ?_
        refine ok_iconst C (v := 0) dX6_tighten_77 (by decide) ?_
        refine ok_aload_n C 1 dX6_tighten_78 rfl ?_
        refine ok_getI C frX6_190_7 dX6_tighten_79 (fun v11 => ?_)
        refine ok_bipush C (v := 10) dX6_tighten_82 (by decide) ?_
        refine ok_isub C dX6_tighten_84 ?_
        refine ok_mmax C mlX6_300 (by rw [hR.1]; decide) (by rw [hR.2]; exact Nat.le_of_ble_eq_true rfl) dX6_tighten_85 ?_
        refine ok_lt (fun v12 => ?_)
        refine ok_putI C flX6_190_7 dX6_tighten_88 (fun s13 _ => ?_)
        refine ok_goto C 35 dX6_tighten_91 (by decide) ?_
        exact ih a0 a2 s13
set_option maxHeartbeats 4000000 in
theorem oX6_tighten {Γ : CX} (C : OKC Γ cX6_tighten RX6 (some (.int))) (T : ∀ z ∈ (cx_c Γ).exceptionTable.toList, False) (hn : cx_nL Γ = 3) (hR : cx_fr Γ = 8 ∧ cx_lo Γ = 164) (hin : (cx_meth Γ).name = yX6_tighten.name) : ∀ (a0 : Nat) (x1 : Int32) (s0 : AS), OK Γ 0 [(0, .ref a0), (1, .int x1)] [] (fX6_tighten a0 x1 s0) s0 := by
  intro a0 x1 s0
  unfold fX6_tighten
  refine ok_aload_n C 0 dX6_tighten_0 rfl ?_
  refine ok_iload_n C 1 dX6_tighten_1 rfl ?_
  refine ok_callV C T [.int x1] (F := fX6_needRow a0 x1) (ctX6_needRow (C.2.2.2.2.2.2.2.2.1) a0 x1) vlX6_172 viX6_needRow rfl rfl (by decide) rfl (by rw [hR.1, hR.2]; decide) (Nat.le_of_ble_eq_true rfl) dX6_tighten_2 (ok_qR fun q1 s2 => ?_)
  refine ok_astore_n C (i := 2) [(2, .ref q1), (0, .ref a0), (1, .int x1)] dX6_tighten_5 rfl (by rw [hn]; decide) rfl ?_
  refine ok_aload_n C 0 dX6_tighten_6 rfl ?_
  refine ok_callV C T [] (F := fX3_hasQuoin q1) (ctX3_hasQuoin (C.2.2.2.2.2.2.2.2.1) q1) vlX6_199 viX3_hasQuoin rfl rfl (by decide) rfl (by rw [hR.1, hR.2]; decide) (Nat.le_of_ble_eq_true rfl) dX6_tighten_7 (ok_qI fun v3 s4 => ?_)
  refine ok_if_ne C 24 dX6_tighten_10 (by decide) ?_ ?_
  · refine ok_aload_n C 1 dX6_tighten_24 rfl ?_
    refine ok_getR C frX6_26_10 dX6_tighten_25 (fun q5 => ?_)
    refine ok_aload_n C 1 dX6_tighten_28 rfl ?_
    refine ok_getR C frX6_33_10 dX6_tighten_29 (fun q6 => ?_)
    refine ok_callV C T [.ref q6] (F := fX0_remember q5 q6) (ctX0_remember (C.2.2.2.2.2.2.2.2.1) q5 q6) vlX6_378 viX0_remember rfl rfl (by decide) rfl (by rw [hR.1, hR.2]; decide) (Nat.le_of_ble_eq_true rfl) dX6_tighten_32 (ok_qV fun s7 => ?_)
    refine OK.sub (lv' := [(0, .ref a0), (2, .ref q1)]) [1, 0] rfl ?_
    exact oX6_tighten_35 C T hn hR hin FU a0 q1 s7
  · exact ok_throwSW C T tlX6_84_88 (i := 16) rfl dX6_tighten_13 dX6_tighten_16 dX6_tighten_17 dX6_tighten_20 dX6_tighten_23 (by rw [hR.1]; decide) (by rw [hR.2]; exact Nat.le_of_ble_eq_true rfl)
theorem ctX6_tighten {l : Launch} (hl : l.stackTraces = false) {D : va_G} {dA : Nat → ClassId} {B0 : Nat} (a0 : Nat) (x1 : Int32) : Ct l D dA B0 yX6_tighten (.code yX6_tighten cX6_tighten 3 (some (.int)) :: ax_ALL) 8 164 [.ref a0, .int x1] (fX6_tighten a0 x1) :=
  Ct.of hl (by decide +kernel) (Nat.le_of_ble_eq_true rfl) fun Γ C _ _ _ _ e5 e6 e7 T hin => oX6_tighten C T e5 ⟨e6, e7⟩ hin a0 x1 _
/-! ChaseLocker.needTurns(I)V -/
def fX6_needTurns (x0 : Int32) (s0 : AS) : Option AR :=
  if x0 < (1 : Int32) then (
    tE "java/lang/IllegalArgumentException" s0)
  else (
    if x0 ≤ (100 : Int32) then (
      some (.inl none, s0))
    else (
      tE "java/lang/IllegalArgumentException" s0))
set_option maxHeartbeats 4000000 in
theorem oX6_needTurns {Γ : CX} (C : OKC Γ cX6_needTurns RX6 none) (T : ∀ z ∈ (cx_c Γ).exceptionTable.toList, False) (hn : cx_nL Γ = 1) (hR : cx_fr Γ = 6 ∧ cx_lo Γ = 90) (hin : (cx_meth Γ).name = yX6_needTurns.name) : ∀ (x0 : Int32) (s0 : AS), OK Γ 0 [(0, .int x0)] [] (fX6_needTurns x0 s0) s0 := by
  intro x0 s0
  unfold fX6_needTurns
  refine ok_iload_n C 0 dX6_needTurns_0 rfl ?_
  refine ok_iconst C (v := 1) dX6_needTurns_1 (by decide) ?_
  refine ok_icmp_lt C 11 dX6_needTurns_2 (by decide) ?_ ?_
  · exact ok_throwSW C T tlX6_84_88 (i := 25) rfl dX6_needTurns_11 dX6_needTurns_14 dX6_needTurns_15 dX6_needTurns_18 dX6_needTurns_21 (by rw [hR.1]; decide) (by rw [hR.2]; exact Nat.le_of_ble_eq_true rfl)
  · refine ok_iload_n C 0 dX6_needTurns_5 rfl ?_
    refine ok_bipush C (v := 100) dX6_needTurns_6 (by decide) ?_
    refine ok_icmp_le C 22 dX6_needTurns_8 (by decide) ?_ ?_
    · exact ok_vreturn C dX6_needTurns_22
    · exact ok_throwSW C T tlX6_84_88 (i := 25) rfl dX6_needTurns_11 dX6_needTurns_14 dX6_needTurns_15 dX6_needTurns_18 dX6_needTurns_21 (by rw [hR.1]; decide) (by rw [hR.2]; exact Nat.le_of_ble_eq_true rfl)
theorem ctX6_needTurns {l : Launch} (hl : l.stackTraces = false) {D : va_G} {dA : Nat → ClassId} {B0 : Nat} (x0 : Int32) : Ct l D dA B0 yX6_needTurns (.code yX6_needTurns cX6_needTurns 1 (none) :: ax_ALL) 6 90 [.int x0] (fX6_needTurns x0) :=
  Ct.of hl (by decide +kernel) (Nat.le_of_ble_eq_true rfl) fun Γ C _ _ _ _ e5 e6 e7 T hin => oX6_needTurns C T e5 ⟨e6, e7⟩ hin x0 _
/-! ChaseLocker.print(I)I -/
def fX6_print (a0 : Nat) (x1 : Int32) (s0 : AS) : Option AR :=
  cV s0 a0 10 (fX6_needChase a0 s0) (qV (fun s1 =>
  cS s1 (fX6_needTurns x1 s1) (qV (fun s2 =>
  gR s2 a0 10 2 (fun q3 =>
  gR s2 a0 10 3 (fun q4 =>
  cV s2 q3 4 (fX0_remember q3 q4 s2) (qV (fun s5 =>
  gR s5 a0 10 3 (fun q6 =>
  gR s5 a0 10 8 (fun q7 =>
  cV s5 q6 9 (fX5_impressOften q6 q7 x1 s5) (qI (fun v8 s9 =>
  some (.inl (some (.int v8)), s9)))))))))))))
set_option maxHeartbeats 4000000 in
theorem oX6_print {Γ : CX} (C : OKC Γ cX6_print RX6 (some (.int))) (T : ∀ z ∈ (cx_c Γ).exceptionTable.toList, False) (hn : cx_nL Γ = 2) (hR : cx_fr Γ = 7 ∧ cx_lo Γ = 193) (hin : (cx_meth Γ).name = yX6_print.name) : ∀ (a0 : Nat) (x1 : Int32) (s0 : AS), OK Γ 0 [(0, .ref a0), (1, .int x1)] [] (fX6_print a0 x1 s0) s0 := by
  intro a0 x1 s0
  unfold fX6_print
  refine ok_aload_n C 0 dX6_print_0 rfl ?_
  refine ok_callV C T [] (F := fX6_needChase a0) (ctX6_needChase (C.2.2.2.2.2.2.2.2.1) a0) vlX6_112 viX6_needChase rfl rfl (by decide) rfl (by rw [hR.1, hR.2]; decide) (Nat.le_of_ble_eq_true rfl) dX6_print_1 (ok_qV fun s1 => ?_)
  refine ok_iload_n C 1 dX6_print_4 rfl ?_
  refine ok_callS C T [.int x1] (F := fX6_needTurns x1) (ctX6_needTurns (C.2.2.2.2.2.2.2.2.1) x1) vlX6_417 kw_694 rfl (by rw [hR.1, hR.2]; decide) (Nat.le_of_ble_eq_true rfl) dX6_print_5 (ok_qV fun s2 => ?_)
  refine ok_aload_n C 0 dX6_print_8 rfl ?_
  refine ok_getR C frX6_26_10 dX6_print_9 (fun q3 => ?_)
  refine ok_aload_n C 0 dX6_print_12 rfl ?_
  refine ok_getR C frX6_33_10 dX6_print_13 (fun q4 => ?_)
  refine ok_callV C T [.ref q4] (F := fX0_remember q3 q4) (ctX0_remember (C.2.2.2.2.2.2.2.2.1) q3 q4) vlX6_378 viX0_remember rfl rfl (by decide) rfl (by rw [hR.1, hR.2]; decide) (Nat.le_of_ble_eq_true rfl) dX6_print_16 (ok_qV fun s5 => ?_)
  refine ok_aload_n C 0 dX6_print_19 rfl ?_
  refine ok_getR C frX6_33_10 dX6_print_20 (fun q6 => ?_)
  refine ok_aload_n C 0 dX6_print_23 rfl ?_
  refine ok_getR C frX6_58_10 dX6_print_24 (fun q7 => ?_)
  refine ok_iload_n C 1 dX6_print_27 rfl ?_
  refine ok_callV C T [.ref q7, .int x1] (F := fX5_impressOften q6 q7 x1) (ctX5_impressOften (C.2.2.2.2.2.2.2.2.1) q6 q7 x1) vlX6_342 viX5_impressOften rfl rfl (by decide) rfl (by rw [hR.1, hR.2]; decide) (Nat.le_of_ble_eq_true rfl) dX6_print_28 (ok_qI fun v8 s9 => ?_)
  exact ok_ireturn C dX6_print_31
theorem ctX6_print {l : Launch} (hl : l.stackTraces = false) {D : va_G} {dA : Nat → ClassId} {B0 : Nat} (a0 : Nat) (x1 : Int32) : Ct l D dA B0 yX6_print (.code yX6_print cX6_print 2 (some (.int)) :: ax_ALL) 7 193 [.ref a0, .int x1] (fX6_print a0 x1) :=
  Ct.of hl (by decide +kernel) (Nat.le_of_ble_eq_true rfl) fun Γ C _ _ _ _ e5 e6 e7 T hin => oX6_print C T e5 ⟨e6, e7⟩ hin a0 x1 _
/-! ChaseLocker.rest(I)I -/
def fX6_rest_23  : Nat → Nat → Int32 → Int32 → Int32 → AS → Option AR
  | 0, _, _, _, _, _ => none
  | n + 1, a0, x1, x2, x3, s0 =>
    if x1 ≤ x3 then (
      some (.inl (some (.int x2)), s0))
    else (
      gR s0 a0 10 3 (fun q1 =>
      gR s0 a0 10 8 (fun q2 =>
      cV s0 q1 9 (fX5_passDay q1 q2 s0) (qI (fun v3 s4 =>
      lt (x2 + v3) (fun v5 =>
      lt (x3 + 1) (fun v6 =>
      fX6_rest_23 n a0 x1 v5 v6 s4)))))))
def fX6_rest (a0 : Nat) (x1 : Int32) (s0 : AS) : Option AR :=
  cV s0 a0 10 (fX6_needChase a0 s0) (qV (fun s1 =>
  cS s1 (fX6_needTurns x1 s1) (qV (fun s2 =>
  gR s2 a0 10 2 (fun q3 =>
  gR s2 a0 10 3 (fun q4 =>
  cV s2 q3 4 (fX0_remember q3 q4 s2) (qV (fun s5 =>
  fX6_rest_23 FU a0 x1 0 0 s5))))))))
set_option maxHeartbeats 4000000 in
theorem oX6_rest_23 {Γ : CX} (C : OKC Γ cX6_rest RX6 (some (.int))) (T : ∀ z ∈ (cx_c Γ).exceptionTable.toList, False) (hn : cx_nL Γ = 4) (hR : cx_fr Γ = 7 ∧ cx_lo Γ = 169) (hin : (cx_meth Γ).name = yX6_rest.name) : ∀ (n : Nat) (a0 : Nat) (x1 : Int32) (x2 : Int32) (x3 : Int32) (s0 : AS), OK Γ 23 [(0, .ref a0), (1, .int x1), (2, .int x2), (3, .int x3)] [] (fX6_rest_23 n a0 x1 x2 x3 s0) s0 := by
  intro n
  induction n with
  | zero => intro _ _ _ _ s0; exact OK.none
  | succ n ih =>
    intro a0 x1 x2 x3 s0
    rw [fX6_rest_23]
    refine ok_iload_n C 3 dX6_rest_23 rfl ?_
    refine ok_iload_n C 1 dX6_rest_24 rfl ?_
    refine ok_icmp_ge C 48 dX6_rest_25 (by decide) ?_ ?_
    · refine ok_iload_n C 2 dX6_rest_48 rfl ?_
      exact ok_ireturn C dX6_rest_49
    · refine ok_iload_n C 2 dX6_rest_28 rfl ?_
      refine ok_aload_n C 0 dX6_rest_29 rfl ?_
      refine ok_getR C frX6_33_10 dX6_rest_30 (fun q1 => ?_)
      refine ok_aload_n C 0 dX6_rest_33 rfl ?_
      refine ok_getR C frX6_58_10 dX6_rest_34 (fun q2 => ?_)
      refine ok_callV C T [.ref q2] (F := fX5_passDay q1 q2) (ctX5_passDay (C.2.2.2.2.2.2.2.2.1) q1 q2) vlX6_420 viX5_passDay rfl rfl (by decide) rfl (by rw [hR.1, hR.2]; decide) (Nat.le_of_ble_eq_true rfl) dX6_rest_37 (ok_qI fun v3 s4 => ?_)
      refine ok_iadd C dX6_rest_40 ?_
      refine ok_lt (fun v5 => ?_)
      refine ok_istore_n C (i := 2) [(2, .int v5), (0, .ref a0), (1, .int x1), (3, .int x3)] dX6_rest_41 rfl (by rw [hn]; decide) rfl ?_
      refine ok_iincL C 3 (c := 1) (fun v6 => [(3, .int v6), (2, .int v5), (0, .ref a0), (1, .int x1)]) dX6_rest_42 rfl rfl (by rw [hn]; decide) (fun _ => rfl) (fun v6 => ?_)
      refine ok_goto C 23 dX6_rest_45 (by decide) ?_
      refine OK.sub (lv' := [(0, .ref a0), (1, .int x1), (2, .int v5), (3, .int v6)]) [2, 3, 1, 0] rfl ?_
      exact ih a0 x1 v5 v6 s4
set_option maxHeartbeats 4000000 in
theorem oX6_rest {Γ : CX} (C : OKC Γ cX6_rest RX6 (some (.int))) (T : ∀ z ∈ (cx_c Γ).exceptionTable.toList, False) (hn : cx_nL Γ = 4) (hR : cx_fr Γ = 7 ∧ cx_lo Γ = 169) (hin : (cx_meth Γ).name = yX6_rest.name) : ∀ (a0 : Nat) (x1 : Int32) (s0 : AS), OK Γ 0 [(0, .ref a0), (1, .int x1)] [] (fX6_rest a0 x1 s0) s0 := by
  intro a0 x1 s0
  unfold fX6_rest
  refine ok_aload_n C 0 dX6_rest_0 rfl ?_
  refine ok_callV C T [] (F := fX6_needChase a0) (ctX6_needChase (C.2.2.2.2.2.2.2.2.1) a0) vlX6_112 viX6_needChase rfl rfl (by decide) rfl (by rw [hR.1, hR.2]; decide) (Nat.le_of_ble_eq_true rfl) dX6_rest_1 (ok_qV fun s1 => ?_)
  refine ok_iload_n C 1 dX6_rest_4 rfl ?_
  refine ok_callS C T [.int x1] (F := fX6_needTurns x1) (ctX6_needTurns (C.2.2.2.2.2.2.2.2.1) x1) vlX6_417 kw_694 rfl (by rw [hR.1, hR.2]; decide) (Nat.le_of_ble_eq_true rfl) dX6_rest_5 (ok_qV fun s2 => ?_)
  refine ok_aload_n C 0 dX6_rest_8 rfl ?_
  refine ok_getR C frX6_26_10 dX6_rest_9 (fun q3 => ?_)
  refine ok_aload_n C 0 dX6_rest_12 rfl ?_
  refine ok_getR C frX6_33_10 dX6_rest_13 (fun q4 => ?_)
  refine ok_callV C T [.ref q4] (F := fX0_remember q3 q4) (ctX0_remember (C.2.2.2.2.2.2.2.2.1) q3 q4) vlX6_378 viX0_remember rfl rfl (by decide) rfl (by rw [hR.1, hR.2]; decide) (Nat.le_of_ble_eq_true rfl) dX6_rest_16 (ok_qV fun s5 => ?_)
  refine ok_iconst C (v := 0) dX6_rest_19 (by decide) ?_
  refine ok_istore_n C (i := 2) [(2, .int 0), (0, .ref a0), (1, .int x1)] dX6_rest_20 rfl (by rw [hn]; decide) rfl ?_
  refine ok_iconst C (v := 0) dX6_rest_21 (by decide) ?_
  refine ok_istore_n C (i := 3) [(3, .int 0), (2, .int 0), (0, .ref a0), (1, .int x1)] dX6_rest_22 rfl (by rw [hn]; decide) rfl ?_
  refine OK.sub (lv' := [(0, .ref a0), (1, .int x1), (2, .int 0), (3, .int 0)]) [2, 3, 1, 0] rfl ?_
  exact oX6_rest_23 C T hn hR hin FU a0 x1 0 0 s5
theorem ctX6_rest {l : Launch} (hl : l.stackTraces = false) {D : va_G} {dA : Nat → ClassId} {B0 : Nat} (a0 : Nat) (x1 : Int32) : Ct l D dA B0 yX6_rest (.code yX6_rest cX6_rest 4 (some (.int)) :: ax_ALL) 7 169 [.ref a0, .int x1] (fX6_rest a0 x1) :=
  Ct.of hl (by decide +kernel) (Nat.le_of_ble_eq_true rfl) fun Γ C _ _ _ _ e5 e6 e7 T hin => oX6_rest C T e5 ⟨e6, e7⟩ hin a0 x1 _
/-! ChaseLocker.buy(II)I -/
def fX6_buy (a0 : Nat) (x1 : Int32) (x2 : Int32) (s0 : AS) : Option AR :=
  cV s0 a0 10 (fX6_needChase a0 s0) (qV (fun s1 =>
  cV s1 a0 10 (fX6_needKind a0 x1 s1) (qV (fun s2 =>
  if x2 < (1 : Int32) then (
    tE "java/lang/IllegalArgumentException" s2)
  else (
    if (99 : Int32) < x2 then (
      tE "java/lang/IllegalArgumentException" s2)
    else (
      gR s2 a0 10 3 (fun q3 =>
      gR s2 q3 9 1 (fun q4 =>
      aI s2 q4 100 x1 (fun v5 =>
      if v5 ≤ (99 - x2) then (
        gR s2 a0 10 2 (fun q6 =>
        gR s2 a0 10 3 (fun q7 =>
        cV s2 q6 4 (fX0_remember q6 q7 s2) (qV (fun s8 =>
        gR s8 a0 10 3 (fun q9 =>
        gR s8 q9 9 1 (fun q10 =>
        aI s8 q10 100 x1 (fun v11 =>
        uI s8 q10 x1 (v11 + x2) (fun s12 =>
        gR s12 a0 10 3 (fun q13 =>
        gR s12 q13 9 1 (fun q14 =>
        aI s12 q14 100 x1 (fun v15 =>
        some (.inl (some (.int v15)), s12)))))))))))))
      else (
        tE "java/lang/IllegalArgumentException" s2))))))))))
set_option maxHeartbeats 4000000 in
theorem oX6_buy {Γ : CX} (C : OKC Γ cX6_buy RX6 (some (.int))) (T : ∀ z ∈ (cx_c Γ).exceptionTable.toList, False) (hn : cx_nL Γ = 3) (hR : cx_fr Γ = 7 ∧ cx_lo Γ = 164) (hin : (cx_meth Γ).name = yX6_buy.name) : ∀ (a0 : Nat) (x1 : Int32) (x2 : Int32) (s0 : AS), OK Γ 0 [(0, .ref a0), (1, .int x1), (2, .int x2)] [] (fX6_buy a0 x1 x2 s0) s0 := by
  intro a0 x1 x2 s0
  unfold fX6_buy
  refine ok_aload_n C 0 dX6_buy_0 rfl ?_
  refine ok_callV C T [] (F := fX6_needChase a0) (ctX6_needChase (C.2.2.2.2.2.2.2.2.1) a0) vlX6_112 viX6_needChase rfl rfl (by decide) rfl (by rw [hR.1, hR.2]; decide) (Nat.le_of_ble_eq_true rfl) dX6_buy_1 (ok_qV fun s1 => ?_)
  refine ok_aload_n C 0 dX6_buy_4 rfl ?_
  refine ok_iload_n C 1 dX6_buy_5 rfl ?_
  refine ok_callV C T [.int x1] (F := fX6_needKind a0 x1) (ctX6_needKind (C.2.2.2.2.2.2.2.2.1) a0 x1) vlX6_219 viX6_needKind rfl rfl (by decide) rfl (by rw [hR.1, hR.2]; decide) (Nat.le_of_ble_eq_true rfl) dX6_buy_6 (ok_qV fun s2 => ?_)
  refine ok_iload_n C 2 dX6_buy_9 rfl ?_
  refine ok_iconst C (v := 1) dX6_buy_10 (by decide) ?_
  refine ok_icmp_lt C 36 dX6_buy_11 (by decide) ?_ ?_
  · exact ok_throwSW C T tlX6_84_88 (i := 17) rfl dX6_buy_36 dX6_buy_39 dX6_buy_40 dX6_buy_43 dX6_buy_46 (by rw [hR.1]; decide) (by rw [hR.2]; exact Nat.le_of_ble_eq_true rfl)
  · refine ok_iload_n C 2 dX6_buy_14 rfl ?_
    refine ok_bipush C (v := 99) dX6_buy_15 (by decide) ?_
    refine ok_icmp_gt C 36 dX6_buy_17 (by decide) ?_ ?_
    · exact ok_throwSW C T tlX6_84_88 (i := 17) rfl dX6_buy_36 dX6_buy_39 dX6_buy_40 dX6_buy_43 dX6_buy_46 (by rw [hR.1]; decide) (by rw [hR.2]; exact Nat.le_of_ble_eq_true rfl)
    · refine ok_aload_n C 0 dX6_buy_20 rfl ?_
      refine ok_getR C frX6_33_10 dX6_buy_21 (fun q3 => ?_)
      refine ok_getR C frX6_230_9 dX6_buy_24 (fun q4 => ?_)
      refine ok_iload_n C 1 dX6_buy_27 rfl ?_
      refine ok_iald C dX6_buy_28 (fun v5 => ?_)
      refine ok_bipush C (v := 99) dX6_buy_29 (by decide) ?_
      refine ok_iload_n C 2 dX6_buy_31 rfl ?_
      refine ok_isub C dX6_buy_32 ?_
      refine ok_icmp_le C 47 dX6_buy_33 (by decide) ?_ ?_
      · refine ok_aload_n C 0 dX6_buy_47 rfl ?_
        refine ok_getR C frX6_26_10 dX6_buy_48 (fun q6 => ?_)
        refine ok_aload_n C 0 dX6_buy_51 rfl ?_
        refine ok_getR C frX6_33_10 dX6_buy_52 (fun q7 => ?_)
        refine ok_callV C T [.ref q7] (F := fX0_remember q6 q7) (ctX0_remember (C.2.2.2.2.2.2.2.2.1) q6 q7) vlX6_378 viX0_remember rfl rfl (by decide) rfl (by rw [hR.1, hR.2]; decide) (Nat.le_of_ble_eq_true rfl) dX6_buy_55 (ok_qV fun s8 => ?_)
        refine ok_aload_n C 0 dX6_buy_58 rfl ?_
        refine ok_getR C frX6_33_10 dX6_buy_59 (fun q9 => ?_)
        refine ok_getR C frX6_230_9 dX6_buy_62 (fun q10 => ?_)
        refine ok_iload_n C 1 dX6_buy_65 rfl ?_
        refine ok_dup2 C dX6_buy_66 rfl rfl ?_
        refine ok_iald C dX6_buy_67 (fun v11 => ?_)
        refine ok_iload_n C 2 dX6_buy_68 rfl ?_
        refine ok_iadd C dX6_buy_69 ?_
        refine ok_iast C dX6_buy_70 (fun s12 _ => ?_)
        refine ok_aload_n C 0 dX6_buy_71 rfl ?_
        refine ok_getR C frX6_33_10 dX6_buy_72 (fun q13 => ?_)
        refine ok_getR C frX6_230_9 dX6_buy_75 (fun q14 => ?_)
        refine ok_iload_n C 1 dX6_buy_78 rfl ?_
        refine ok_iald C dX6_buy_79 (fun v15 => ?_)
        exact ok_ireturn C dX6_buy_80
      · exact ok_throwSW C T tlX6_84_88 (i := 17) rfl dX6_buy_36 dX6_buy_39 dX6_buy_40 dX6_buy_43 dX6_buy_46 (by rw [hR.1]; decide) (by rw [hR.2]; exact Nat.le_of_ble_eq_true rfl)
theorem ctX6_buy {l : Launch} (hl : l.stackTraces = false) {D : va_G} {dA : Nat → ClassId} {B0 : Nat} (a0 : Nat) (x1 : Int32) (x2 : Int32) : Ct l D dA B0 yX6_buy (.code yX6_buy cX6_buy 3 (some (.int)) :: ax_ALL) 7 164 [.ref a0, .int x1, .int x2] (fX6_buy a0 x1 x2) :=
  Ct.of hl (by decide +kernel) (Nat.le_of_ble_eq_true rfl) fun Γ C _ _ _ _ e5 e6 e7 T hin => oX6_buy C T e5 ⟨e6, e7⟩ hin a0 x1 x2 _
/-! ChaseLocker.undo()I -/
def fX6_undo (a0 : Nat) (s0 : AS) : Option AR :=
  gR s0 a0 10 2 (fun q1 =>
  gI s0 q1 4 2 (fun v2 =>
  if v2 = 0 then (
    tE "java/lang/IllegalStateException" s0)
  else (
    gR s0 a0 10 2 (fun q3 =>
    gR s0 a0 10 3 (fun q4 =>
    cV s0 q3 4 (fX0_bringBack q3 q4 s0) (qV (fun s5 =>
    gR s5 a0 10 2 (fun q6 =>
    gI s5 q6 4 2 (fun v7 =>
    some (.inl (some (.int v7)), s5))))))))))
set_option maxHeartbeats 4000000 in
theorem oX6_undo {Γ : CX} (C : OKC Γ cX6_undo RX6 (some (.int))) (T : ∀ z ∈ (cx_c Γ).exceptionTable.toList, False) (hn : cx_nL Γ = 1) (hR : cx_fr Γ = 6 ∧ cx_lo Γ = 164) (hin : (cx_meth Γ).name = yX6_undo.name) : ∀ (a0 : Nat) (s0 : AS), OK Γ 0 [(0, .ref a0)] [] (fX6_undo a0 s0) s0 := by
  intro a0 s0
  unfold fX6_undo
  refine ok_aload_n C 0 dX6_undo_0 rfl ?_
  refine ok_getR C frX6_26_10 dX6_undo_1 (fun q1 => ?_)
  refine ok_getI C frX6_425_4 dX6_undo_4 (fun v2 => ?_)
  refine ok_if_ne C 21 dX6_undo_7 (by decide) ?_ ?_
  · refine ok_aload_n C 0 dX6_undo_21 rfl ?_
    refine ok_getR C frX6_26_10 dX6_undo_22 (fun q3 => ?_)
    refine ok_aload_n C 0 dX6_undo_25 rfl ?_
    refine ok_getR C frX6_33_10 dX6_undo_26 (fun q4 => ?_)
    refine ok_callV C T [.ref q4] (F := fX0_bringBack q3 q4) (ctX0_bringBack (C.2.2.2.2.2.2.2.2.1) q3 q4) vlX6_433 viX0_bringBack rfl rfl (by decide) rfl (by rw [hR.1, hR.2]; decide) (Nat.le_of_ble_eq_true rfl) dX6_undo_29 (ok_qV fun s5 => ?_)
    refine ok_aload_n C 0 dX6_undo_32 rfl ?_
    refine ok_getR C frX6_26_10 dX6_undo_33 (fun q6 => ?_)
    refine ok_getI C frX6_425_4 dX6_undo_36 (fun v7 => ?_)
    exact ok_ireturn C dX6_undo_39
  · exact ok_throwSW C T tlX6_428_432 (i := 18) rfl dX6_undo_10 dX6_undo_13 dX6_undo_14 dX6_undo_17 dX6_undo_20 (by rw [hR.1]; decide) (by rw [hR.2]; exact Nat.le_of_ble_eq_true rfl)
theorem ctX6_undo {l : Launch} (hl : l.stackTraces = false) {D : va_G} {dA : Nat → ClassId} {B0 : Nat} (a0 : Nat) : Ct l D dA B0 yX6_undo (.code yX6_undo cX6_undo 1 (some (.int)) :: ax_ALL) 6 164 [.ref a0] (fX6_undo a0) :=
  Ct.of hl (by decide +kernel) (Nat.le_of_ble_eq_true rfl) fun Γ C _ _ _ _ e5 e6 e7 T hin => oX6_undo C T e5 ⟨e6, e7⟩ hin a0 _
/-! ChaseLocker.undoable()I -/
def fX6_undoable (a0 : Nat) (s0 : AS) : Option AR :=
  gR s0 a0 10 2 (fun q1 =>
  gI s0 q1 4 2 (fun v2 =>
  some (.inl (some (.int v2)), s0)))
set_option maxHeartbeats 4000000 in
theorem oX6_undoable {Γ : CX} (C : OKC Γ cX6_undoable RX6 (some (.int))) (T : ∀ z ∈ (cx_c Γ).exceptionTable.toList, False) (hn : cx_nL Γ = 1) (hR : cx_fr Γ = 1 ∧ cx_lo Γ = 60) (hin : (cx_meth Γ).name = yX6_undoable.name) : ∀ (a0 : Nat) (s0 : AS), OK Γ 0 [(0, .ref a0)] [] (fX6_undoable a0 s0) s0 := by
  intro a0 s0
  unfold fX6_undoable
  refine ok_aload_n C 0 dX6_undoable_0 rfl ?_
  refine ok_getR C frX6_26_10 dX6_undoable_1 (fun q1 => ?_)
  refine ok_getI C frX6_425_4 dX6_undoable_4 (fun v2 => ?_)
  exact ok_ireturn C dX6_undoable_7
theorem ctX6_undoable {l : Launch} (hl : l.stackTraces = false) {D : va_G} {dA : Nat → ClassId} {B0 : Nat} (a0 : Nat) : Ct l D dA B0 yX6_undoable (.code yX6_undoable cX6_undoable 1 (some (.int)) :: ax_ALL) 1 60 [.ref a0] (fX6_undoable a0) :=
  Ct.of hl (by decide +kernel) (Nat.le_of_ble_eq_true rfl) fun Γ C _ _ _ _ e5 e6 e7 T hin => oX6_undoable C T e5 ⟨e6, e7⟩ hin a0 _
/-! ChaseLocker.save(I)I -/
def fX6_save (a0 : Nat) (x1 : Int32) (s0 : AS) : Option AR :=
  cV s0 a0 10 (fX6_needChase a0 s0) (qV (fun s1 =>
  cS s1 (fX6_needIndex x1 2 s1) (qV (fun s2 =>
  gR s2 a0 10 5 (fun q3 =>
  aR s2 q3 112 x1 (fun q4 =>
  gR s2 a0 10 3 (fun q5 =>
  cV s2 q4 9 (fX5_copyFrom q4 q5 s2) (qV (fun s6 =>
  gR s6 a0 10 6 (fun q7 =>
  uN 101 .boolean s6 q7 x1 1 (fun s8 =>
  gR s8 a0 10 3 (fun q9 =>
  gI s8 q9 9 3 (fun v10 =>
  some (.inl (some (.int v10)), s8))))))))))))))
set_option maxHeartbeats 4000000 in
theorem oX6_save {Γ : CX} (C : OKC Γ cX6_save RX6 (some (.int))) (T : ∀ z ∈ (cx_c Γ).exceptionTable.toList, False) (hn : cx_nL Γ = 2) (hR : cx_fr Γ = 7 ∧ cx_lo Γ = 143) (hin : (cx_meth Γ).name = yX6_save.name) : ∀ (a0 : Nat) (x1 : Int32) (s0 : AS), OK Γ 0 [(0, .ref a0), (1, .int x1)] [] (fX6_save a0 x1 s0) s0 := by
  intro a0 x1 s0
  unfold fX6_save
  refine ok_aload_n C 0 dX6_save_0 rfl ?_
  refine ok_callV C T [] (F := fX6_needChase a0) (ctX6_needChase (C.2.2.2.2.2.2.2.2.1) a0) vlX6_112 viX6_needChase rfl rfl (by decide) rfl (by rw [hR.1, hR.2]; decide) (Nat.le_of_ble_eq_true rfl) dX6_save_1 (ok_qV fun s1 => ?_)
  refine ok_iload_n C 1 dX6_save_4 rfl ?_
  refine ok_iconst C (v := 2) dX6_save_5 (by decide) ?_
  refine ok_callS C T [.int x1, .int 2] (F := fX6_needIndex x1 2) (ctX6_needIndex (C.2.2.2.2.2.2.2.2.1) x1 2) vlX6_208 kw_568 rfl (by rw [hR.1, hR.2]; decide) (Nat.le_of_ble_eq_true rfl) dX6_save_6 (ok_qV fun s2 => ?_)
  refine ok_aload_n C 0 dX6_save_9 rfl ?_
  refine ok_getR C frX6_40_10 dX6_save_10 (fun q3 => ?_)
  refine ok_iload_n C 1 dX6_save_13 rfl ?_
  refine ok_aald C 112 8 (fun _ => rfl) (by decide) dX6_save_14 (fun q4 => ?_)
  refine ok_aload_n C 0 dX6_save_15 rfl ?_
  refine ok_getR C frX6_33_10 dX6_save_16 (fun q5 => ?_)
  refine ok_callV C T [.ref q5] (F := fX5_copyFrom q4 q5) (ctX5_copyFrom (C.2.2.2.2.2.2.2.2.1) q4 q5) vlX6_95 viX5_copyFrom rfl rfl (by decide) rfl (by rw [hR.1, hR.2]; decide) (Nat.le_of_ble_eq_true rfl) dX6_save_19 (ok_qV fun s6 => ?_)
  refine ok_aload_n C 0 dX6_save_22 rfl ?_
  refine ok_getR C frX6_44_10 dX6_save_23 (fun q7 => ?_)
  refine ok_iload_n C 1 dX6_save_26 rfl ?_
  refine ok_iconst C (v := 1) dX6_save_27 (by decide) ?_
  refine ok_zast C dX6_save_28 (fun s8 _ => ?_)
  refine ok_aload_n C 0 dX6_save_29 rfl ?_
  refine ok_getR C frX6_33_10 dX6_save_30 (fun q9 => ?_)
  refine ok_getI C frX6_132_9 dX6_save_33 (fun v10 => ?_)
  exact ok_ireturn C dX6_save_36
theorem ctX6_save {l : Launch} (hl : l.stackTraces = false) {D : va_G} {dA : Nat → ClassId} {B0 : Nat} (a0 : Nat) (x1 : Int32) : Ct l D dA B0 yX6_save (.code yX6_save cX6_save 2 (some (.int)) :: ax_ALL) 7 143 [.ref a0, .int x1] (fX6_save a0 x1) :=
  Ct.of hl (by decide +kernel) (Nat.le_of_ble_eq_true rfl) fun Γ C _ _ _ _ e5 e6 e7 T hin => oX6_save C T e5 ⟨e6, e7⟩ hin a0 x1 _
/-! ChaseLocker.restore(I)I -/
def fX6_restore (a0 : Nat) (x1 : Int32) (s0 : AS) : Option AR :=
  cS s0 (fX6_needIndex x1 2 s0) (qV (fun s1 =>
  gR s1 a0 10 6 (fun q2 =>
  aI s1 q2 101 x1 (fun v3 =>
  if v3 = 0 then (
    tE "java/lang/IllegalStateException" s1)
  else (
    gR s1 a0 10 3 (fun q4 =>
    gR s1 a0 10 5 (fun q5 =>
    aR s1 q5 112 x1 (fun q6 =>
    cV s1 q4 9 (fX5_copyFrom q4 q6 s1) (qV (fun s7 =>
    gR s7 a0 10 2 (fun q8 =>
    cV s7 q8 4 (fX0_clear q8 s7) (qV (fun s9 =>
    gR s9 a0 10 3 (fun q10 =>
    gI s9 q10 9 3 (fun v11 =>
    some (.inl (some (.int v11)), s9))))))))))))))))
set_option maxHeartbeats 4000000 in
theorem oX6_restore {Γ : CX} (C : OKC Γ cX6_restore RX6 (some (.int))) (T : ∀ z ∈ (cx_c Γ).exceptionTable.toList, False) (hn : cx_nL Γ = 2) (hR : cx_fr Γ = 7 ∧ cx_lo Γ = 143) (hin : (cx_meth Γ).name = yX6_restore.name) : ∀ (a0 : Nat) (x1 : Int32) (s0 : AS), OK Γ 0 [(0, .ref a0), (1, .int x1)] [] (fX6_restore a0 x1 s0) s0 := by
  intro a0 x1 s0
  unfold fX6_restore
  refine ok_iload_n C 1 dX6_restore_0 rfl ?_
  refine ok_iconst C (v := 2) dX6_restore_1 (by decide) ?_
  refine ok_callS C T [.int x1, .int 2] (F := fX6_needIndex x1 2) (ctX6_needIndex (C.2.2.2.2.2.2.2.2.1) x1 2) vlX6_208 kw_568 rfl (by rw [hR.1, hR.2]; decide) (Nat.le_of_ble_eq_true rfl) dX6_restore_2 (ok_qV fun s1 => ?_)
  refine ok_aload_n C 0 dX6_restore_5 rfl ?_
  refine ok_getR C frX6_44_10 dX6_restore_6 (fun q2 => ?_)
  refine ok_iload_n C 1 dX6_restore_9 rfl ?_
  refine ok_zald C dX6_restore_10 (fun v3 => ?_)
  refine ok_if_ne C 25 dX6_restore_11 (by decide) ?_ ?_
  · refine ok_aload_n C 0 dX6_restore_25 rfl ?_
    refine ok_getR C frX6_33_10 dX6_restore_26 (fun q4 => ?_)
    refine ok_aload_n C 0 dX6_restore_29 rfl ?_
    refine ok_getR C frX6_40_10 dX6_restore_30 (fun q5 => ?_)
    refine ok_iload_n C 1 dX6_restore_33 rfl ?_
    refine ok_aald C 112 8 (fun _ => rfl) (by decide) dX6_restore_34 (fun q6 => ?_)
    refine ok_callV C T [.ref q6] (F := fX5_copyFrom q4 q6) (ctX5_copyFrom (C.2.2.2.2.2.2.2.2.1) q4 q6) vlX6_95 viX5_copyFrom rfl rfl (by decide) rfl (by rw [hR.1, hR.2]; decide) (Nat.le_of_ble_eq_true rfl) dX6_restore_35 (ok_qV fun s7 => ?_)
    refine ok_aload_n C 0 dX6_restore_38 rfl ?_
    refine ok_getR C frX6_26_10 dX6_restore_39 (fun q8 => ?_)
    refine ok_callV C T [] (F := fX0_clear q8) (ctX0_clear (C.2.2.2.2.2.2.2.2.1) q8) vlX6_99 viX0_clear rfl rfl (by decide) rfl (by rw [hR.1, hR.2]; decide) (Nat.le_of_ble_eq_true rfl) dX6_restore_42 (ok_qV fun s9 => ?_)
    refine ok_aload_n C 0 dX6_restore_45 rfl ?_
    refine ok_getR C frX6_33_10 dX6_restore_46 (fun q10 => ?_)
    refine ok_getI C frX6_132_9 dX6_restore_49 (fun v11 => ?_)
    exact ok_ireturn C dX6_restore_52
  · exact ok_throwSW C T tlX6_428_432 (i := 19) rfl dX6_restore_14 dX6_restore_17 dX6_restore_18 dX6_restore_21 dX6_restore_24 (by rw [hR.1]; decide) (by rw [hR.2]; exact Nat.le_of_ble_eq_true rfl)
theorem ctX6_restore {l : Launch} (hl : l.stackTraces = false) {D : va_G} {dA : Nat → ClassId} {B0 : Nat} (a0 : Nat) (x1 : Int32) : Ct l D dA B0 yX6_restore (.code yX6_restore cX6_restore 2 (some (.int)) :: ax_ALL) 7 143 [.ref a0, .int x1] (fX6_restore a0 x1) :=
  Ct.of hl (by decide +kernel) (Nat.le_of_ble_eq_true rfl) fun Γ C _ _ _ _ e5 e6 e7 T hin => oX6_restore C T e5 ⟨e6, e7⟩ hin a0 x1 _
